/-! THE CLAIM -/
theorem i_vc : Claimed_1_1 ∧ Claimed_1_2 := i_vc_of (fun L xs hL => by
  have hq : ∀ h : px_H, (fun (o : px_O) (_ : px_H) => o = .inl (some (.int 1))) (.inl (some (.int 1))) h := fun _ => rfl
  obtain ⟨o, h', e, q⟩ := one_call (sx := (L, xs)) (Q := fun o _ => o = .inl (some (.int 1))) hL hq
  subst q
  exact ⟨h', e⟩)
