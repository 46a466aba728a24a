/-! THE POOLS' CHECKS -/
def px_has (a : Jvm.Cond) : Bool := (lw_tbl.any fun w => decide (w = a)) && px_okw a
theorem px_has_mem {a : Jvm.Cond} (h : px_has a = true) : a ∈ px_Ts := by
  unfold px_has at h
  rw [Bool.and_eq_true, List.any_eq_true] at h
  obtain ⟨⟨w, hw, he⟩, hk⟩ := h
  have := of_decide_eq_true he
  subst this
  exact List.mem_filter.mpr ⟨hw, hk⟩
def px_chkF (r : Nat × Nat × Nat × Nat × Nat × Bool × Nat) : Bool := match px_cl[r.2.2.1]? with
  | some q => decide (r.2.2.2.1 < q.2.2) && px_chk r.2.2.2.2.2.2 (.fieldLink (px_on r.1) r.2.1 q.1 (q.2.1 r.2.2.2.1).2.1 (q.2.1 r.2.2.2.1).2.2.1) && decide ((q.2.1 r.2.2.2.1).2.2.2 = r.2.2.2.2.2.1) &&
    (decide (r.2.2.1 ≠ r.1) || decide (q.1 = px_on r.1)) && decide (px_tyb ((parseFieldDescriptor (q.2.1 r.2.2.2.1).2.2.1).getD .int) = r.2.2.2.2.1)
  | none => false
theorem px_F0 : px_flds.all px_chkF = true := by decide +kernel
def px_aos : List (Nat × Nat) := [(2, 351), (5, 301), (7, 149), (8, 237)]
def px_chkK (r : Nat × Nat × Nat × Nat) : Bool := match px_cl[r.2.2.1]? with
  | some q => px_chk r.2.2.2 (.classLink (px_on r.1) r.2.1 q.1)
  | none => false
theorem px_K0 : px_clss.all px_chkK = true := by decide +kernel
def px_chkV (r : Nat × Nat × Value × Nat) : Bool := match r.2.2.1 with
  | .int v => px_chk r.2.2.2 (.constant (px_on r.1) r.2.1 v)
  | .long v => px_chk r.2.2.2 (.constantLong (px_on r.1) r.2.1 v)
  | .retAddr k => (match px_txt[k - 1]? with
    | some q => decide (1 ≤ k) && decide (q.1 = px_on r.1) && decide (q.2.1 = r.2.1)
    | none => false)
  | _ => false
theorem px_V0 : px_cons.all px_chkV = true := by decide +kernel
theorem px_A0 : (px_chk 178 (.arrayClass .byte) && px_chk 234 (.arrayClass .int) && px_chk 233 (.arrayClass .long) && px_chk 235 (.arrayClass .boolean)) = true := by decide +kernel
theorem px_found {β γ : Type} {l : List (Nat × Nat × β)} {own idx : Nat} {g : Nat × Nat × β → γ} {y : γ} (h : (l.find? (fun r => Nat.beq r.1 own && Nat.beq r.2.1 idx)).map g = some y) : ∃ r ∈ l, r.1 = own ∧ r.2.1 = idx ∧ g r = y := by
  obtain ⟨r, h1, h2⟩ := Option.map_eq_some_iff.mp h
  have h3 := List.find?_some h1
  rw [Bool.and_eq_true] at h3
  exact ⟨r, List.mem_of_find?_eq_some h1, Nat.eq_of_beq_eq_true h3.1, Nat.eq_of_beq_eq_true h3.2, h2⟩
theorem px_GoodM0 {M : px_M} (hn : px_Mn M = px_on (px_Mo M)) : px_GoodM px_G0 px_cl px_Ts M := by
  refine ⟨fun idx c f t fin h => ?_, fun idx c h => ?_, fun idx v h => ?_, fun idx v h => ?_, fun idx k h => ?_, ?_⟩
  · obtain ⟨⟨o, i, c', f', t', fin', pos⟩, hr, h1, h2, h3⟩ := px_found (l := px_flds) h
    dsimp only at h1 h2 h3
    cases h3
    have hk := List.all_eq_true.mp px_F0 _ hr
    unfold px_chkF at hk
    dsimp only at hk
    split at hk
    · next q hq =>
      simp only [Bool.and_eq_true, Bool.or_eq_true, decide_eq_true_eq] at hk
      obtain ⟨⟨⟨⟨k1, k2⟩, k3⟩, k4⟩, k5⟩ := hk
      refine ⟨q, hq, k1, by rw [hn, ← h1, ← h2]; exact px_chk_mem k2, k3, fun _ hc => ?_, k5⟩
      rcases k4 with k4 | k4
      · exact absurd (hc.trans h1.symm) k4
      · rw [hn, ← h1]; exact k4
    · cases hk
  · obtain ⟨⟨o, i, c', pos⟩, hr, h1, h2, h3⟩ := px_found (l := px_clss) h
    dsimp only at h1 h2 h3
    subst h3
    have hk := List.all_eq_true.mp px_K0 _ hr
    unfold px_chkK at hk
    dsimp only at hk
    split at hk
    · next q hq =>
      exact ⟨q, hq, by rw [hn, ← h1, ← h2]; exact px_chk_mem hk⟩
    · cases hk
  · obtain ⟨⟨o, i, v', pos⟩, hr, h1, h2, h3⟩ := px_found (l := px_cons) h
    dsimp only at h1 h2 h3
    subst h3
    have hk := List.all_eq_true.mp px_V0 _ hr
    unfold px_chkV at hk
    dsimp only at hk
    rw [hn, ← h1, ← h2]
    exact px_chk_mem hk
  · obtain ⟨⟨o, i, v', pos⟩, hr, h1, h2, h3⟩ := px_found (l := px_cons) h
    dsimp only at h1 h2 h3
    subst h3
    have hk := List.all_eq_true.mp px_V0 _ hr
    unfold px_chkV at hk
    dsimp only at hk
    rw [hn, ← h1, ← h2]
    exact px_chk_mem hk
  · obtain ⟨⟨o, i, v', pos⟩, hr, h1, h2, h3⟩ := px_found (l := px_cons) h
    dsimp only at h1 h2 h3
    subst h3
    have hk := List.all_eq_true.mp px_V0 _ hr
    unfold px_chkV at hk
    dsimp only at hk
    split at hk
    · next q hq =>
      simp only [Bool.and_eq_true, decide_eq_true_eq] at hk
      obtain ⟨⟨k1, k2⟩, k3⟩ := hk
      obtain ⟨q1, q2, q3⟩ := q
      dsimp only at k2 k3
      subst k2; subst k3
      exact ⟨k - 1, q3, by omega, by rw [hn, ← h1, ← h2]; exact hq⟩
    · cases hk
  · have h := px_A0
    simp only [Bool.and_eq_true] at h
    exact ⟨px_chk_mem h.1.1.1, px_chk_mem h.1.1.2, px_chk_mem h.1.2, px_chk_mem h.2⟩
def px_chkX (r r2 : Nat × Nat × Nat × Nat) : Bool := match px_cl[r.2.2.1]?, px_cps[r.2.2.1]? with
  | some q, some ps => decide (q.2.2 = 0) && px_chk r.2.2.2 (.classLink (px_on r.1) r.2.1 q.1) && px_chk ps.2.1 (.instantiable q.1 6) && px_chk ps.2.2 (.initialized q.1) && Bundle.fit q.1 &&
    (Bundle.ownAtoms0 (px_on r.1) r2.2.1 q.1 px_sup).all fun a => px_has a || decide (a = px_isU) || decide (a = px_isS) || decide (a = px_lsU) || decide (a = px_lsS)
  | _, _ => false
theorem px_X0 : (px_clss.all fun r => decide (r.2.2.1 < px_NC) || px_cals.all fun r2 => decide (¬ (r2.1 = r.1 ∧ r2.2.2.1 = 2000 + r.2.2.1)) || px_chkX r r2) = true := by decide +kernel
theorem px_GoodX0 {M : px_M} (hn : px_Mn M = px_on (px_Mo M)) : px_GoodX px_G0 px_cl px_Ts M := by
  intro idx cn ic h hnc h2
  obtain ⟨⟨o, i, c', pos⟩, hr, h3, h4, h5⟩ := px_found (l := px_clss) h
  obtain ⟨⟨o2, i2, n2, pos2⟩, hr2, h6, h7, h8⟩ := px_found (l := px_cals) h2
  dsimp only at h3 h4 h5 h6 h7 h8
  have hk := List.all_eq_true.mp px_X0 _ hr
  dsimp only at hk
  rw [Bool.or_eq_true] at hk
  rcases hk with hk | hk
  · have := of_decide_eq_true hk
    omega
  · have hk2 := List.all_eq_true.mp hk _ hr2
    dsimp only at hk2
    rw [Bool.or_eq_true] at hk2
    rcases hk2 with hk2 | hk2
    · exact absurd ⟨h6.trans h3.symm, by rw [h8, h5]⟩ (of_decide_eq_true hk2)
    · unfold px_chkX at hk2
      dsimp only at hk2
      split at hk2
      · next q ps hq hps =>
        simp only [Bool.and_eq_true, decide_eq_true_eq] at hk2
        obtain ⟨⟨⟨⟨⟨k1, k2⟩, k3⟩, k4⟩, k5⟩, k6⟩ := hk2
        rw [h5] at hq
        refine ⟨q, hq, k1, by rw [hn, ← h3, ← h4]; exact px_chk_mem k2, px_chk_mem k3, px_chk_mem k4, k5, fun a ha => ?_⟩
        rw [hn, ← h3, ← h7] at ha
        have := List.all_eq_true.mp k6 a ha
        simp only [Bool.or_eq_true, decide_eq_true_eq] at this
        rcases this with (((h9 | h9) | h9) | h9) | h9
        · exact Or.inl (px_has_mem h9)
        · exact Or.inr (Or.inl h9)
        · exact Or.inr (Or.inr (Or.inl h9))
        · exact Or.inr (Or.inr (Or.inr (Or.inl h9)))
        · exact Or.inr (Or.inr (Or.inr (Or.inr h9)))
      · cases hk2
