/-! TREES AND THE INVARIANT -/
def chkP : px_C → Bool
  | .inr (0, 35, .inl _) => true
  | _ => false
set_option maxRecDepth 16384 in
theorem chkP_eq {c : px_C} (h : chkP c = true) : ∃ f, c = .inr (0, 35, .inl f) := by
  unfold chkP at h
  split at h
  · exact ⟨_, rfl⟩
  · cases h
def chkT (T : Nat) : Bool := (List.range 80).all fun k => chkE (T + 2 + 2 * k) (tmpl (T + 2 + 2 * k)) && chkP (tmpl (T + 2 + 2 * k + 1))
set_option maxRecDepth 16384 in
theorem chkT_ent {T : Nat} (h : chkT T = true) {k : Nat} (hk : k < 80) : entT (T + 2 + 2 * k) := by
  have h1 := List.all_eq_true.mp h k (List.mem_range.mpr hk)
  rw [Bool.and_eq_true] at h1
  exact ⟨chkE_eq h1.1, chkP_eq h1.2⟩
set_option maxRecDepth 16384 in
theorem chkT_87 : chkT 87 = true := by decide +kernel
set_option maxRecDepth 16384 in
theorem chkT_249 : chkT 249 = true := by decide +kernel
set_option maxRecDepth 16384 in
theorem chkT_457 : chkT 457 = true := by decide +kernel
set_option maxRecDepth 16384 in
theorem treT_87 : treT 87 := ⟨rfl, ⟨_, rfl⟩, fun k hk => chkT_ent chkT_87 hk, fun r hr => by unfold srcOK at hr; unfold trA; omega⟩
set_option maxRecDepth 16384 in
theorem treT_249 : treT 249 := ⟨rfl, ⟨_, rfl⟩, fun k hk => chkT_ent chkT_249 hk, fun r hr => by unfold srcOK at hr; unfold trA; omega⟩
set_option maxRecDepth 16384 in
theorem treT_457 : treT 457 := ⟨rfl, ⟨_, rfl⟩, fun k hk => chkT_ent chkT_457 hk, fun r hr => by unfold srcOK at hr; unfold trA; omega⟩
set_option maxRecDepth 16384 in
theorem entT_412 : entT 412 := ⟨rfl, _, rfl⟩
set_option maxRecDepth 16384 in
theorem entT_455 : entT 455 := ⟨rfl, _, rfl⟩
set_option maxRecDepth 16384 in
theorem entT_417 : entT 417 := ⟨rfl, _, rfl⟩
set_option maxRecDepth 16384 in
theorem entT_419 : entT 419 := ⟨rfl, _, rfl⟩
section TINV
variable {h h' : px_H} {T : Nat}
set_option maxRecDepth 16384 in
theorem at_any (hs : shape h) {r : Nat} (hr : r < 669) : h.2[r]? = some (fillC (cell h r) (tmpl r)) := by
  have hl : r < h.2.length := by have := hs.1; omega
  rw [hs.2 r hr]
  unfold cell
  rw [List.getElem?_eq_getElem hl]; rfl
set_option maxRecDepth 16384 in
theorem ent_it {O : Nat} (hs : shape h) (e : entT O) (hO : O + 1 < 669) : itC h O := by
  have a := at_any hs (show O < 669 by omega)
  have b := at_any hs hO
  obtain ⟨e1, f, e2⟩ := e
  rw [e1] at a
  rw [e2] at b
  exact ⟨_, _, _, _, _, _, a, b⟩
set_option maxRecDepth 16384 in
theorem trP_of (hs : shape h) (hT : treT T) (te : tre h T) (h6 : T + 162 ≤ 669) : trP h T := by
  have a := at_any hs (show T < 669 by omega)
  have b := at_any hs (show T + 1 < 669 by omega)
  obtain ⟨t1, ⟨f, t2⟩, t3, -⟩ := hT
  rw [t1] at a
  rw [t2] at b
  have b' : h.2[T + 1]? = some (.inr (12, 80, .inr (.inr (cR (cell h (T + 1)))))) := b
  refine ⟨⟨_, a⟩, fun k hk => ent_it hs (t3 k hk) (by omega), _, b', ?_⟩
  have te' := te
  unfold tre at te'
  rw [rA_of b'] at te'
  exact te'
set_option maxRecDepth 16384 in
theorem tre_of {n : Nat} {E : Nat → aE} (t : trR h T n E) : tre h T := by
  obtain ⟨-, -, ra, t3, t4, -⟩ := t
  unfold tre
  rw [rA_of t3]; exact t4
/-! what a call that reads an image's tree leaves -/
set_option maxRecDepth 16384 in
theorem Inv_gr (I : Inv h) (hs : shape h') (e : ∀ r, (r ≤ 86 ∨ r = 88 ∨ r = 250 ∨ r = 620 ∨ 621 ≤ r ∧ r ≤ 634 ∨ 655 ≤ r ∧ r ≤ 667) → h'.2[r]? = h.2[r]?) (im : imS h' 421 (fun s => s)) (t3 : tre h' 457) (ev : vKeep h h') : Inv h' := by
  obtain ⟨w1, w2, w3, w4, ⟨⟨P, p1, p2⟩, u1, u2, u3⟩, w6, w7⟩ := I
  exact ⟨hs, relT_frm w2 (fun r hr => e r (by omega)) (ev 2 (.inl rfl)), invB_frm w3 (e 47 (by omega)) (ev 44 (.inr (.inl rfl))) (ev 45 (.inr (.inr (.inl rfl)))) (ev 46 (.inr (.inr (.inr rfl)))), im, ⟨⟨P, p1, imS_up p2 (fun r a b => e r (by omega))⟩, tre_frm u1 (e 88 (by omega)), tre_frm u2 (e 250 (by omega)), t3⟩, fun q hq => invY_frm (w6 q hq) (fun r a b => e r (by omega)) (fun r a b => e r (by omega)), fun t ht => invX_frm (w7 t ht) (fun r a b => e r (by omega)) (fun r a b => e r (by omega))⟩
end TINV
