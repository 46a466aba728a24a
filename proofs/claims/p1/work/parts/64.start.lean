/-! THE LAW'S START -/
set_option maxRecDepth 16384 in
theorem hp_len0 : ([] : List px_C).length = 0 := rfl
/-- the heap when the law's loop begins -/
def hpC : List px_C := iyaC 0 ++ (modC 619 ++ [.inr (2, 1, .inr (.inl (fun _ => 0)))])
set_option maxRecDepth 16384 in
theorem hpC_len : hpC.length = 669 := by simp only [hpC, List.length_append, iyaC_len, modC_len, List.length_cons, List.length_nil]
set_option maxRecDepth 16384 in
theorem law_start {sx : Nat × (Nat → Int32)} {Q : px_O → px_H → Prop}
    (hQ : px_Wp sx 277 23 [some (.retAddr 0), some (.ref 0), some (.ref 619), some (.ref 668), some (.int 0), none, none, none] [] (510129, hpC) Q) : px_Wp sx 277 0 (px_entry 8 [.retAddr 0]) [] (0, []) Q := by
  have e : px_entry 8 [.retAddr 0] = [some (.retAddr 0), none, none, none, none, none, none, none] := by decide
  rw [e]
  simp only [pc277_0, pc277_3, pc277_3r, pc277_4, pc277_7, pc277_7n, pc277_8, pc277_11, pc277_11r, pc277_12, pc277_15, pc277_15n, pc277_16, pc277_17, pc277_19, pc277_19n, pc277_20, pc277_21, px_op_some, px_kv_ap, px_ki_ap, px_kl_ap, px_kn_ap, px_kh_ap, px_op_none, px_K_some, px_K_none, px_K_thr, px_kill, ↓reduceIte, if_true, if_false, true_and, and_true, px_al, List.nil_append, List.length_nil, Nat.zero_add]
  refine ⟨by decide, ?_⟩
  refine iya_init (pre := []) (by decide) (by decide) ?_
  simp only [pc277_0, pc277_3, pc277_3r, pc277_4, pc277_7, pc277_7n, pc277_8, pc277_11, pc277_11r, pc277_12, pc277_15, pc277_15n, pc277_16, pc277_17, pc277_19, pc277_19n, pc277_20, pc277_21, px_op_some, px_kv_ap, px_ki_ap, px_kl_ap, px_kn_ap, px_kh_ap, px_op_none, px_K_some, px_K_none, px_K_thr, px_kill, ↓reduceIte, if_true, if_false, true_and, and_true, px_al, List.nil_append, List.length_nil, iyaC_len]
  refine ⟨by decide, ?_⟩
  have hm := fun Q' => @mod_init sx (7 + 140639 + 62) (iyaC 0) Q' (by rw [iyaC_len]; decide) (by decide)
  simp only [iyaC_len] at hm
  refine hm _ ?_
  simp only [pc277_0, pc277_3, pc277_3r, pc277_4, pc277_7, pc277_7n, pc277_8, pc277_11, pc277_11r, pc277_12, pc277_15, pc277_15n, pc277_16, pc277_17, pc277_19, pc277_19n, pc277_20, pc277_21, px_op_some, px_kv_ap, px_ki_ap, px_kl_ap, px_kn_ap, px_kh_ap, px_op_none, px_K_some, px_K_none, px_K_thr, px_kill, ↓reduceIte, if_true, if_false, true_and, and_true, px_al, List.length_append, iyaC_len, modC_len, Int32.reduceToNatClampNeg, Int32.reduceLT, List.append_assoc]
  exact ⟨by decide, hQ⟩
