/-! NO COMMAND, the class's -/
section NOWORD
variable {sx : Nat × (Nat → Int32)} {h : px_H} {n s e : Nat} {f : Nat → Int32} {B : Nat → Nat} {Q : px_O → px_H → Prop}
set_option maxRecDepth 16384 in
theorem c_takeParts_no (hS : shape h) (w : rowAt h 83 200 n f) (hB : txA f n B) (hs : s ≤ e) (he : e ≤ n) (hQ0 : ∀ h1, frm tpA h h1 → shape h1 → Q (.inl (some (.int 0))) h1) :
    px_Wp sx 122 0 [some (.ref 414), some (.int (-1)), some (.ref 83), some (.int (nI s)), some (.int (nI e)), none, none] [] h Q := by
  have n200 := w.2.2.1
  have hcl : px_cls h 83 = some 1 := by unfold px_cls; rw [w.1]
  have rs := pS_rng (B := B) hs
  have rf := fnd_rng (B := B) (c := 32) (e - s) s
  have rg := fnd_rng (B := B) (c := 32) (e - pS B s e) (pS B s e)
  have mn : (if nI e < nI (fnd B 32 s (e - s) + 1) then nI e else nI (fnd B 32 s (e - s) + 1)) = nI (pS B s e) := min_nI (by omega) (by omega)
  have m0 : ¬ (-1 : Int32) = 0 := by decide
  have m1 : ¬ (-1 : Int32) = 1 := by decide
  simp only [pc122_0, pc122_0n, pc122_1, pc122_3, pc122_4, pc122_6, px_op_some, px_kv_ap, px_ki_ap, px_kl_ap, px_kn_ap, px_kh_ap, px_op_none, px_K_some, px_K_none, px_K_thr, px_kill, ↓reduceIte, if_true, if_false, true_and, and_true, hcl]
  refine c_rfind (c := 32) w hB (by decide) hs he ?_
  simp only [px_K_some, pc122_9, pc122_10, pc122_11, pc122_13, pc122_16, pc122_18, pc122_19, pc122_22, pc122_23, pc122_24, pc122_27, pc122_29, pc122_32, pc122_32n, pc122_33, pc122_35, pc122_37, pc122_39, px_op_some, px_kv_ap, px_ki_ap, px_kl_ap, px_kn_ap, px_kh_ap, px_op_none, px_K_some, px_K_none, px_K_thr, px_kill, ↓reduceIte, if_true, if_false, true_and, and_true, nI_p1, mn, m0, m1, not_false_eq_true, px_kill, hcl]
  refine c_rfind (c := 32) w hB (by decide) rs.2 he ?_
  have mn2 : (if nI e < nI (fnd B 32 (pS B s e) (e - pS B s e) + 1) then nI e else nI (fnd B 32 (pS B s e) (e - pS B s e) + 1)) = nI (min (fnd B 32 (pS B s e) (e - pS B s e) + 1) e) := min_nI (by omega) (by omega)
  simp only [px_K_some, pc122_42, pc122_44, pc122_44n, pc122_45, pc122_47, pc122_48, pc122_49, pc122_51, pc122_54, pc122_57, pc122_58, pc122_59, pc122_77, pc122_78, px_op_some, px_kv_ap, px_ki_ap, px_kl_ap, px_kn_ap, px_kh_ap, px_op_none, px_K_some, px_K_none, px_K_thr, px_kill, ↓reduceIte, if_true, if_false, true_and, and_true, px_pf, at_414 hS, List.length_cons, List.length_nil, Nat.reduceAdd, Nat.reduceLT, px_fit, and_self, List.set_cons_succ, List.set_cons_zero, nI_p1, mn2, px_kill, nar_0]
  exact hQ0 _ (frm_wr (frm_refl _ _) (.inl rfl)) (shape_int (k := 3) hS (at_414 hS) rfl)
end NOWORD
