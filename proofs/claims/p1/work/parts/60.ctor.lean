/-! CONSTRUCTORS: a block of cells behind those that were there -/
set_option maxRecDepth 16384 in
theorem tg_0 : (0 ∈ px_tags) = True := by decide
set_option maxRecDepth 16384 in
theorem tg_1 : (1 ∈ px_tags) = True := by decide
set_option maxRecDepth 16384 in
theorem tg_2 : (2 ∈ px_tags) = True := by decide
set_option maxRecDepth 16384 in
theorem tg_3 : (3 ∈ px_tags) = True := by decide
set_option maxRecDepth 16384 in
theorem tg_12 : (12 ∈ px_tags) = True := by decide
set_option maxRecDepth 16384 in
theorem tg_15 : (15 ∈ px_tags) = True := by decide
set_option maxRecDepth 16384 in
theorem tg_17 : (17 ∈ px_tags) = True := by decide
set_option maxRecDepth 16384 in
theorem tg_18 : (18 ∈ px_tags) = True := by decide
set_option maxRecDepth 16384 in
theorem tg_i1 : (1 ∈ [1]) = True := by decide
set_option maxRecDepth 16384 in
theorem tg_b0 : (0 ∈ [0, 3]) = True := by decide
set_option maxRecDepth 16384 in
theorem tg_b3 : (3 ∈ [0, 3]) = True := by decide
set_option maxRecDepth 16384 in
theorem hp_at {α : Type} (pre l : List α) (k : Nat) : (pre ++ l)[pre.length + k]? = l[k]? := by
  rw [List.getElem?_append_right (by omega), Nat.add_sub_cancel_left]
set_option maxRecDepth 16384 in
theorem hp_at0 {α : Type} (pre l : List α) : (pre ++ l)[pre.length]? = l[0]? := hp_at pre l 0
set_option maxRecDepth 16384 in
theorem hp_set {α : Type} (pre l : List α) (k : Nat) (x : α) : (pre ++ l).set (pre.length + k) x = pre ++ l.set k x := by
  rw [List.set_append_right _ _ (by omega), Nat.add_sub_cancel_left]
set_option maxRecDepth 16384 in
theorem hp_set0 {α : Type} (pre l : List α) (x : α) : (pre ++ l).set pre.length x = pre ++ l.set 0 x := hp_set pre l 0 x
set_option maxRecDepth 16384 in
theorem hp_wr (w : Nat) (pre l : List px_C) (k : Nat) (x : px_C) : px_wr (w, pre ++ l) (pre.length + k) x = (w, pre ++ l.set k x) := by simp only [px_wr, hp_set]
set_option maxRecDepth 16384 in
theorem hp_wr0 (w : Nat) (pre l : List px_C) (x : px_C) : px_wr (w, pre ++ l) pre.length x = (w, pre ++ l.set 0 x) := by simp only [px_wr, hp_set0]
set_option maxRecDepth 16384 in
theorem hp_al (w n : Nat) (pre l : List px_C) (x : px_C) : px_al (w, pre ++ l) n x = (w + n, pre ++ (l ++ [x])) := by simp only [px_al, List.append_assoc]
/-- a Row's cells from b on -/
def rowC (N b : Nat) : List px_C := [.inl (1, [.ref (b + 1), .int 0]), .inr (0, N, .inl (fun _ => 0))]
set_option maxRecDepth 16384 in
theorem row_init {sx : Nat × (Nat → Int32)} {w : Nat} {pre : List px_C} {n : Int32} {N : Nat} {Q : px_O → px_H → Prop} (hN : n.toNatClampNeg = N) (hn : ¬ n < 0) (hm : N ≤ 1000000) (hc : pre.length + 2 ≤ px_CT) (hs : w + N ≤ px_ST)
    (hQ : Q (.inl none) (w + N, pre ++ rowC N pre.length)) : px_Wp sx 26 0 [some (.ref pre.length), some (.int n)] [] (w, pre ++ [.inl (1, [.null, .int 0])]) Q := by
  subst hN
  simp only [pc26_0, pc26_0n, pc26_1, pc26_4, pc26_4n, pc26_5, pc26_6, pc26_8, pc26_11, px_op_some, px_kv_ap, px_ki_ap, px_kl_ap, px_kn_ap, px_kh_ap, px_op_none, px_K_some, px_K_none, px_K_thr, px_kill, ↓reduceIte, if_true, if_false, true_and, and_true, px_gf, px_pf, px_ai, px_aj, px_aa, px_wi, px_wj, px_wa, px_an, px_cls, hp_at, hp_at0, hp_wr, hp_wr0, hp_al, List.length_append, List.length_cons, List.length_nil, List.getElem?_cons_zero, List.getElem?_cons_succ, List.set_cons_zero, List.set_cons_succ, List.cons_append, List.nil_append, tg_0, tg_1, tg_2, tg_3, tg_12, tg_15, tg_17, tg_18, tg_i1, tg_b0, tg_b3, px_fit, Nat.reduceAdd, Nat.add_assoc, Int32.reduceToNatClampNeg, Int32.reduceLT, not_false_eq_true, Nat.reduceLeDiff, Nat.reduceLT, and_self]
  exact ⟨⟨hn, hm, by omega, hs⟩, hQ⟩
/-- an Entry's -/
def entC (b : Nat) : List px_C := [.inl (2, [.ref (b + 1), .int 0, .int 0, .null, .int 0, .int 0]), .inr (0, 35, .inl (fun _ => 0))]
set_option maxRecDepth 16384 in
theorem ent_init {sx : Nat × (Nat → Int32)} {w : Nat} {pre : List px_C} {Q : px_O → px_H → Prop} (hc : pre.length + 2 ≤ px_CT) (hs : w + 35 ≤ px_ST)
    (hQ : Q (.inl none) (w + 35, pre ++ entC pre.length)) : px_Wp sx 40 0 [some (.ref pre.length)] [] (w, pre ++ [.inl (2, [.null, .int 0, .int 0, .null, .int 0, .int 0])]) Q := by
  simp only [pc40_0, pc40_0n, pc40_1, pc40_4, pc40_4n, pc40_5, pc40_7, pc40_9, pc40_12, px_op_some, px_kv_ap, px_ki_ap, px_kl_ap, px_kn_ap, px_kh_ap, px_op_none, px_K_some, px_K_none, px_K_thr, px_kill, ↓reduceIte, if_true, if_false, true_and, and_true, px_gf, px_pf, px_ai, px_aj, px_aa, px_wi, px_wj, px_wa, px_an, px_cls, hp_at, hp_at0, hp_wr, hp_wr0, hp_al, List.length_append, List.length_cons, List.length_nil, List.getElem?_cons_zero, List.getElem?_cons_succ, List.set_cons_zero, List.set_cons_succ, List.cons_append, List.nil_append, tg_0, tg_1, tg_2, tg_3, tg_12, tg_15, tg_17, tg_18, tg_i1, tg_b0, tg_b3, px_fit, Nat.reduceAdd, Nat.add_assoc, Int32.reduceToNatClampNeg, Int32.reduceLT, not_false_eq_true, Nat.reduceLeDiff, Nat.reduceLT, and_self]
  exact ⟨⟨by omega, hs⟩, hQ⟩
/-- a Setting's -/
def setC (b : Nat) : List px_C := [.inl (5, [.ref (b + 1), .ref (b + 3)]), .inl (1, [.ref (b + 2), .int 0]), .inr (0, 8, .inl (fun _ => 0)), .inl (1, [.ref (b + 4), .int 0]), .inr (0, 12, .inl (fun _ => 0))]
set_option maxRecDepth 16384 in
theorem set_init {sx : Nat × (Nat → Int32)} {w : Nat} {pre : List px_C} {Q : px_O → px_H → Prop} (hc : pre.length + 5 ≤ px_CT) (hs : w + 24 ≤ px_ST)
    (hQ : Q (.inl none) (w + 24, pre ++ setC pre.length)) : px_Wp sx 76 0 [some (.ref pre.length)] [] (w, pre ++ [.inl (5, [.null, .null])]) Q := by
  simp only [pc76_0, pc76_0n, pc76_1, pc76_4, pc76_4n, pc76_5, pc76_8, pc76_8r, pc76_9, pc76_11, pc76_14, pc76_17, pc76_17n, pc76_18, pc76_21, pc76_21r, pc76_22, pc76_24, pc76_27, pc76_30, pc26_0, pc26_0n, pc26_1, pc26_4, pc26_4n, pc26_5, pc26_6, pc26_8, pc26_11, px_op_some, px_kv_ap, px_ki_ap, px_kl_ap, px_kn_ap, px_kh_ap, px_op_none, px_K_some, px_K_none, px_K_thr, px_kill, ↓reduceIte, if_true, if_false, true_and, and_true, px_gf, px_pf, px_ai, px_aj, px_aa, px_wi, px_wj, px_wa, px_an, px_cls, hp_at, hp_at0, hp_wr, hp_wr0, hp_al, List.length_append, List.length_cons, List.length_nil, List.getElem?_cons_zero, List.getElem?_cons_succ, List.set_cons_zero, List.set_cons_succ, List.cons_append, List.nil_append, tg_0, tg_1, tg_2, tg_3, tg_12, tg_15, tg_17, tg_18, tg_i1, tg_b0, tg_b3, px_fit, Nat.reduceAdd, Nat.add_assoc, Int32.reduceToNatClampNeg, Int32.reduceLT, not_false_eq_true, Nat.reduceLeDiff, Nat.reduceLT, and_self]
  refine ⟨?_, ?_, ?_, ?_, hQ⟩ <;> omega
/-- a Changes' -/
def chgC (b : Nat) : List px_C := .inl (4, [.ref (b + 1)]) :: entC (b + 1)
set_option maxRecDepth 16384 in
theorem chg_init {sx : Nat × (Nat → Int32)} {w : Nat} {pre : List px_C} {Q : px_O → px_H → Prop} (hc : pre.length + 3 ≤ px_CT) (hs : w + 41 ≤ px_ST)
    (hQ : Q (.inl none) (w + 41, pre ++ chgC pre.length)) : px_Wp sx 64 0 [some (.ref pre.length)] [] (w, pre ++ [.inl (4, [.null])]) Q := by
  simp only [pc64_0, pc64_0n, pc64_1, pc64_4, pc64_4n, pc64_5, pc64_8, pc64_8r, pc64_9, pc64_12, pc64_15, pc40_0, pc40_0n, pc40_1, pc40_4, pc40_4n, pc40_5, pc40_7, pc40_9, pc40_12, px_op_some, px_kv_ap, px_ki_ap, px_kl_ap, px_kn_ap, px_kh_ap, px_op_none, px_K_some, px_K_none, px_K_thr, px_kill, ↓reduceIte, if_true, if_false, true_and, and_true, px_gf, px_pf, px_ai, px_aj, px_aa, px_wi, px_wj, px_wa, px_an, px_cls, hp_at, hp_at0, hp_wr, hp_wr0, hp_al, List.length_append, List.length_cons, List.length_nil, List.getElem?_cons_zero, List.getElem?_cons_succ, List.set_cons_zero, List.set_cons_succ, List.cons_append, List.nil_append, tg_0, tg_1, tg_2, tg_3, tg_12, tg_15, tg_17, tg_18, tg_i1, tg_b0, tg_b3, px_fit, Nat.reduceAdd, Nat.add_assoc, Int32.reduceToNatClampNeg, Int32.reduceLT, not_false_eq_true, Nat.reduceLeDiff, Nat.reduceLT, and_self]
  refine ⟨?_, ?_, hQ⟩ <;> omega
/-- a Transfer's -/
def traC (b : Nat) : List px_C := [.inl (8, [.int 0, .int 0, .int 0, .int 0, .int 0, .int 0, .int 0, .int 0, .long 0, .ref (b + 1), .ref (b + 3)]), .inl (1, [.ref (b + 2), .int 0]), .inr (0, 231, .inl (fun _ => 0)), .inl (1, [.ref (b + 4), .int 0]), .inr (0, 4120, .inl (fun _ => 0))]
set_option maxRecDepth 16384 in
theorem tra_init {sx : Nat × (Nat → Int32)} {w : Nat} {pre : List px_C} {Q : px_O → px_H → Prop} (hc : pre.length + 5 ≤ px_CT) (hs : w + 4355 ≤ px_ST)
    (hQ : Q (.inl none) (w + 4355, pre ++ traC pre.length)) : px_Wp sx 111 0 [some (.ref pre.length)] [] (w, pre ++ [.inl (8, [.int 0, .int 0, .int 0, .int 0, .int 0, .int 0, .int 0, .int 0, .long 0, .null, .null])]) Q := by
  simp only [pc111_0, pc111_0n, pc111_1, pc111_4, pc111_4n, pc111_5, pc111_8, pc111_8r, pc111_9, pc111_12, pc111_15, pc111_18, pc111_18n, pc111_19, pc111_22, pc111_22r, pc111_23, pc111_26, pc111_29, pc111_32, pc26_0, pc26_0n, pc26_1, pc26_4, pc26_4n, pc26_5, pc26_6, pc26_8, pc26_11, px_op_some, px_kv_ap, px_ki_ap, px_kl_ap, px_kn_ap, px_kh_ap, px_op_none, px_K_some, px_K_none, px_K_thr, px_kill, ↓reduceIte, if_true, if_false, true_and, and_true, px_gf, px_pf, px_ai, px_aj, px_aa, px_wi, px_wj, px_wa, px_an, px_cls, hp_at, hp_at0, hp_wr, hp_wr0, hp_al, List.length_append, List.length_cons, List.length_nil, List.getElem?_cons_zero, List.getElem?_cons_succ, List.set_cons_zero, List.set_cons_succ, List.cons_append, List.nil_append, tg_0, tg_1, tg_2, tg_3, tg_12, tg_15, tg_17, tg_18, tg_i1, tg_b0, tg_b3, px_fit, Nat.reduceAdd, Nat.add_assoc, Int32.reduceToNatClampNeg, Int32.reduceLT, not_false_eq_true, Nat.reduceLeDiff, Nat.reduceLT, and_self]
  refine ⟨?_, ?_, ?_, ?_, hQ⟩ <;> omega
/-- a Shell's -/
def sheC (b : Nat) : List px_C := .inl (9, [.ref (b + 1), .ref (b + 3), .ref (b + 5), .int 0]) :: (rowC 26000 (b + 1) ++ (entC (b + 3) ++ entC (b + 5)))
set_option maxRecDepth 16384 in
theorem she_init {sx : Nat × (Nat → Int32)} {w : Nat} {pre : List px_C} {Q : px_O → px_H → Prop} (hc : pre.length + 7 ≤ px_CT) (hs : w + 26084 ≤ px_ST)
    (hQ : Q (.inl none) (w + 26084, pre ++ sheC pre.length)) : px_Wp sx 118 0 [some (.ref pre.length)] [] (w, pre ++ [.inl (9, [.null, .null, .null, .int 0])]) Q := by
  simp only [pc118_0, pc118_0n, pc118_1, pc118_4, pc118_4n, pc118_5, pc118_8, pc118_8r, pc118_9, pc118_12, pc118_15, pc118_18, pc118_18n, pc118_19, pc118_22, pc118_22r, pc118_23, pc118_26, pc118_29, pc118_29n, pc118_30, pc118_33, pc118_33r, pc118_34, pc118_37, pc118_40, pc26_0, pc26_0n, pc26_1, pc26_4, pc26_4n, pc26_5, pc26_6, pc26_8, pc26_11, pc40_0, pc40_0n, pc40_1, pc40_4, pc40_4n, pc40_5, pc40_7, pc40_9, pc40_12, px_op_some, px_kv_ap, px_ki_ap, px_kl_ap, px_kn_ap, px_kh_ap, px_op_none, px_K_some, px_K_none, px_K_thr, px_kill, ↓reduceIte, if_true, if_false, true_and, and_true, px_gf, px_pf, px_ai, px_aj, px_aa, px_wi, px_wj, px_wa, px_an, px_cls, hp_at, hp_at0, hp_wr, hp_wr0, hp_al, List.length_append, List.length_cons, List.length_nil, List.getElem?_cons_zero, List.getElem?_cons_succ, List.set_cons_zero, List.set_cons_succ, List.cons_append, List.nil_append, tg_0, tg_1, tg_2, tg_3, tg_12, tg_15, tg_17, tg_18, tg_i1, tg_b0, tg_b3, px_fit, Nat.reduceAdd, Nat.add_assoc, Int32.reduceToNatClampNeg, Int32.reduceLT, not_false_eq_true, Nat.reduceLeDiff, Nat.reduceLT, and_self]
  refine ⟨?_, ?_, ?_, ?_, ?_, ?_, hQ⟩ <;> omega
/-- a Yard's -/
def yarC (b : Nat) : List px_C := [.inl (7, [.ref (b + 1), .int 0, .ref (b + 3), .ref (b + 4), .ref (b + 5), .ref (b + 6), .int 0, .ref (b + 7), .ref (b + 8), .int 0, .ref (b + 9), .ref (b + 10)]),
  .inl (1, [.ref (b + 2), .int 0]), .inr (0, 40000, .inl (fun _ => 0)), .inr (2, 60, .inr (.inl (fun _ => 0))), .inr (1, 60, .inl (fun _ => 0)), .inr (1, 60, .inl (fun _ => 0)), .inr (3, 60, .inl (fun _ => 0)), .inr (2, 60, .inr (.inl (fun _ => 0))), .inr (2, 60, .inr (.inl (fun _ => 0))), .inr (2, 8, .inr (.inl (fun _ => 0))), .inr (3, 8, .inl (fun _ => 0))]
set_option maxRecDepth 16384 in
theorem yar_init {sx : Nat × (Nat → Int32)} {w : Nat} {pre : List px_C} {Q : px_O → px_H → Prop} (hc : pre.length + 11 ≤ px_CT) (hs : w + 40378 ≤ px_ST)
    (hQ : Q (.inl none) (w + 40378, pre ++ yarC pre.length)) : px_Wp sx 88 0 [some (.ref pre.length)] [] (w, pre ++ [.inl (7, [.null, .int 0, .null, .null, .null, .null, .int 0, .null, .null, .int 0, .null, .null])]) Q := by
  simp only [pc88_0, pc88_0n, pc88_1, pc88_4, pc88_4n, pc88_5, pc88_8, pc88_8r, pc88_9, pc88_11, pc88_14, pc88_17, pc88_17n, pc88_18, pc88_20, pc88_22, pc88_25, pc88_25n, pc88_26, pc88_28, pc88_30, pc88_33, pc88_33n, pc88_34, pc88_36, pc88_38, pc88_41, pc88_41n, pc88_42, pc88_44, pc88_46, pc88_49, pc88_49n, pc88_50, pc88_52, pc88_54, pc88_57, pc88_57n, pc88_58, pc88_60, pc88_62, pc88_65, pc88_65n, pc88_66, pc88_68, pc88_70, pc88_73, pc88_73n, pc88_74, pc88_76, pc88_78, pc88_81, pc26_0, pc26_0n, pc26_1, pc26_4, pc26_4n, pc26_5, pc26_6, pc26_8, pc26_11, px_op_some, px_kv_ap, px_ki_ap, px_kl_ap, px_kn_ap, px_kh_ap, px_op_none, px_K_some, px_K_none, px_K_thr, px_kill, ↓reduceIte, if_true, if_false, true_and, and_true, px_gf, px_pf, px_ai, px_aj, px_aa, px_wi, px_wj, px_wa, px_an, px_cls, hp_at, hp_at0, hp_wr, hp_wr0, hp_al, List.length_append, List.length_cons, List.length_nil, List.getElem?_cons_zero, List.getElem?_cons_succ, List.set_cons_zero, List.set_cons_succ, List.cons_append, List.nil_append, tg_0, tg_1, tg_2, tg_3, tg_12, tg_15, tg_17, tg_18, tg_i1, tg_b0, tg_b3, px_fit, Nat.reduceAdd, Nat.add_assoc, Int32.reduceToNatClampNeg, Int32.reduceLT, not_false_eq_true, Nat.reduceLeDiff, Nat.reduceLT, and_self]
  refine ⟨?_, ?_, ?_, ?_, ?_, ?_, ?_, ?_, ?_, ?_, hQ⟩ <;> omega
