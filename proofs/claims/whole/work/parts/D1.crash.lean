/-! CRASH: transfers closed -/
section CLO
variable {sx : Nat × (Nat → Int32)} {h : px_H} {A B C D E G I K : Nat → Int32} {V : Nat → Int64} {Q : px_O → px_H → Prop}
/-- the first t transfers closed -/
def clH (h : px_H) (A D G I K : Nat → Int32) (V : Nat → Int64) : Nat → px_H
  | 0 => h
  | t + 1 => if A t = 0 then clH h A D G I K V t else px_wr (clH h A D G I K V t) (25 + 5 * t) (.inl (8, trF (25 + 5 * t) 0 0 0 (D t) 0 (G t) (I t) (K t) (V t)))
set_option maxRecDepth 16384 in
theorem clH_len : ∀ t, (clH h A D G I K V t).2.length = h.2.length ∧ (clH h A D G I K V t).1 = h.1
  | 0 => ⟨rfl, rfl⟩
  | t + 1 => by
    unfold clH; split
    · exact clH_len t
    · exact ⟨by rw [px_wr_len]; exact (clH_len t).1, (clH_len t).2⟩
set_option maxRecDepth 16384 in
theorem clH_ne {r : Nat} : ∀ t, (∀ j, j < t → 25 + 5 * j ≠ r) → (clH h A D G I K V t).2[r]? = h.2[r]?
  | 0, _ => rfl
  | t + 1, hr => by
    have ih := clH_ne t (fun j hj => hr j (by omega))
    unfold clH; split
    · exact ih
    · rw [wr_at, if_neg (hr t (by omega))]; exact ih
set_option maxRecDepth 16384 in
theorem clH_at (hl : 668 < h.2.length) : ∀ t j, j < t → t ≤ 4 → (clH h A D G I K V t).2[25 + 5 * j]? = if A j = 0 then h.2[25 + 5 * j]? else some (.inl (8, trF (25 + 5 * j) 0 0 0 (D j) 0 (G j) (I j) (K j) (V j)))
  | 0, j, hj, _ => absurd hj (Nat.not_lt_zero j)
  | t + 1, j, hj, ht => by
    by_cases e : j = t
    · subst e
      unfold clH
      by_cases a : A j = 0
      · rw [if_pos a, if_pos a]; exact clH_ne j (fun i hi => by omega)
      · rw [if_neg a, if_neg a, wr_at, if_pos rfl, if_pos (by rw [(clH_len j).1]; omega)]
    · have ih := clH_at hl t j (by omega) (by omega)
      unfold clH; split
      · exact ih
      · rw [wr_at, if_neg (by omega)]; exact ih
set_option maxRecDepth 16384 in
theorem clH_shape (hS : shape h) (hX : ∀ t, t < 4 → h.2[25 + 5 * t]? = some (.inl (8, trF (25 + 5 * t) (A t) (B t) (C t) (D t) (E t) (G t) (I t) (K t) (V t)))) : ∀ t, t ≤ 4 → shape (clH h A D G I K V t)
  | 0, _ => hS
  | t + 1, ht => by
    have ih := clH_shape hS hX t (by omega)
    unfold clH; split
    · exact ih
    · exact shape_tr ih ((clH_ne t (fun j hj => by omega)).trans (hX t (by omega)))
set_option maxRecDepth 16384 in
theorem c_close_l {y n sp : Int32} {Y : Nat} (hS : shape h) (hX : ∀ t, t < 4 → h.2[25 + 5 * t]? = some (.inl (8, trF (25 + 5 * t) (A t) (B t) (C t) (D t) (E t) (G t) (I t) (K t) (V t))))
    (hQ : px_Wp sx 19 87 [some (.ref 0), some (.int y), some (.int n), some (.int sp), some (.ref Y), some (.int 4)] [] (clH h A D G I K V 4) Q) :
    ∀ n' t, t + n' = 4 → px_Wp sx 19 47 [some (.ref 0), some (.int y), some (.int n), some (.int sp), some (.ref Y), some (.int (nI t))] [] (clH h A D G I K V t) Q := by
  have a0 : ∀ t, (clH h A D G I K V t).2[0]? = some (.inl (0, iyaF)) := fun t => (clH_ne t (fun j hj => by omega)).trans (at_0 hS)
  have a24 : ∀ t, t ≤ 4 → (clH h A D G I K V t).2[24]? = some (.inr (18, 4, .inr (.inr (tra4 0)))) := fun t ht => (clH_ne t (fun j hj => by omega)).trans (at_24 hS)
  intro n'
  induction n' with
  | zero =>
    intro t ht
    have ht : t = 4 := by omega
    subst ht
    simp only [pc19_47, pc19_49, pc19_49n, pc19_50, pc19_53, pc19_54, px_op_some, px_kv_ap, px_ki_ap, px_kl_ap, px_kn_ap, px_kh_ap, px_op_none, px_K_some, px_K_none, px_K_thr, px_kill, ↓reduceIte, if_true, if_false, true_and, and_true, px_gf, px_pf, px_ai, px_aj, px_aa, px_wi, px_wj, px_wa, px_an, px_cls, yr_0, yr_1, tr_0, tr_1, tr_2, tr_3, px_rf, of_2, of_4, in_02, in_12, in_04, in_14, in_24, in_34, Nat.reduceLeDiff, in_01, lgc_self, Int32.reduceToNatClampNeg, wr_at, al_at, px_wr_len, px_al_len, px_wr_1, px_al_1, tg_0, tg_1, tg_2, tg_3, tg_12, tg_15, tg_17, tg_18, tg_i1, tg_b0, tg_b3, px_fit, Nat.reduceEqDiff, Nat.reduceLT, Nat.reduceAdd, Option.some.injEq, up_at, px_wr_wr, i32_le, Int32.reduceLE, Int32.reduceLT, mf_len, nar_0, nar_1, px_KH_some, px_KH_none, px_KH_thr, List.length_cons, List.length_nil, List.getElem?_cons_zero, List.getElem?_cons_succ, List.set_cons_zero, List.set_cons_succ, ↓reduceIte, Nat.lt_irrefl, ne_0_1, ne_0_2, ne_0_3, ne_0_4, ne_0_5, ne_1_0, ne_1_2, ne_1_3, ne_1_4, ne_1_5, ne_2_0, ne_2_1, ne_2_3, ne_2_4, ne_2_5, ne_3_0, ne_3_1, ne_3_2, ne_3_4, ne_3_5, ne_4_0, ne_4_1, ne_4_2, ne_4_3, ne_4_5, ne_5_0, ne_5_1, ne_5_2, ne_5_3, ne_5_4, hd_256_12, hd_256_16, hd_257_12, hd_258_12, hd_259_12, hd_260_12, hd_261_12, hd_261_13, hd_261_16, hd_262_12, hd_262_13, hd_262_16, hd_263_12, hd_263_13, hd_264_12, hd_264_13, hd_264_14, hd_265_12, hd_265_13, hd_265_14, hd_266_12, hd_267_12, hd_267_13, hd_267_14, hd_268_12, hd_269_12, hd_269_14, hd_270_12, hd_271_12, hd_272_12, hd_273_12, hd_273_13, hd_273_15, hd_274_12, hd_274_15, hd_275_12, hd_275_15, hd_276_12, nI_p1, nI_p2, nI_p3, nI_p4, nI_p5, not_true_eq_false, not_false_eq_true, and_self, mf_0, mf_1, mf_2, mf_3, mf_4, mf_5, mf_6, mf_7, mf_8, mf_9, mf_10, mf_11, mf_12, mf_13, mf_14, mf_15, mf_16, mf_17, mf_18, mf_19, mf_20, mf_21, mf_22, mf_23, mf_24, mf_25, mf_26, mf_27, mf_28, mf_29, mf_30, mf_31, mf_32, mf_33, mf_34, mf_35, mf_36, mf_37, mf_38, mf_39, mf_40, mf_41, mf_42, mf_43, mf_44, mf_45, mf_46, mf_47, mf_48, mf_49, mf_50, mf_51, mf_52, mf_53, mf_54, mf_55, mf_56, mf_57, mf_58, mf_59, mf_60, mf_61, mfs_0, mfs_2, mfs_17, mfs_20, mfs_26, mfs_32, mfs_34, mfs_36, mfs_38, mfs_43, mfs_44, mfs_45, mfs_46, mfs_47, iy_0, iy_1, iy_2, iy_3, iy_4, iy_5, iy_6, a0, a24 4 (by decide), show nI 4 = 4 from rfl]
    exact hQ
  | succ n' ih =>
    intro t ht
    have t4 : t < 4 := by omega
    have hge : (nI t < 4) = True := eq_true (nI_lt (b := 4) (by omega) (by decide))
    have it : px_in (nI t) 4 = true := px_inb t4 (by decide)
    have ct : (nI t).toNatClampNeg = t := nI_clamp (by omega)
    have htr := tra_at t4
    have o := (clH_ne (h := h) (A := A) (D := D) (G := G) (I := I) (K := K) (V := V) t (r := 25 + 5 * t) (fun j hj => by omega)).trans (hX t t4)
    have o' := o
    unfold trF at o'
    have hcl : px_cls (clH h A D G I K V t) (25 + 5 * t) = some 8 := by unfold px_cls; rw [o]
    rw [pc19_47]
    by_cases e : A t = 0
    · have en : clH h A D G I K V (t + 1) = clH h A D G I K V t := by show (if A t = 0 then _ else _) = _; rw [if_pos e]
      have := ih (t + 1) (by omega)
      rw [en] at this
      simp only [pc19_49, pc19_49n, pc19_50, pc19_53, pc19_54, pc19_57, pc19_57n, pc19_58, pc19_61, pc19_63, pc19_64, pc19_67, pc19_70, pc19_70n, pc19_71, pc19_74, pc19_76, pc19_77, pc19_78, pc19_81, pc19_84, px_op_some, px_kv_ap, px_ki_ap, px_kl_ap, px_kn_ap, px_kh_ap, px_op_none, px_K_some, px_K_none, px_K_thr, px_kill, ↓reduceIte, if_true, if_false, true_and, and_true, px_gf, px_pf, px_ai, px_aj, px_aa, px_wi, px_wj, px_wa, px_an, px_cls, yr_0, yr_1, tr_0, tr_1, tr_2, tr_3, px_rf, of_2, of_4, in_02, in_12, in_04, in_14, in_24, in_34, Nat.reduceLeDiff, in_01, lgc_self, Int32.reduceToNatClampNeg, wr_at, al_at, px_wr_len, px_al_len, px_wr_1, px_al_1, tg_0, tg_1, tg_2, tg_3, tg_12, tg_15, tg_17, tg_18, tg_i1, tg_b0, tg_b3, px_fit, Nat.reduceEqDiff, Nat.reduceLT, Nat.reduceAdd, Option.some.injEq, up_at, px_wr_wr, i32_le, Int32.reduceLE, Int32.reduceLT, mf_len, nar_0, nar_1, px_KH_some, px_KH_none, px_KH_thr, List.length_cons, List.length_nil, List.getElem?_cons_zero, List.getElem?_cons_succ, List.set_cons_zero, List.set_cons_succ, ↓reduceIte, Nat.lt_irrefl, ne_0_1, ne_0_2, ne_0_3, ne_0_4, ne_0_5, ne_1_0, ne_1_2, ne_1_3, ne_1_4, ne_1_5, ne_2_0, ne_2_1, ne_2_3, ne_2_4, ne_2_5, ne_3_0, ne_3_1, ne_3_2, ne_3_4, ne_3_5, ne_4_0, ne_4_1, ne_4_2, ne_4_3, ne_4_5, ne_5_0, ne_5_1, ne_5_2, ne_5_3, ne_5_4, hd_256_12, hd_256_16, hd_257_12, hd_258_12, hd_259_12, hd_260_12, hd_261_12, hd_261_13, hd_261_16, hd_262_12, hd_262_13, hd_262_16, hd_263_12, hd_263_13, hd_264_12, hd_264_13, hd_264_14, hd_265_12, hd_265_13, hd_265_14, hd_266_12, hd_267_12, hd_267_13, hd_267_14, hd_268_12, hd_269_12, hd_269_14, hd_270_12, hd_271_12, hd_272_12, hd_273_12, hd_273_13, hd_273_15, hd_274_12, hd_274_15, hd_275_12, hd_275_15, hd_276_12, nI_p1, nI_p2, nI_p3, nI_p4, nI_p5, not_true_eq_false, not_false_eq_true, and_self, mf_0, mf_1, mf_2, mf_3, mf_4, mf_5, mf_6, mf_7, mf_8, mf_9, mf_10, mf_11, mf_12, mf_13, mf_14, mf_15, mf_16, mf_17, mf_18, mf_19, mf_20, mf_21, mf_22, mf_23, mf_24, mf_25, mf_26, mf_27, mf_28, mf_29, mf_30, mf_31, mf_32, mf_33, mf_34, mf_35, mf_36, mf_37, mf_38, mf_39, mf_40, mf_41, mf_42, mf_43, mf_44, mf_45, mf_46, mf_47, mf_48, mf_49, mf_50, mf_51, mf_52, mf_53, mf_54, mf_55, mf_56, mf_57, mf_58, mf_59, mf_60, mf_61, mfs_0, mfs_2, mfs_17, mfs_20, mfs_26, mfs_32, mfs_34, mfs_36, mfs_38, mfs_43, mfs_44, mfs_45, mfs_46, mfs_47, iy_0, iy_1, iy_2, iy_3, iy_4, iy_5, iy_6, px_kill, a0, a24 t (by omega), hge, it, ct, htr, o', e, nI_1]
      exact this
    · have en : clH h A D G I K V (t + 1) = px_wr (clH h A D G I K V t) (25 + 5 * t) (.inl (8, trF (25 + 5 * t) 0 0 0 (D t) 0 (G t) (I t) (K t) (V t))) := by show (if A t = 0 then _ else _) = _; rw [if_neg e]
      have := ih (t + 1) (by omega)
      rw [en] at this
      simp only [pc19_49, pc19_49n, pc19_50, pc19_53, pc19_54, pc19_57, pc19_57n, pc19_58, pc19_61, pc19_63, pc19_64, pc19_67, pc19_70, pc19_70n, pc19_71, pc19_74, pc19_76, pc19_77, pc19_78, px_op_some, px_kv_ap, px_ki_ap, px_kl_ap, px_kn_ap, px_kh_ap, px_op_none, px_K_some, px_K_none, px_K_thr, px_kill, ↓reduceIte, if_true, if_false, true_and, and_true, px_gf, px_pf, px_ai, px_aj, px_aa, px_wi, px_wj, px_wa, px_an, px_cls, yr_0, yr_1, tr_0, tr_1, tr_2, tr_3, px_rf, of_2, of_4, in_02, in_12, in_04, in_14, in_24, in_34, Nat.reduceLeDiff, in_01, lgc_self, Int32.reduceToNatClampNeg, wr_at, al_at, px_wr_len, px_al_len, px_wr_1, px_al_1, tg_0, tg_1, tg_2, tg_3, tg_12, tg_15, tg_17, tg_18, tg_i1, tg_b0, tg_b3, px_fit, Nat.reduceEqDiff, Nat.reduceLT, Nat.reduceAdd, Option.some.injEq, up_at, px_wr_wr, i32_le, Int32.reduceLE, Int32.reduceLT, mf_len, nar_0, nar_1, px_KH_some, px_KH_none, px_KH_thr, List.length_cons, List.length_nil, List.getElem?_cons_zero, List.getElem?_cons_succ, List.set_cons_zero, List.set_cons_succ, ↓reduceIte, Nat.lt_irrefl, ne_0_1, ne_0_2, ne_0_3, ne_0_4, ne_0_5, ne_1_0, ne_1_2, ne_1_3, ne_1_4, ne_1_5, ne_2_0, ne_2_1, ne_2_3, ne_2_4, ne_2_5, ne_3_0, ne_3_1, ne_3_2, ne_3_4, ne_3_5, ne_4_0, ne_4_1, ne_4_2, ne_4_3, ne_4_5, ne_5_0, ne_5_1, ne_5_2, ne_5_3, ne_5_4, hd_256_12, hd_256_16, hd_257_12, hd_258_12, hd_259_12, hd_260_12, hd_261_12, hd_261_13, hd_261_16, hd_262_12, hd_262_13, hd_262_16, hd_263_12, hd_263_13, hd_264_12, hd_264_13, hd_264_14, hd_265_12, hd_265_13, hd_265_14, hd_266_12, hd_267_12, hd_267_13, hd_267_14, hd_268_12, hd_269_12, hd_269_14, hd_270_12, hd_271_12, hd_272_12, hd_273_12, hd_273_13, hd_273_15, hd_274_12, hd_274_15, hd_275_12, hd_275_15, hd_276_12, nI_p1, nI_p2, nI_p3, nI_p4, nI_p5, not_true_eq_false, not_false_eq_true, and_self, mf_0, mf_1, mf_2, mf_3, mf_4, mf_5, mf_6, mf_7, mf_8, mf_9, mf_10, mf_11, mf_12, mf_13, mf_14, mf_15, mf_16, mf_17, mf_18, mf_19, mf_20, mf_21, mf_22, mf_23, mf_24, mf_25, mf_26, mf_27, mf_28, mf_29, mf_30, mf_31, mf_32, mf_33, mf_34, mf_35, mf_36, mf_37, mf_38, mf_39, mf_40, mf_41, mf_42, mf_43, mf_44, mf_45, mf_46, mf_47, mf_48, mf_49, mf_50, mf_51, mf_52, mf_53, mf_54, mf_55, mf_56, mf_57, mf_58, mf_59, mf_60, mf_61, mfs_0, mfs_2, mfs_17, mfs_20, mfs_26, mfs_32, mfs_34, mfs_36, mfs_38, mfs_43, mfs_44, mfs_45, mfs_46, mfs_47, iy_0, iy_1, iy_2, iy_3, iy_4, iy_5, iy_6, px_kill, a0, a24 t (by omega), hge, it, ct, htr, o', e, hcl]
      refine c_tclose (.inl rfl) o ?_
      simp only [px_K_none, pc19_81, pc19_84, px_kill, nI_1]
      exact this
end CLO
