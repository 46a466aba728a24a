/-! WHERE A PATH STANDS in the old tree and in the new one, the reference's -/
section LOOKUP
variable {sx : Nat × (Nat → Int32)} {h : px_H} {n n' m i A NA a : Nat} {V f : Nat → Int32} {T E : Nat → aE} {q : Nat → Nat} {Q : px_O → px_H → Prop}
set_option maxRecDepth 16384 in
theorem m_oldEntryOf (h6 : h.2[619]? = some (.inl (11, modF V))) (hv : V 26 = nI n) (hn : n ≤ 46) (w : moE h n T) (hA : h.2[A]? = some (.inr (1, NA, .inl f))) (hNA : NA ≤ 100000) (ha : a + m ≤ NA) (hq : sgs q m) (hf : ∀ j, j < m → f (a + j) = nI (q j))
    (hQ : ∀ x, enR x n T q → Q (.inl (some (.int x))) h) : px_Wp sx 210 0 [some (.ref 619), some (.ref A), some (.int (nI a)), some (.int (nI m)), none, none] [] h Q := by
  obtain ⟨P, LN, K, Z, C, ⟨a1, a2, a3, a4, a5⟩, w2⟩ := w
  have hcls : px_cls h 619 = some 11 := by unfold px_cls; rw [h6]
  have lp : ∀ d i, i + d = n → ∀ x, enR x i T q → px_Wp sx 210 6 [some (.ref 619), some (.ref A), some (.int (nI a)), some (.int (nI m)), some (.int x), some (.int (nI i))] [] h Q := by
    intro d
    induction d with
    | zero =>
      intro i hi x wx
      have e : i = n := by omega
      subst e
      have le : nI i ≤ nI i := Int32.le_refl _
      simp only [pc210_6, pc210_8, pc210_8n, pc210_9, pc210_12, pc210_56, pc210_58, px_op_some, px_kv_ap, px_ki_ap, px_kl_ap, px_kn_ap, px_kh_ap, px_op_none, px_K_some, px_K_none, px_K_thr, px_kill, ↓reduceIte, if_true, if_false, true_and, and_true, px_gf, h6, mf_26, hv, le]
      exact hQ x wx
    | succ d ih =>
      intro i hi x wx
      have ge : ¬ nI n ≤ nI i := nI_ge (by omega) (by omega)
      obtain ⟨i46, ok, r1, r2, r3, r4, r5⟩ := w2 i (by omega)
      have l35 := ok.1.2.1
      have ii : px_in (nI i) 46 = true := px_inb (by omega) (by decide)
      have ci : (nI i).toNatClampNeg = i := nI_clamp (by omega)
      rw [pc210_6]
      simp only [pc210_8, pc210_8n, pc210_9, pc210_12, pc210_15, pc210_15n, pc210_16, pc210_16n, pc210_17, pc210_20, pc210_22, pc210_24, pc210_25, pc210_25n, pc210_26, pc210_29, pc210_31, pc210_32, pc210_32n, pc210_33, pc210_34, pc210_35, px_op_some, px_kv_ap, px_ki_ap, px_kl_ap, px_kn_ap, px_kh_ap, px_op_none, px_K_some, px_K_none, px_K_thr, px_kill, ↓reduceIte, if_true, if_false, true_and, and_true, px_gf, px_ai, h6, mf_26, mf_27, mf_28, hv, ge, mul_36, a2, ii, ci, r1, tg_i1, and_self, hcls, px_kill]
      refine m_compare (p := eP (T i)) (q := q) a1 hA (by decide) hNA (by omega) ha (pth_rng ok.1) hq r4 hf (fun y hy => ?_)
      rcases hy with ⟨rfl, hy⟩ | hy
      · simp only [px_K_some, pc210_38, pc210_41, pc210_43, pc210_46, pc210_48, pc210_50, pc210_53, px_op_some, px_kv_ap, px_ki_ap, px_kl_ap, px_kn_ap, px_kh_ap, px_op_none, px_K_some, px_K_none, px_K_thr, px_kill, ↓reduceIte, if_true, if_false, true_and, and_true, yr_0, yr_1, tr_0, tr_1, tr_2, tr_3, px_rf, of_2, of_4, in_02, in_12, in_04, in_14, in_24, in_34, Nat.reduceLeDiff, in_01, lgc_self, Int32.reduceToNatClampNeg, wr_at, al_at, px_wr_len, px_al_len, px_wr_1, px_al_1, tg_0, tg_1, tg_2, tg_3, tg_12, tg_15, tg_17, tg_18, tg_i1, tg_b0, tg_b3, px_fit, Nat.reduceEqDiff, Nat.reduceLT, Nat.reduceAdd, Option.some.injEq, up_at, px_wr_wr, i32_le, Int32.reduceLE, Int32.reduceLT, mf_len, nar_0, nar_1, px_KH_some, px_KH_none, px_KH_thr, List.length_cons, List.length_nil, List.getElem?_cons_zero, List.getElem?_cons_succ, List.set_cons_zero, List.set_cons_succ, ↓reduceIte, Nat.lt_irrefl, ne_0_1, ne_0_2, ne_0_3, ne_0_4, ne_0_5, ne_1_0, ne_1_2, ne_1_3, ne_1_4, ne_1_5, ne_2_0, ne_2_1, ne_2_3, ne_2_4, ne_2_5, ne_3_0, ne_3_1, ne_3_2, ne_3_4, ne_3_5, ne_4_0, ne_4_1, ne_4_2, ne_4_3, ne_4_5, ne_5_0, ne_5_1, ne_5_2, ne_5_3, ne_5_4, hd_256_12, hd_256_16, hd_257_12, hd_258_12, hd_259_12, hd_260_12, hd_261_12, hd_261_13, hd_261_16, hd_262_12, hd_262_13, hd_262_16, hd_263_12, hd_263_13, hd_264_12, hd_264_13, hd_264_14, hd_265_12, hd_265_13, hd_265_14, hd_266_12, hd_267_12, hd_267_13, hd_267_14, hd_268_12, hd_269_12, hd_269_14, hd_270_12, hd_271_12, hd_272_12, hd_273_12, hd_273_13, hd_273_15, hd_274_12, hd_274_15, hd_275_12, hd_275_15, hd_276_12, nI_p1, nI_p2, nI_p3, nI_p4, nI_p5, not_true_eq_false, not_false_eq_true, and_self, mf_0, mf_1, mf_2, mf_3, mf_4, mf_5, mf_6, mf_7, mf_8, mf_9, mf_10, mf_11, mf_12, mf_13, mf_14, mf_15, mf_16, mf_17, mf_18, mf_19, mf_20, mf_21, mf_22, mf_23, mf_24, mf_25, mf_26, mf_27, mf_28, mf_29, mf_30, mf_31, mf_32, mf_33, mf_34, mf_35, mf_36, mf_37, mf_38, mf_39, mf_40, mf_41, mf_42, mf_43, mf_44, mf_45, mf_46, mf_47, mf_48, mf_49, mf_50, mf_51, mf_52, mf_53, mf_54, mf_55, mf_56, mf_57, mf_58, mf_59, mf_60, mf_61, mfs_0, mfs_2, mfs_17, mfs_20, mfs_26, mfs_32, mfs_34, mfs_36, mfs_38, mfs_43, mfs_44, mfs_45, mfs_46, mfs_47, iy_0, iy_1, iy_2, iy_3, iy_4, iy_5, iy_6, px_kill, nI_1]
        exact ih (i + 1) (by omega) _ (.inl ⟨i, by omega, hy, rfl⟩)
      · have ny : ¬ y = 0 := fun z => by
          subst z
          rcases hy with ⟨y1, -⟩ | ⟨y1, -⟩ <;> exact Int32.lt_irrefl y1
        have ne : ¬ eP (T i) = q := fun z => by
          rw [z] at hy
          rcases hy with ⟨-, y1⟩ | ⟨-, y1⟩ <;> exact plt_irr _ y1
        simp only [px_K_some, pc210_38, pc210_46, pc210_48, pc210_50, pc210_53, px_op_some, px_kv_ap, px_ki_ap, px_kl_ap, px_kn_ap, px_kh_ap, px_op_none, px_K_some, px_K_none, px_K_thr, px_kill, ↓reduceIte, if_true, if_false, true_and, and_true, yr_0, yr_1, tr_0, tr_1, tr_2, tr_3, px_rf, of_2, of_4, in_02, in_12, in_04, in_14, in_24, in_34, Nat.reduceLeDiff, in_01, lgc_self, Int32.reduceToNatClampNeg, wr_at, al_at, px_wr_len, px_al_len, px_wr_1, px_al_1, tg_0, tg_1, tg_2, tg_3, tg_12, tg_15, tg_17, tg_18, tg_i1, tg_b0, tg_b3, px_fit, Nat.reduceEqDiff, Nat.reduceLT, Nat.reduceAdd, Option.some.injEq, up_at, px_wr_wr, i32_le, Int32.reduceLE, Int32.reduceLT, mf_len, nar_0, nar_1, px_KH_some, px_KH_none, px_KH_thr, List.length_cons, List.length_nil, List.getElem?_cons_zero, List.getElem?_cons_succ, List.set_cons_zero, List.set_cons_succ, ↓reduceIte, Nat.lt_irrefl, ne_0_1, ne_0_2, ne_0_3, ne_0_4, ne_0_5, ne_1_0, ne_1_2, ne_1_3, ne_1_4, ne_1_5, ne_2_0, ne_2_1, ne_2_3, ne_2_4, ne_2_5, ne_3_0, ne_3_1, ne_3_2, ne_3_4, ne_3_5, ne_4_0, ne_4_1, ne_4_2, ne_4_3, ne_4_5, ne_5_0, ne_5_1, ne_5_2, ne_5_3, ne_5_4, hd_256_12, hd_256_16, hd_257_12, hd_258_12, hd_259_12, hd_260_12, hd_261_12, hd_261_13, hd_261_16, hd_262_12, hd_262_13, hd_262_16, hd_263_12, hd_263_13, hd_264_12, hd_264_13, hd_264_14, hd_265_12, hd_265_13, hd_265_14, hd_266_12, hd_267_12, hd_267_13, hd_267_14, hd_268_12, hd_269_12, hd_269_14, hd_270_12, hd_271_12, hd_272_12, hd_273_12, hd_273_13, hd_273_15, hd_274_12, hd_274_15, hd_275_12, hd_275_15, hd_276_12, nI_p1, nI_p2, nI_p3, nI_p4, nI_p5, not_true_eq_false, not_false_eq_true, and_self, mf_0, mf_1, mf_2, mf_3, mf_4, mf_5, mf_6, mf_7, mf_8, mf_9, mf_10, mf_11, mf_12, mf_13, mf_14, mf_15, mf_16, mf_17, mf_18, mf_19, mf_20, mf_21, mf_22, mf_23, mf_24, mf_25, mf_26, mf_27, mf_28, mf_29, mf_30, mf_31, mf_32, mf_33, mf_34, mf_35, mf_36, mf_37, mf_38, mf_39, mf_40, mf_41, mf_42, mf_43, mf_44, mf_45, mf_46, mf_47, mf_48, mf_49, mf_50, mf_51, mf_52, mf_53, mf_54, mf_55, mf_56, mf_57, mf_58, mf_59, mf_60, mf_61, mfs_0, mfs_2, mfs_17, mfs_20, mfs_26, mfs_32, mfs_34, mfs_36, mfs_38, mfs_43, mfs_44, mfs_45, mfs_46, mfs_47, iy_0, iy_1, iy_2, iy_3, iy_4, iy_5, iy_6, ny, px_kill, nI_1]
        refine ih (i + 1) (by omega) _ ?_
        rcases wx with ⟨j, j1, j2, j3⟩ | ⟨j1, j2⟩
        · exact .inl ⟨j, by omega, j2, j3⟩
        · refine .inr ⟨fun j hj => ?_, j2⟩
          by_cases z : j = i
          · subst z; exact ne
          · exact j1 j (by omega)
  simp only [pc210_0, pc210_1, pc210_3, pc210_4, px_kill]
  exact lp n 0 (by omega) _ (.inr ⟨fun i hi => absurd hi (Nat.not_lt_zero i), rfl⟩)
set_option maxRecDepth 16384 in
theorem m_newOf (h6 : h.2[619]? = some (.inl (11, modF V))) (hv : V 20 = nI n') (hn : n' ≤ 81) (w : mtE h (fun i => i < n') E) (wo : moE h n T) (hi : i < n) (hm : m ≤ eL (T i))
    (hQ : ∀ x, enR x n' E (cutP (eP (T i)) m) → Q (.inl (some (.int x))) h) : px_Wp sx 214 0 [some (.ref 619), some (.int (nI i)), some (.int (nI m)), none, none] [] h Q := by
  obtain ⟨P, LN, K, Z, C, ⟨a1, a2, a3, a4, a5⟩, w2⟩ := w
  obtain ⟨P', LN', K', Z', C', ⟨b1, b2, b3, b4, b5⟩, v2⟩ := wo
  obtain ⟨i46, oki, s1, s2, s3, s4, s5⟩ := v2 i hi
  have l35i := oki.1.2.1
  have hcls : px_cls h 619 = some 11 := by unfold px_cls; rw [h6]
  have lp : ∀ d e, e + d = n' → ∀ x, enR x e E (cutP (eP (T i)) m) → px_Wp sx 214 5 [some (.ref 619), some (.int (nI i)), some (.int (nI m)), some (.int x), some (.int (nI e))] [] h Q := by
    intro d
    induction d with
    | zero =>
      intro e he x wx
      have e' : e = n' := by omega
      subst e'
      have le : nI e ≤ nI e := Int32.le_refl _
      simp only [pc214_5, pc214_7, pc214_7n, pc214_8, pc214_11, pc214_59, pc214_60, px_op_some, px_kv_ap, px_ki_ap, px_kl_ap, px_kn_ap, px_kh_ap, px_op_none, px_K_some, px_K_none, px_K_thr, px_kill, ↓reduceIte, if_true, if_false, true_and, and_true, px_gf, h6, mf_20, hv, le]
      exact hQ x wx
    | succ d ih =>
      intro e he x wx
      have ge : ¬ nI n' ≤ nI e := nI_ge (by omega) (by omega)
      obtain ⟨e82, ok, r1, r2, r3, r4, r5⟩ := w2 e (by omega)
      have l35 := ok.1.2.1
      have ii : px_in (nI e) 82 = true := px_inb (by omega) (by decide)
      have ci : (nI e).toNatClampNeg = e := nI_clamp (by omega)
      rw [pc214_5]
      simp only [pc214_7, pc214_7n, pc214_8, pc214_11, pc214_14, pc214_14n, pc214_15, pc214_15n, pc214_16, pc214_19, pc214_21, pc214_23, pc214_24, pc214_24n, pc214_25, pc214_28, pc214_30, pc214_31, pc214_31n, pc214_32, pc214_35, pc214_37, pc214_38, pc214_39, pc214_40, px_op_some, px_kv_ap, px_ki_ap, px_kl_ap, px_kn_ap, px_kh_ap, px_op_none, px_K_some, px_K_none, px_K_thr, px_kill, ↓reduceIte, if_true, if_false, true_and, and_true, px_gf, px_ai, h6, mf_20, mf_21, mf_22, mf_27, hv, ge, mul_36, a2, ii, ci, r1, tg_i1, and_self, hcls, px_kill]
      refine m_compare (p := eP (E e)) (q := cutP (eP (T i)) m) a1 b1 (by decide) (by decide) (by omega) (by omega) (pth_rng ok.1) (sgs_cut (pth_rng oki.1) hm) r4 (fun j hj => by rw [cutP_lt hj]; exact s4 j (by omega)) (fun y hy => ?_)
      rcases hy with ⟨rfl, hy⟩ | hy
      · simp only [px_K_some, pc214_43, pc214_46, pc214_48, pc214_51, pc214_52, pc214_53, pc214_56, px_op_some, px_kv_ap, px_ki_ap, px_kl_ap, px_kn_ap, px_kh_ap, px_op_none, px_K_some, px_K_none, px_K_thr, px_kill, ↓reduceIte, if_true, if_false, true_and, and_true, yr_0, yr_1, tr_0, tr_1, tr_2, tr_3, px_rf, of_2, of_4, in_02, in_12, in_04, in_14, in_24, in_34, Nat.reduceLeDiff, in_01, lgc_self, Int32.reduceToNatClampNeg, wr_at, al_at, px_wr_len, px_al_len, px_wr_1, px_al_1, tg_0, tg_1, tg_2, tg_3, tg_12, tg_15, tg_17, tg_18, tg_i1, tg_b0, tg_b3, px_fit, Nat.reduceEqDiff, Nat.reduceLT, Nat.reduceAdd, Option.some.injEq, up_at, px_wr_wr, i32_le, Int32.reduceLE, Int32.reduceLT, mf_len, nar_0, nar_1, px_KH_some, px_KH_none, px_KH_thr, List.length_cons, List.length_nil, List.getElem?_cons_zero, List.getElem?_cons_succ, List.set_cons_zero, List.set_cons_succ, ↓reduceIte, Nat.lt_irrefl, ne_0_1, ne_0_2, ne_0_3, ne_0_4, ne_0_5, ne_1_0, ne_1_2, ne_1_3, ne_1_4, ne_1_5, ne_2_0, ne_2_1, ne_2_3, ne_2_4, ne_2_5, ne_3_0, ne_3_1, ne_3_2, ne_3_4, ne_3_5, ne_4_0, ne_4_1, ne_4_2, ne_4_3, ne_4_5, ne_5_0, ne_5_1, ne_5_2, ne_5_3, ne_5_4, hd_256_12, hd_256_16, hd_257_12, hd_258_12, hd_259_12, hd_260_12, hd_261_12, hd_261_13, hd_261_16, hd_262_12, hd_262_13, hd_262_16, hd_263_12, hd_263_13, hd_264_12, hd_264_13, hd_264_14, hd_265_12, hd_265_13, hd_265_14, hd_266_12, hd_267_12, hd_267_13, hd_267_14, hd_268_12, hd_269_12, hd_269_14, hd_270_12, hd_271_12, hd_272_12, hd_273_12, hd_273_13, hd_273_15, hd_274_12, hd_274_15, hd_275_12, hd_275_15, hd_276_12, nI_p1, nI_p2, nI_p3, nI_p4, nI_p5, not_true_eq_false, not_false_eq_true, and_self, mf_0, mf_1, mf_2, mf_3, mf_4, mf_5, mf_6, mf_7, mf_8, mf_9, mf_10, mf_11, mf_12, mf_13, mf_14, mf_15, mf_16, mf_17, mf_18, mf_19, mf_20, mf_21, mf_22, mf_23, mf_24, mf_25, mf_26, mf_27, mf_28, mf_29, mf_30, mf_31, mf_32, mf_33, mf_34, mf_35, mf_36, mf_37, mf_38, mf_39, mf_40, mf_41, mf_42, mf_43, mf_44, mf_45, mf_46, mf_47, mf_48, mf_49, mf_50, mf_51, mf_52, mf_53, mf_54, mf_55, mf_56, mf_57, mf_58, mf_59, mf_60, mf_61, mfs_0, mfs_2, mfs_17, mfs_20, mfs_26, mfs_32, mfs_34, mfs_36, mfs_38, mfs_43, mfs_44, mfs_45, mfs_46, mfs_47, iy_0, iy_1, iy_2, iy_3, iy_4, iy_5, iy_6, px_kill, nI_1]
        exact ih (e + 1) (by omega) _ (.inl ⟨e, by omega, hy, rfl⟩)
      · have ny : ¬ y = 0 := fun z => by
          subst z
          rcases hy with ⟨y1, -⟩ | ⟨y1, -⟩ <;> exact Int32.lt_irrefl y1
        have ne : ¬ eP (E e) = cutP (eP (T i)) m := fun z => by
          rw [z] at hy
          rcases hy with ⟨-, y1⟩ | ⟨-, y1⟩ <;> exact plt_irr _ y1
        simp only [px_K_some, pc214_43, pc214_51, pc214_52, pc214_53, pc214_56, px_op_some, px_kv_ap, px_ki_ap, px_kl_ap, px_kn_ap, px_kh_ap, px_op_none, px_K_some, px_K_none, px_K_thr, px_kill, ↓reduceIte, if_true, if_false, true_and, and_true, yr_0, yr_1, tr_0, tr_1, tr_2, tr_3, px_rf, of_2, of_4, in_02, in_12, in_04, in_14, in_24, in_34, Nat.reduceLeDiff, in_01, lgc_self, Int32.reduceToNatClampNeg, wr_at, al_at, px_wr_len, px_al_len, px_wr_1, px_al_1, tg_0, tg_1, tg_2, tg_3, tg_12, tg_15, tg_17, tg_18, tg_i1, tg_b0, tg_b3, px_fit, Nat.reduceEqDiff, Nat.reduceLT, Nat.reduceAdd, Option.some.injEq, up_at, px_wr_wr, i32_le, Int32.reduceLE, Int32.reduceLT, mf_len, nar_0, nar_1, px_KH_some, px_KH_none, px_KH_thr, List.length_cons, List.length_nil, List.getElem?_cons_zero, List.getElem?_cons_succ, List.set_cons_zero, List.set_cons_succ, ↓reduceIte, Nat.lt_irrefl, ne_0_1, ne_0_2, ne_0_3, ne_0_4, ne_0_5, ne_1_0, ne_1_2, ne_1_3, ne_1_4, ne_1_5, ne_2_0, ne_2_1, ne_2_3, ne_2_4, ne_2_5, ne_3_0, ne_3_1, ne_3_2, ne_3_4, ne_3_5, ne_4_0, ne_4_1, ne_4_2, ne_4_3, ne_4_5, ne_5_0, ne_5_1, ne_5_2, ne_5_3, ne_5_4, hd_256_12, hd_256_16, hd_257_12, hd_258_12, hd_259_12, hd_260_12, hd_261_12, hd_261_13, hd_261_16, hd_262_12, hd_262_13, hd_262_16, hd_263_12, hd_263_13, hd_264_12, hd_264_13, hd_264_14, hd_265_12, hd_265_13, hd_265_14, hd_266_12, hd_267_12, hd_267_13, hd_267_14, hd_268_12, hd_269_12, hd_269_14, hd_270_12, hd_271_12, hd_272_12, hd_273_12, hd_273_13, hd_273_15, hd_274_12, hd_274_15, hd_275_12, hd_275_15, hd_276_12, nI_p1, nI_p2, nI_p3, nI_p4, nI_p5, not_true_eq_false, not_false_eq_true, and_self, mf_0, mf_1, mf_2, mf_3, mf_4, mf_5, mf_6, mf_7, mf_8, mf_9, mf_10, mf_11, mf_12, mf_13, mf_14, mf_15, mf_16, mf_17, mf_18, mf_19, mf_20, mf_21, mf_22, mf_23, mf_24, mf_25, mf_26, mf_27, mf_28, mf_29, mf_30, mf_31, mf_32, mf_33, mf_34, mf_35, mf_36, mf_37, mf_38, mf_39, mf_40, mf_41, mf_42, mf_43, mf_44, mf_45, mf_46, mf_47, mf_48, mf_49, mf_50, mf_51, mf_52, mf_53, mf_54, mf_55, mf_56, mf_57, mf_58, mf_59, mf_60, mf_61, mfs_0, mfs_2, mfs_17, mfs_20, mfs_26, mfs_32, mfs_34, mfs_36, mfs_38, mfs_43, mfs_44, mfs_45, mfs_46, mfs_47, iy_0, iy_1, iy_2, iy_3, iy_4, iy_5, iy_6, ny, px_kill, nI_1]
        refine ih (e + 1) (by omega) _ ?_
        rcases wx with ⟨j, j1, j2, j3⟩ | ⟨j1, j2⟩
        · exact .inl ⟨j, by omega, j2, j3⟩
        · refine .inr ⟨fun j hj => ?_, j2⟩
          by_cases z : j = e
          · subst z; exact ne
          · exact j1 j (by omega)
  simp only [pc214_0, pc214_1, pc214_2, pc214_3, px_kill]
  exact lp n' 0 (by omega) _ (.inr ⟨fun i hi => absurd hi (Nat.not_lt_zero i), rfl⟩)
end LOOKUP
