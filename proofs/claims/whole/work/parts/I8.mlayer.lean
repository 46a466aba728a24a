/-! LAYERS, the reference's: a layer applied -/
def mEL (r : Nat) : Prop := mEB r ∨ r = 647
/-- the reference's tree is t -/
def alS (h h1 : px_H) (V : Nat → Int32) (t : Nat × (Nat → aE)) : Prop := ∃ V1, h1.2[619]? = some (.inl (11, modF V1)) ∧ V1 20 = nI t.1 ∧ (∀ j, j ≠ 20 → j ≠ 32 → V1 j = V j) ∧ mtE h1 (fun i => i < t.1) t.2 ∧ tOK t.1 t.2 ∧ (∃ g, h1.2[647]? = some (.inr (1, 240, .inl g))) ∧ frm mEL h h1 ∧ (shape h → shape h1)
section MLAY
variable {sx : Nat × (Nat → Int32)} {h : px_H} {B : Nat → Nat} {V row : Nat → Int32} {L p : Nat} {Q : px_O → px_H → Prop}
set_option maxRecDepth 16384 in
theorem m_al_l1 (h6 : h.2[619]? = some (.inl (11, modF V))) (hr : h.2[636]? = some (.inr (1, 40100, .inl row))) (hv : V 17 = nI L) (hL : L ≤ 40000) (hB : ∀ j, j < L → row j = nI (B j) ∧ B j < 256)
    (hQ1 : ∀ N, isL B L N → px_Wp sx 176 36 [some (.ref 619), some (.int (nI L)), none, none] [] h Q) (hQ0 : ∀ N, noL B L N → Q (.inl none) h) :
    ∀ d i, L ≤ itP B i + d → itP B i ≤ L → (∀ j, j < i → itOK B L (itP B j)) → px_Wp sx 176 2 [some (.ref 619), some (.int (nI (itP B i))), none, none] [] h Q := by
  have hcls : px_cls h 619 = some 11 := by unfold px_cls; rw [h6]
  have fin : ∀ i, itP B i = L → (∀ j, j < i → itOK B L (itP B j)) → px_Wp sx 176 2 [some (.ref 619), some (.int (nI (itP B i))), none, none] [] h Q := fun i e w => by
    have q := hQ1 i ⟨w, e⟩
    rw [e]
    simp only [pc176_2, pc176_3, pc176_3n, pc176_4, pc176_7, pc176_27, pc176_28, pc176_28n, pc176_29, pc176_32, px_op_some, px_kv_ap, px_ki_ap, px_kl_ap, px_kn_ap, px_kh_ap, px_op_none, px_K_some, px_K_none, px_K_thr, px_kill, ↓reduceIte, if_true, if_false, true_and, and_true, px_gf, h6, mf_17, hv, if_pos (Int32.le_refl _)]
    exact q
  intro d
  induction d with
  | zero =>
    intro i h1 h2 w
    exact fin i (by omega) w
  | succ d ih =>
    intro i h1 h2 w
    by_cases e : itP B i = L
    · exact fin i e w
    · have ge : ¬ nI L ≤ nI (itP B i) := nI_ge (by omega) (by omega)
      rw [pc176_2]
      simp only [pc176_3, pc176_3n, pc176_4, pc176_7, pc176_10, pc176_10n, pc176_11, pc176_12, px_op_some, px_kv_ap, px_ki_ap, px_kl_ap, px_kn_ap, px_kh_ap, px_op_none, px_K_some, px_K_none, px_K_thr, px_kill, ↓reduceIte, if_true, if_false, true_and, and_true, px_gf, h6, mf_17, hv, ge, hcls]
      refine m_isItem h6 hr hv hL hB (by omega) (fun x hx => ?_)
      rcases hx with ⟨rfl, hx⟩ | ⟨rfl, hx⟩
      · simp only [px_K_some, pc176_15, pc176_18, pc176_18n, pc176_19, pc176_20, px_op_some, px_kv_ap, px_ki_ap, px_kl_ap, px_kn_ap, px_kh_ap, px_op_none, px_K_some, px_K_none, px_K_thr, px_kill, ↓reduceIte, if_true, if_false, true_and, and_true, yr_0, yr_1, tr_0, tr_1, tr_2, tr_3, px_rf, of_2, of_4, in_02, in_12, in_04, in_14, in_24, in_34, Nat.reduceLeDiff, in_01, lgc_self, Int32.reduceToNatClampNeg, wr_at, al_at, px_wr_len, px_al_len, px_wr_1, px_al_1, tg_0, tg_1, tg_2, tg_3, tg_12, tg_15, tg_17, tg_18, tg_i1, tg_b0, tg_b3, px_fit, Nat.reduceEqDiff, Nat.reduceLT, Nat.reduceAdd, Option.some.injEq, up_at, px_wr_wr, i32_le, Int32.reduceLE, Int32.reduceLT, mf_len, nar_0, nar_1, px_KH_some, px_KH_none, px_KH_thr, List.length_cons, List.length_nil, List.getElem?_cons_zero, List.getElem?_cons_succ, List.set_cons_zero, List.set_cons_succ, ↓reduceIte, Nat.lt_irrefl, ne_0_1, ne_0_2, ne_0_3, ne_0_4, ne_0_5, ne_1_0, ne_1_2, ne_1_3, ne_1_4, ne_1_5, ne_2_0, ne_2_1, ne_2_3, ne_2_4, ne_2_5, ne_3_0, ne_3_1, ne_3_2, ne_3_4, ne_3_5, ne_4_0, ne_4_1, ne_4_2, ne_4_3, ne_4_5, ne_5_0, ne_5_1, ne_5_2, ne_5_3, ne_5_4, hd_256_12, hd_256_16, hd_257_12, hd_258_12, hd_259_12, hd_260_12, hd_261_12, hd_261_13, hd_261_16, hd_262_12, hd_262_13, hd_262_16, hd_263_12, hd_263_13, hd_264_12, hd_264_13, hd_264_14, hd_265_12, hd_265_13, hd_265_14, hd_266_12, hd_267_12, hd_267_13, hd_267_14, hd_268_12, hd_269_12, hd_269_14, hd_270_12, hd_271_12, hd_272_12, hd_273_12, hd_273_13, hd_273_15, hd_274_12, hd_274_15, hd_275_12, hd_275_15, hd_276_12, nI_p1, nI_p2, nI_p3, nI_p4, nI_p5, not_true_eq_false, not_false_eq_true, and_self, mf_0, mf_1, mf_2, mf_3, mf_4, mf_5, mf_6, mf_7, mf_8, mf_9, mf_10, mf_11, mf_12, mf_13, mf_14, mf_15, mf_16, mf_17, mf_18, mf_19, mf_20, mf_21, mf_22, mf_23, mf_24, mf_25, mf_26, mf_27, mf_28, mf_29, mf_30, mf_31, mf_32, mf_33, mf_34, mf_35, mf_36, mf_37, mf_38, mf_39, mf_40, mf_41, mf_42, mf_43, mf_44, mf_45, mf_46, mf_47, mf_48, mf_49, mf_50, mf_51, mf_52, mf_53, mf_54, mf_55, mf_56, mf_57, mf_58, mf_59, mf_60, mf_61, mfs_0, mfs_2, mfs_17, mfs_20, mfs_26, mfs_32, mfs_34, mfs_36, mfs_38, mfs_43, mfs_44, mfs_45, mfs_46, mfs_47, iy_0, iy_1, iy_2, iy_3, iy_4, iy_5, iy_6, hcls]
        refine m_behindItem h6 hr hL hB hx ?_
        simp only [px_K_some, pc176_23, pc176_24, px_kill]
        have lt := itP_lt (B := B) (i := i) 1
        refine ih (i + 1) (by omega) hx.2.2.2.2.2 (fun j hj => ?_)
        by_cases z : j = i
        · subst z; exact hx
        · exact w j (by omega)
      · simp only [px_K_some, pc176_15, pc176_27, pc176_28, pc176_28n, pc176_29, pc176_32, pc176_35, px_op_some, px_kv_ap, px_ki_ap, px_kl_ap, px_kn_ap, px_kh_ap, px_op_none, px_K_some, px_K_none, px_K_thr, px_kill, ↓reduceIte, if_true, if_false, true_and, and_true, yr_0, yr_1, tr_0, tr_1, tr_2, tr_3, px_rf, of_2, of_4, in_02, in_12, in_04, in_14, in_24, in_34, Nat.reduceLeDiff, in_01, lgc_self, Int32.reduceToNatClampNeg, wr_at, al_at, px_wr_len, px_al_len, px_wr_1, px_al_1, tg_0, tg_1, tg_2, tg_3, tg_12, tg_15, tg_17, tg_18, tg_i1, tg_b0, tg_b3, px_fit, Nat.reduceEqDiff, Nat.reduceLT, Nat.reduceAdd, Option.some.injEq, up_at, px_wr_wr, i32_le, Int32.reduceLE, Int32.reduceLT, mf_len, nar_0, nar_1, px_KH_some, px_KH_none, px_KH_thr, List.length_cons, List.length_nil, List.getElem?_cons_zero, List.getElem?_cons_succ, List.set_cons_zero, List.set_cons_succ, ↓reduceIte, Nat.lt_irrefl, ne_0_1, ne_0_2, ne_0_3, ne_0_4, ne_0_5, ne_1_0, ne_1_2, ne_1_3, ne_1_4, ne_1_5, ne_2_0, ne_2_1, ne_2_3, ne_2_4, ne_2_5, ne_3_0, ne_3_1, ne_3_2, ne_3_4, ne_3_5, ne_4_0, ne_4_1, ne_4_2, ne_4_3, ne_4_5, ne_5_0, ne_5_1, ne_5_2, ne_5_3, ne_5_4, hd_256_12, hd_256_16, hd_257_12, hd_258_12, hd_259_12, hd_260_12, hd_261_12, hd_261_13, hd_261_16, hd_262_12, hd_262_13, hd_262_16, hd_263_12, hd_263_13, hd_264_12, hd_264_13, hd_264_14, hd_265_12, hd_265_13, hd_265_14, hd_266_12, hd_267_12, hd_267_13, hd_267_14, hd_268_12, hd_269_12, hd_269_14, hd_270_12, hd_271_12, hd_272_12, hd_273_12, hd_273_13, hd_273_15, hd_274_12, hd_274_15, hd_275_12, hd_275_15, hd_276_12, nI_p1, nI_p2, nI_p3, nI_p4, nI_p5, not_true_eq_false, not_false_eq_true, and_self, mf_0, mf_1, mf_2, mf_3, mf_4, mf_5, mf_6, mf_7, mf_8, mf_9, mf_10, mf_11, mf_12, mf_13, mf_14, mf_15, mf_16, mf_17, mf_18, mf_19, mf_20, mf_21, mf_22, mf_23, mf_24, mf_25, mf_26, mf_27, mf_28, mf_29, mf_30, mf_31, mf_32, mf_33, mf_34, mf_35, mf_36, mf_37, mf_38, mf_39, mf_40, mf_41, mf_42, mf_43, mf_44, mf_45, mf_46, mf_47, mf_48, mf_49, mf_50, mf_51, mf_52, mf_53, mf_54, mf_55, mf_56, mf_57, mf_58, mf_59, mf_60, mf_61, mfs_0, mfs_2, mfs_17, mfs_20, mfs_26, mfs_32, mfs_34, mfs_36, mfs_38, mfs_43, mfs_44, mfs_45, mfs_46, mfs_47, iy_0, iy_1, iy_2, iy_3, iy_4, iy_5, iy_6, px_gf, h6, hv, ge]
        exact hQ0 i ⟨w, by omega, hx⟩
set_option maxRecDepth 16384 in
theorem m_al_l3 {l : Nat} {kd : Int32} {g : Nat → Int32} (hl : 647 < h.2.length) (h6 : h.2[619]? = some (.inl (11, modF V))) (hr : h.2[636]? = some (.inr (1, 40100, .inl row))) (hv2 : V 32 = nI l) (l35 : l ≤ 240) (hp : p + 2 + l ≤ 40100)
    (hQ : ∀ g', (∀ j, j < l → g' j = row (p + 2 + j)) → px_Wp sx 176 97 [some (.ref 619), some (.int (nI p)), some (.int kd), some (.int (nI l))] [] (px_wr h 647 (.inr (1, 240, .inl g'))) Q) :
    ∀ d k, k + d = l → ∀ gk, (∀ j, j < k → gk j = row (p + 2 + j)) → px_Wp sx 176 67 [some (.ref 619), some (.int (nI p)), some (.int kd), some (.int (nI k))] [] (px_wr h 647 (.inr (1, 240, .inl gk))) Q := by
  have z7 : ∀ x : px_C, (px_wr h 647 x).2[647]? = some x := fun x => by rw [wr_at, if_pos rfl, if_pos hl]
  have z6 : ∀ x : px_C, (px_wr h 647 x).2[619]? = some (.inl (11, modF V)) := fun x => by rw [wr_at, if_neg (by decide)]; exact h6
  have z8 : ∀ x : px_C, (px_wr h 647 x).2[636]? = some (.inr (1, 40100, .inl row)) := fun x => by rw [wr_at, if_neg (by decide)]; exact hr
  have n1 : ∀ x : Int32, px_nar 1 x = x := fun _ => rfl
  have p2 : nI p + 2 = nI (p + 2) := nI_p2 p
  intro d
  induction d with
  | zero =>
    intro k hk gk w
    have hk : k = l := by omega
    subst hk
    simp only [pc176_67, pc176_68, pc176_68n, pc176_69, pc176_72, px_op_some, px_kv_ap, px_ki_ap, px_kl_ap, px_kn_ap, px_kh_ap, px_op_none, px_K_some, px_K_none, px_K_thr, px_kill, ↓reduceIte, if_true, if_false, true_and, and_true, px_gf, z6, mf_32, hv2, if_pos (Int32.le_refl _)]
    exact hQ gk w
  | succ d ih =>
    intro k hk gk w
    have ge : ¬ nI l ≤ nI k := nI_ge (by omega) (by omega)
    have ik : px_in (nI k) 240 = true := px_inb (by omega) (by decide)
    have ck : (nI k).toNatClampNeg = k := nI_clamp (by omega)
    have ir : px_in (nI (p + 2 + k)) 40100 = true := px_inb (by omega) (by decide)
    have cr : (nI (p + 2 + k)).toNatClampNeg = p + 2 + k := nI_clamp (by omega)
    rw [pc176_67]
    simp only [pc176_68, pc176_68n, pc176_69, pc176_72, pc176_75, pc176_75n, pc176_76, pc176_79, pc176_80, pc176_80n, pc176_81, pc176_84, pc176_85, pc176_86, pc176_87, pc176_88, pc176_89, pc176_90, pc176_91, pc176_94, px_op_some, px_kv_ap, px_ki_ap, px_kl_ap, px_kn_ap, px_kh_ap, px_op_none, px_K_some, px_K_none, px_K_thr, px_kill, ↓reduceIte, if_true, if_false, true_and, and_true, px_gf, px_ai, px_wi, tg_i1, z6, z7, z8, mf_19, mf_32, mf_33, hv2, ge, p2, nI_add, ik, ck, ir, cr, n1, and_self, px_wr_wr, px_kill, nI_1]
    refine ih (k + 1) (by omega) _ (fun j hj => ?_)
    by_cases x : j = k
    · subst x; exact up_same _ _ _
    · rw [up_ne x]; exact w j (by omega)
set_option maxRecDepth 16384 in
theorem m_al_step {h1 : px_H} {t : Nat × (Nat → aE)} {l2 l3 : Option Value} (hr : h.2[636]? = some (.inr (1, 40100, .inl row))) (hv : V 17 = nI L) (hL : L ≤ 40000) (hB : ∀ j, j < L → row j = nI (B j) ∧ B j < 256) (ok : itOK B L p) (a : alS h h1 V t)
    (hQ : ∀ t' h2 l2 l3, itA B p t t' → alS h h2 V t' → px_Wp sx 176 38 [some (.ref 619), some (.int (nI (itX B p))), l2, l3] [] h2 Q) :
    px_Wp sx 176 38 [some (.ref 619), some (.int (nI p)), l2, l3] [] h1 Q := by
  obtain ⟨V1, b6, v20, vj, w, tok, ⟨g, bg⟩, fr, sh⟩ := a
  have hr1 := (fr.2.2 636 (by unfold mEL mEB mEA; omega)).trans hr
  have v17 : V1 17 = nI L := (vj 17 (by decide) (by decide)).trans hv
  have z3 := ok.2.2.1
  have zx := ok.2.2.2.2.2
  have p35 := path_35 ok.2.2.2.1
  have ppt := path_pth ok.2.2.2.1
  have m1000 := it_m ok
  have ge : ¬ nI L ≤ nI p := nI_ge (by omega) (by omega)
  have i0 : px_in (nI p) 40100 = true := px_inb (by omega) (by decide)
  have c0 : (nI p).toNatClampNeg = p := nI_clamp (by omega)
  have i1 : px_in (nI (p + 1)) 40100 = true := px_inb (by omega) (by decide)
  have c1 : (nI (p + 1)).toNatClampNeg = p + 1 := nI_clamp (by omega)
  obtain ⟨r0, s0⟩ := hB p (by omega)
  obtain ⟨r1, s1⟩ := hB (p + 1) (by omega)
  have L6 : 619 < h1.2.length := (List.getElem?_eq_some_iff.mp b6).1
  have L7 : 647 < h1.2.length := (List.getElem?_eq_some_iff.mp bg).1
  rw [pc176_38]
  simp only [pc176_39, pc176_39n, pc176_40, pc176_43, pc176_46, pc176_46n, pc176_47, pc176_50, pc176_51, pc176_52, pc176_53, pc176_53n, pc176_54, pc176_54n, pc176_55, pc176_58, pc176_59, pc176_60, pc176_61, pc176_62, pc176_65, pc176_66, px_op_some, px_kv_ap, px_ki_ap, px_kl_ap, px_kn_ap, px_kh_ap, px_op_none, px_K_some, px_K_none, px_K_thr, px_kill, ↓reduceIte, if_true, if_false, true_and, and_true, yr_0, yr_1, tr_0, tr_1, tr_2, tr_3, px_rf, of_2, of_4, in_02, in_12, in_04, in_14, in_24, in_34, Nat.reduceLeDiff, in_01, lgc_self, Int32.reduceToNatClampNeg, wr_at, al_at, px_wr_len, px_al_len, px_wr_1, px_al_1, tg_0, tg_1, tg_2, tg_3, tg_12, tg_15, tg_17, tg_18, tg_i1, tg_b0, tg_b3, px_fit, Nat.reduceEqDiff, Nat.reduceLT, Nat.reduceAdd, Option.some.injEq, up_at, px_wr_wr, i32_le, Int32.reduceLE, Int32.reduceLT, mf_len, nar_0, nar_1, px_KH_some, px_KH_none, px_KH_thr, List.length_cons, List.length_nil, List.getElem?_cons_zero, List.getElem?_cons_succ, List.set_cons_zero, List.set_cons_succ, ↓reduceIte, Nat.lt_irrefl, ne_0_1, ne_0_2, ne_0_3, ne_0_4, ne_0_5, ne_1_0, ne_1_2, ne_1_3, ne_1_4, ne_1_5, ne_2_0, ne_2_1, ne_2_3, ne_2_4, ne_2_5, ne_3_0, ne_3_1, ne_3_2, ne_3_4, ne_3_5, ne_4_0, ne_4_1, ne_4_2, ne_4_3, ne_4_5, ne_5_0, ne_5_1, ne_5_2, ne_5_3, ne_5_4, hd_256_12, hd_256_16, hd_257_12, hd_258_12, hd_259_12, hd_260_12, hd_261_12, hd_261_13, hd_261_16, hd_262_12, hd_262_13, hd_262_16, hd_263_12, hd_263_13, hd_264_12, hd_264_13, hd_264_14, hd_265_12, hd_265_13, hd_265_14, hd_266_12, hd_267_12, hd_267_13, hd_267_14, hd_268_12, hd_269_12, hd_269_14, hd_270_12, hd_271_12, hd_272_12, hd_273_12, hd_273_13, hd_273_15, hd_274_12, hd_274_15, hd_275_12, hd_275_15, hd_276_12, nI_p1, nI_p2, nI_p3, nI_p4, nI_p5, not_true_eq_false, not_false_eq_true, and_self, mf_0, mf_1, mf_2, mf_3, mf_4, mf_5, mf_6, mf_7, mf_8, mf_9, mf_10, mf_11, mf_12, mf_13, mf_14, mf_15, mf_16, mf_17, mf_18, mf_19, mf_20, mf_21, mf_22, mf_23, mf_24, mf_25, mf_26, mf_27, mf_28, mf_29, mf_30, mf_31, mf_32, mf_33, mf_34, mf_35, mf_36, mf_37, mf_38, mf_39, mf_40, mf_41, mf_42, mf_43, mf_44, mf_45, mf_46, mf_47, mf_48, mf_49, mf_50, mf_51, mf_52, mf_53, mf_54, mf_55, mf_56, mf_57, mf_58, mf_59, mf_60, mf_61, mfs_0, mfs_2, mfs_17, mfs_20, mfs_26, mfs_32, mfs_34, mfs_36, mfs_38, mfs_43, mfs_44, mfs_45, mfs_46, mfs_47, iy_0, iy_1, iy_2, iy_3, iy_4, iy_5, iy_6, px_gf, px_pf, px_ai, b6, hr1, v17, ge, i0, c0, r0, i1, c1, r1, tg_i1, px_kill]
  have d6 : (px_wr h1 619 (.inl (11, modF (px_up V1 32 (nI (B (p + 1))))))).2[619]? = some (.inl (11, modF (px_up V1 32 (nI (B (p + 1)))))) := by rw [wr_at, if_pos rfl, if_pos L6]
  have dg : (px_wr h1 619 (.inl (11, modF (px_up V1 32 (nI (B (p + 1))))))).2[647]? = some (.inr (1, 240, .inl g)) := by rw [wr_at, if_neg (by decide)]; exact bg
  have dr : (px_wr h1 619 (.inl (11, modF (px_up V1 32 (nI (B (p + 1))))))).2[636]? = some (.inr (1, 40100, .inl row)) := by rw [wr_at, if_neg (by decide)]; exact hr1
  have e0 : px_wr (px_wr h1 619 (.inl (11, modF (px_up V1 32 (nI (B (p + 1))))))) 647 (.inr (1, 240, .inl g)) = px_wr h1 619 (.inl (11, modF (px_up V1 32 (nI (B (p + 1)))))) := wr_id dg
  have go := m_al_l3 (sx := sx) (h := px_wr h1 619 (.inl (11, modF (px_up V1 32 (nI (B (p + 1))))))) (p := p) (l := B (p + 1)) (kd := nI (B p)) (g := g) (Q := Q) (by rw [px_wr_len]; exact L7) d6 dr (up_same _ _ _) (by omega) (by omega) (fun g' hg' => by
    have f6 : (px_wr (px_wr h1 619 (.inl (11, modF (px_up V1 32 (nI (B (p + 1))))))) 647 (.inr (1, 240, .inl g'))).2[619]? = some (.inl (11, modF (px_up V1 32 (nI (B (p + 1)))))) := by rw [wr_at, if_neg (by decide)]; exact d6
    have f47 : (px_wr (px_wr h1 619 (.inl (11, modF (px_up V1 32 (nI (B (p + 1))))))) 647 (.inr (1, 240, .inl g'))).2[647]? = some (.inr (1, 240, .inl g')) := by rw [wr_at, if_pos rfl, if_pos (by rw [px_wr_len]; exact L7)]
    have f36 : (px_wr (px_wr h1 619 (.inl (11, modF (px_up V1 32 (nI (B (p + 1))))))) 647 (.inr (1, 240, .inl g'))).2[636]? = some (.inr (1, 40100, .inl row)) := by rw [wr_at, if_neg (by decide)]; exact dr
    have ff : frm mEL h (px_wr (px_wr h1 619 (.inl (11, modF (px_up V1 32 (nI (B (p + 1))))))) 647 (.inr (1, 240, .inl g'))) := frm_wr (frm_wr fr (.inl (.inr rfl))) (.inr rfl)
    have fs : shape h → shape (px_wr (px_wr h1 619 (.inl (11, modF (px_up V1 32 (nI (B (p + 1))))))) 647 (.inr (1, 240, .inl g'))) := fun s => shape_ia (shape_int (k := 32) (sh s) b6 rfl) dg
    have fw : mtE (px_wr (px_wr h1 619 (.inl (11, modF (px_up V1 32 (nI (B (p + 1))))))) 647 (.inr (1, 240, .inl g'))) (fun i => i < t.1) t.2 := mtE_frm w (fun r hr => by unfold mEA at hr; rw [wr_at, if_neg (by omega), wr_at, if_neg (by omega)])
    generalize px_wr (px_wr h1 619 (.inl (11, modF (px_up V1 32 (nI (B (p + 1))))))) 647 (.inr (1, 240, .inl g')) = h3 at f6 f47 f36 ff fs fw ⊢
    have ia : px_in (nI (p + 2 + B (p + 1))) 40100 = true := px_inb (by omega) (by decide)
    have ca : (nI (p + 2 + B (p + 1))).toNatClampNeg = p + 2 + B (p + 1) := nI_clamp (by omega)
    have ib : px_in (nI (p + 2 + B (p + 1) + 1)) 40100 = true := px_inb (by omega) (by decide)
    have cb : (nI (p + 2 + B (p + 1) + 1)).toNatClampNeg = p + 2 + B (p + 1) + 1 := nI_clamp (by omega)
    obtain ⟨ra, ba⟩ := hB (p + 2 + B (p + 1)) (by omega)
    obtain ⟨rb, bb⟩ := hB (p + 2 + B (p + 1) + 1) (by omega)
    have em : B (p + 2 + B (p + 1)) + 256 * B (p + 2 + B (p + 1) + 1) = itM B p := rfl
    have ex : p + 2 + B (p + 1) + 2 + itM B p = itX B p := by unfold itX; omega
    have v32 : px_up V1 32 (nI (B (p + 1))) 32 = nI (B (p + 1)) := up_same _ _ _
    have hc3 : px_cls h3 619 = some 11 := by unfold px_cls; rw [f6]
    simp only [pc176_97, pc176_98, pc176_99, pc176_100, pc176_100n, pc176_101, pc176_104, pc176_105, pc176_106, pc176_106n, pc176_107, pc176_110, pc176_111, pc176_112, pc176_115, pc176_115n, pc176_116, pc176_119, pc176_120, pc176_121, pc176_122, pc176_123, pc176_124, pc176_125, pc176_126, pc176_126n, pc176_127, pc176_128, pc176_129, pc176_130, pc176_131, pc176_132, px_op_some, px_kv_ap, px_ki_ap, px_kl_ap, px_kn_ap, px_kh_ap, px_op_none, px_K_some, px_K_none, px_K_thr, px_kill, ↓reduceIte, if_true, if_false, true_and, and_true, yr_0, yr_1, tr_0, tr_1, tr_2, tr_3, px_rf, of_2, of_4, in_02, in_12, in_04, in_14, in_24, in_34, Nat.reduceLeDiff, in_01, lgc_self, Int32.reduceToNatClampNeg, wr_at, al_at, px_wr_len, px_al_len, px_wr_1, px_al_1, tg_0, tg_1, tg_2, tg_3, tg_12, tg_15, tg_17, tg_18, tg_i1, tg_b0, tg_b3, px_fit, Nat.reduceEqDiff, Nat.reduceLT, Nat.reduceAdd, Option.some.injEq, up_at, px_wr_wr, i32_le, Int32.reduceLE, Int32.reduceLT, mf_len, nar_0, nar_1, px_KH_some, px_KH_none, px_KH_thr, List.length_cons, List.length_nil, List.getElem?_cons_zero, List.getElem?_cons_succ, List.set_cons_zero, List.set_cons_succ, ↓reduceIte, Nat.lt_irrefl, ne_0_1, ne_0_2, ne_0_3, ne_0_4, ne_0_5, ne_1_0, ne_1_2, ne_1_3, ne_1_4, ne_1_5, ne_2_0, ne_2_1, ne_2_3, ne_2_4, ne_2_5, ne_3_0, ne_3_1, ne_3_2, ne_3_4, ne_3_5, ne_4_0, ne_4_1, ne_4_2, ne_4_3, ne_4_5, ne_5_0, ne_5_1, ne_5_2, ne_5_3, ne_5_4, hd_256_12, hd_256_16, hd_257_12, hd_258_12, hd_259_12, hd_260_12, hd_261_12, hd_261_13, hd_261_16, hd_262_12, hd_262_13, hd_262_16, hd_263_12, hd_263_13, hd_264_12, hd_264_13, hd_264_14, hd_265_12, hd_265_13, hd_265_14, hd_266_12, hd_267_12, hd_267_13, hd_267_14, hd_268_12, hd_269_12, hd_269_14, hd_270_12, hd_271_12, hd_272_12, hd_273_12, hd_273_13, hd_273_15, hd_274_12, hd_274_15, hd_275_12, hd_275_15, hd_276_12, nI_p1, nI_p2, nI_p3, nI_p4, nI_p5, not_true_eq_false, not_false_eq_true, and_self, mf_0, mf_1, mf_2, mf_3, mf_4, mf_5, mf_6, mf_7, mf_8, mf_9, mf_10, mf_11, mf_12, mf_13, mf_14, mf_15, mf_16, mf_17, mf_18, mf_19, mf_20, mf_21, mf_22, mf_23, mf_24, mf_25, mf_26, mf_27, mf_28, mf_29, mf_30, mf_31, mf_32, mf_33, mf_34, mf_35, mf_36, mf_37, mf_38, mf_39, mf_40, mf_41, mf_42, mf_43, mf_44, mf_45, mf_46, mf_47, mf_48, mf_49, mf_50, mf_51, mf_52, mf_53, mf_54, mf_55, mf_56, mf_57, mf_58, mf_59, mf_60, mf_61, mfs_0, mfs_2, mfs_17, mfs_20, mfs_26, mfs_32, mfs_34, mfs_36, mfs_38, mfs_43, mfs_44, mfs_45, mfs_46, mfs_47, iy_0, iy_1, iy_2, iy_3, iy_4, iy_5, iy_6, px_gf, px_ai, f6, f36, v32, nI_add, ia, ca, ra, ib, cb, rb, mul_256, em, tg_i1, hc3, px_kill]
    refine m_apply (c := fun j => nI (B (p + 4 + B (p + 1) + j))) f6 f36 (by rw [up_ne (by decide)]; exact v20) v32 tok fw ⟨g', f47, fun j hj => by rw [hg' j hj, (hB (p + 2 + j) (by omega)).1]; unfold patF; rw [if_pos hj]⟩ ppt ok.1 ok.2.1 m1000 (by unfold itX at zx; omega) (fun _ j hj => ?_) (fun n' T' h4 V4 ap w4 g6 g20 gj fr4 sh4 => ?_)
    · rw [(hB (p + 2 + B (p + 1) + 2 + j) (by unfold itX at zx; omega)).1]
      exact congrArg (fun x => nI (B x)) (by omega)
    · simp only [px_K_none, pc176_135, pc176_136, pc176_137, pc176_138, pc176_139, pc176_140, pc176_141, px_op_some, px_kv_ap, px_ki_ap, px_kl_ap, px_kn_ap, px_kh_ap, px_op_none, px_K_some, px_K_none, px_K_thr, px_kill, ↓reduceIte, if_true, if_false, true_and, and_true, yr_0, yr_1, tr_0, tr_1, tr_2, tr_3, px_rf, of_2, of_4, in_02, in_12, in_04, in_14, in_24, in_34, Nat.reduceLeDiff, in_01, lgc_self, Int32.reduceToNatClampNeg, wr_at, al_at, px_wr_len, px_al_len, px_wr_1, px_al_1, tg_0, tg_1, tg_2, tg_3, tg_12, tg_15, tg_17, tg_18, tg_i1, tg_b0, tg_b3, px_fit, Nat.reduceEqDiff, Nat.reduceLT, Nat.reduceAdd, Option.some.injEq, up_at, px_wr_wr, i32_le, Int32.reduceLE, Int32.reduceLT, mf_len, nar_0, nar_1, px_KH_some, px_KH_none, px_KH_thr, List.length_cons, List.length_nil, List.getElem?_cons_zero, List.getElem?_cons_succ, List.set_cons_zero, List.set_cons_succ, ↓reduceIte, Nat.lt_irrefl, ne_0_1, ne_0_2, ne_0_3, ne_0_4, ne_0_5, ne_1_0, ne_1_2, ne_1_3, ne_1_4, ne_1_5, ne_2_0, ne_2_1, ne_2_3, ne_2_4, ne_2_5, ne_3_0, ne_3_1, ne_3_2, ne_3_4, ne_3_5, ne_4_0, ne_4_1, ne_4_2, ne_4_3, ne_4_5, ne_5_0, ne_5_1, ne_5_2, ne_5_3, ne_5_4, hd_256_12, hd_256_16, hd_257_12, hd_258_12, hd_259_12, hd_260_12, hd_261_12, hd_261_13, hd_261_16, hd_262_12, hd_262_13, hd_262_16, hd_263_12, hd_263_13, hd_264_12, hd_264_13, hd_264_14, hd_265_12, hd_265_13, hd_265_14, hd_266_12, hd_267_12, hd_267_13, hd_267_14, hd_268_12, hd_269_12, hd_269_14, hd_270_12, hd_271_12, hd_272_12, hd_273_12, hd_273_13, hd_273_15, hd_274_12, hd_274_15, hd_275_12, hd_275_15, hd_276_12, nI_p1, nI_p2, nI_p3, nI_p4, nI_p5, not_true_eq_false, not_false_eq_true, and_self, mf_0, mf_1, mf_2, mf_3, mf_4, mf_5, mf_6, mf_7, mf_8, mf_9, mf_10, mf_11, mf_12, mf_13, mf_14, mf_15, mf_16, mf_17, mf_18, mf_19, mf_20, mf_21, mf_22, mf_23, mf_24, mf_25, mf_26, mf_27, mf_28, mf_29, mf_30, mf_31, mf_32, mf_33, mf_34, mf_35, mf_36, mf_37, mf_38, mf_39, mf_40, mf_41, mf_42, mf_43, mf_44, mf_45, mf_46, mf_47, mf_48, mf_49, mf_50, mf_51, mf_52, mf_53, mf_54, mf_55, mf_56, mf_57, mf_58, mf_59, mf_60, mf_61, mfs_0, mfs_2, mfs_17, mfs_20, mfs_26, mfs_32, mfs_34, mfs_36, mfs_38, mfs_43, mfs_44, mfs_45, mfs_46, mfs_47, iy_0, iy_1, iy_2, iy_3, iy_4, iy_5, iy_6, nI_add, ex, px_kill]
      have ia' : itA B p t (n', T') := ap
      refine hQ (n', T') h4 _ _ ia' ⟨V4, g6, g20, fun j a b => ?_, w4, itA_ok ok tok ia', ⟨g', (fr4.2.2 647 (by unfold mEB mEA; omega)).trans f47⟩, frm_trans ff (frm_mono fr4 (fun r z => .inl z)), fun s => sh4 (fs s)⟩
      rw [gj j a, up_ne b]; exact vj j a b) (B (p + 1)) 0 (by omega) g (fun j hj => absurd hj (Nat.not_lt_zero j))
  rw [e0] at go
  exact go
set_option maxRecDepth 16384 in
theorem m_al_l2 {N : Nat} {t : Nat × (Nat → aE)} (hr : h.2[636]? = some (.inr (1, 40100, .inl row))) (hv : V 17 = nI L) (hL : L ≤ 40000) (hB : ∀ j, j < L → row j = nI (B j) ∧ B j < 256) (il : isL B L N)
    (hQ : ∀ t' h2, lyA B L t t' → alS h h2 V t' → Q (.inl none) h2) :
    ∀ d i, i + d = N → ∀ h1 (ts : Nat → Nat × (Nat → aE)) l2 l3, ts 0 = t → (∀ j, j < i → itA B (itP B j) (ts j) (ts (j + 1))) → alS h h1 V (ts i) → px_Wp sx 176 38 [some (.ref 619), some (.int (nI (itP B i))), l2, l3] [] h1 Q := by
  intro d
  induction d with
  | zero =>
    intro i hi h1 ts l2 l3 e0 e1 a
    have hi : i = N := by omega
    subst hi
    have a' := a
    obtain ⟨V1, b6, v20, vj, -⟩ := a'
    have v17 : V1 17 = nI L := (vj 17 (by decide) (by decide)).trans hv
    rw [il.2]
    simp only [pc176_38, pc176_39, pc176_39n, pc176_40, pc176_43, pc176_144, px_op_some, px_kv_ap, px_ki_ap, px_kl_ap, px_kn_ap, px_kh_ap, px_op_none, px_K_some, px_K_none, px_K_thr, px_kill, ↓reduceIte, if_true, if_false, true_and, and_true, px_gf, b6, mf_17, v17, if_pos (Int32.le_refl _)]
    exact hQ _ h1 (.inr ⟨i, ts, il, e0, rfl, e1⟩) a
  | succ d ih =>
    intro i hi h1 ts l2 l3 e0 e1 a
    refine m_al_step hr hv hL hB (il.1 i (by omega)) a (fun t' h2 l2 l3 hi' a' => ?_)
    refine ih (i + 1) (by omega) h2 (px_up ts (i + 1) t') l2 l3 (by rw [up_ne (by omega)]; exact e0) (fun j hj => ?_) (by rw [up_same]; exact a')
    by_cases x : j = i
    · subst x; rw [up_same, up_ne (by omega)]; exact hi'
    · rw [up_ne (by omega), up_ne (by omega)]; exact e1 j (by omega)
set_option maxRecDepth 16384 in
theorem m_applyLayer {t : Nat × (Nat → aE)} (h6 : h.2[619]? = some (.inl (11, modF V))) (hr : h.2[636]? = some (.inr (1, 40100, .inl row))) (hv : V 17 = nI L) (hL : L ≤ 40000) (hB : ∀ j, j < L → row j = nI (B j) ∧ B j < 256) (hv20 : V 20 = nI t.1) (w : mtE h (fun i => i < t.1) t.2) (ok : tOK t.1 t.2) (hg : ∃ g, h.2[647]? = some (.inr (1, 240, .inl g)))
    (hQ : ∀ t' h2, lyA B L t t' → alS h h2 V t' → Q (.inl none) h2) :
    px_Wp sx 176 0 [some (.ref 619), none, none, none] [] h Q := by
  have a0 : alS h h V t := ⟨V, h6, hv20, fun _ _ _ => rfl, w, ok, hg, frm_refl _ _, fun s => s⟩
  simp only [pc176_0, pc176_1, px_kill]
  refine m_al_l1 h6 hr hv hL hB (fun N il => ?_) (fun N nl => hQ t h (.inl ⟨N, nl, rfl⟩) a0) L 0 (Nat.le_add_left _ _) (Nat.zero_le _) (fun j hj => absurd hj (Nat.not_lt_zero j))
  simp only [pc176_36, pc176_37, px_kill]
  exact m_al_l2 (t := t) hr hv hL hB il hQ N 0 (by omega) h (fun _ => t) none none rfl (fun j hj => absurd hj (Nat.not_lt_zero j)) a0
end MLAY
