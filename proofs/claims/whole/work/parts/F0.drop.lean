/-! COLLECT, the reference's: blobs moved -/
section DROP2
variable {sx : Nat × (Nat → Int32)} {h : px_H} {q : Nat} {S : yS} {V : Nat → Int32} {mk : Nat → Bool} {Q : px_O → px_H → Prop}
/-- the first k blobs are done -/
def dbS (h h1 : px_H) (q : Nat) (S : yS) (V : Nat → Int32) (mk : Nat → Bool) (k : Nat) : Prop :=
  frm (fun r => mtA r ∨ r = 635 ∨ 622 ≤ r ∧ r ≤ 625) h h1 ∧ shape h1 ∧ (∃ V1, h1.2[619]? = some (.inl (11, modF V1)) ∧ vIm V V1) ∧ (∃ nds, h1.2[635]? = some (.inr (3, 61, .inl nds)) ∧ ∀ j, j < yB S → nds j = if mk j = true then 1 else 0) ∧
  ∃ D fr sz bt, h1.2[622]? = some (.inr (2, 122, .inr (.inl D))) ∧ h1.2[623]? = some (.inr (1, 122, .inl fr)) ∧ h1.2[624]? = some (.inr (1, 122, .inl sz)) ∧ h1.2[625]? = some (.inr (1, 80000, .inl bt)) ∧
  (∀ j, j < yB (bsS S mk k) → D (61 * q + j) = yD (bsS S mk k) j ∧ fr (61 * q + j) = nI (sumY (yL (bsS S mk k)) j) ∧ sz (61 * q + j) = nI (yL (bsS S mk k) j) ∧ ∀ m, m < yL (bsS S mk k) j → bt (40000 * q + sumY (yL (bsS S mk k)) j + m) = blB (bsS S mk k) j m) ∧
  (∀ k', k ≤ k' → k' < yB S → D (61 * q + k') = yD S k' ∧ fr (61 * q + k') = nI (sumY (yL S) k') ∧ sz (61 * q + k') = nI (yL S k') ∧ ∀ m, m < yL S k' → bt (40000 * q + sumY (yL S) k' + m) = blB S k' m) ∧
  (∀ i, i < 61 * q ∨ 61 * q + 61 ≤ i → D i = lA h 622 i ∧ fr i = iA h 623 i ∧ sz i = iA h 624 i) ∧ ∀ i, i < 40000 * q ∨ 40000 * q + 40000 ≤ i → bt i = iA h 625 i
set_option maxRecDepth 16384 in
theorem m_db2_l (hq : q < 2) (g : goodC S) (bk : blk S) (hc : cst S ≤ yR S)
    (hQ : ∀ h1 a b c, dbS h h1 q S V mk (yB S) → px_Wp sx 243 212 [some (.ref 619), some (.int (nI q)), some (.int (nI (yB (bsS S mk (yB S))))), some (.int (nI (yB S))), some (.int (nI (sumY (yL (bsS S mk (yB S))) (yB (bsS S mk (yB S)))))), some (.int (nI (yB S))), a, b, c] [] h1 Q) :
    ∀ n k, k + n = yB S → ∀ h1 (a b c : Option Value), dbS h h1 q S V mk k → px_Wp sx 243 54 [some (.ref 619), some (.int (nI q)), some (.int (nI (yB (bsS S mk k)))), some (.int (nI (yB S))), some (.int (nI (sumY (yL (bsS S mk k)) (yB (bsS S mk k))))), some (.int (nI k)), a, b, c] [] h1 Q := by
  have hB := g.1.2.2.1
  have h4 := g.1.1
  intro n
  induction n with
  | zero =>
    intro k hk h1 a b c w
    have hk : k = yB S := by omega
    subst hk
    simp only [pc243_54, pc243_56, pc243_57, if_pos (Int32.le_refl _)]
    exact hQ h1 a b c w
  | succ n ih =>
    intro k hk h1 a b c w
    have w' := w
    obtain ⟨frm1, sh, ⟨V1, h6, vi⟩, ⟨nds, n1, n2⟩, D, fr, sz, bt, z2, z3, z4, z5, o1, o2, o3, o4⟩ := w
    obtain ⟨a1, a2, a3, a4, a5, a6, a7, a8, a9⟩ := bs_all (mk := mk) g bk hc k (by omega)
    obtain ⟨p1, p2, p3⟩ := bs_pos (S := S) (mk := mk) k
    have ge : ¬ nI (yB S) ≤ nI k := nI_ge (by omega) (by omega)
    have i61 : px_in (nI k) 61 = true := px_inb (by omega) (by decide)
    have c61 : (nI k).toNatClampNeg = k := nI_clamp (by omega)
    have nk := n2 k (by omega)
    rw [pc243_54]
    by_cases e : mk k = true
    · rw [if_pos e] at nk
      have i22 : px_in (nI (61 * q + k)) 122 = true := px_inb (by omega) (by decide)
      have c22 : (nI (61 * q + k)).toNatClampNeg = 61 * q + k := nI_clamp (by omega)
      obtain ⟨y1, y2, y3, y4⟩ := o2 k (Nat.le_refl _) (by omega)
      have sle := sumY_le (L := yL S) (j := k) (n := yB S) (by omega)
      have sL := sumL_Y (L := yL S) (yB S)
      have hcs : sumL (yL S) (yB S) ≤ cst S := by unfold cst; omega
      have n1' : ∀ x : Int32, px_nar 1 x = x := fun _ => rfl
      simp only [pc243_56, pc243_57, pc243_60, pc243_60n, pc243_61, pc243_64, pc243_66, pc243_67, pc243_70, pc243_73, pc243_73n, pc243_74, pc243_77, pc243_79, pc243_80, pc243_81, pc243_83, pc243_84, pc243_85, pc243_87, pc243_87n, pc243_88, pc243_91, pc243_93, pc243_94, pc243_95, pc243_97, pc243_98, pc243_99, pc243_101, pc243_102, px_op_some, px_kv_ap, px_ki_ap, px_kl_ap, px_kn_ap, px_kh_ap, px_op_none, px_K_some, px_K_none, px_K_thr, px_kill, ↓reduceIte, if_true, if_false, true_and, and_true, px_gf, px_ai, yr_0, yr_1, tr_0, tr_1, tr_2, tr_3, px_rf, of_2, of_4, in_02, in_12, in_04, in_14, in_24, in_34, Nat.reduceLeDiff, in_01, lgc_self, Int32.reduceToNatClampNeg, wr_at, al_at, px_wr_len, px_al_len, px_wr_1, px_al_1, tg_0, tg_1, tg_2, tg_3, tg_12, tg_15, tg_17, tg_18, tg_i1, tg_b0, tg_b3, px_fit, Nat.reduceEqDiff, Nat.reduceLT, Nat.reduceAdd, Option.some.injEq, up_at, px_wr_wr, i32_le, Int32.reduceLE, Int32.reduceLT, mf_len, nar_0, nar_1, px_KH_some, px_KH_none, px_KH_thr, List.length_cons, List.length_nil, List.getElem?_cons_zero, List.getElem?_cons_succ, List.set_cons_zero, List.set_cons_succ, ↓reduceIte, Nat.lt_irrefl, ne_0_1, ne_0_2, ne_0_3, ne_0_4, ne_0_5, ne_1_0, ne_1_2, ne_1_3, ne_1_4, ne_1_5, ne_2_0, ne_2_1, ne_2_3, ne_2_4, ne_2_5, ne_3_0, ne_3_1, ne_3_2, ne_3_4, ne_3_5, ne_4_0, ne_4_1, ne_4_2, ne_4_3, ne_4_5, ne_5_0, ne_5_1, ne_5_2, ne_5_3, ne_5_4, hd_256_12, hd_256_16, hd_257_12, hd_258_12, hd_259_12, hd_260_12, hd_261_12, hd_261_13, hd_261_16, hd_262_12, hd_262_13, hd_262_16, hd_263_12, hd_263_13, hd_264_12, hd_264_13, hd_264_14, hd_265_12, hd_265_13, hd_265_14, hd_266_12, hd_267_12, hd_267_13, hd_267_14, hd_268_12, hd_269_12, hd_269_14, hd_270_12, hd_271_12, hd_272_12, hd_273_12, hd_273_13, hd_273_15, hd_274_12, hd_274_15, hd_275_12, hd_275_15, hd_276_12, nI_p1, nI_p2, nI_p3, nI_p4, nI_p5, not_true_eq_false, not_false_eq_true, and_self, mf_0, mf_1, mf_2, mf_3, mf_4, mf_5, mf_6, mf_7, mf_8, mf_9, mf_10, mf_11, mf_12, mf_13, mf_14, mf_15, mf_16, mf_17, mf_18, mf_19, mf_20, mf_21, mf_22, mf_23, mf_24, mf_25, mf_26, mf_27, mf_28, mf_29, mf_30, mf_31, mf_32, mf_33, mf_34, mf_35, mf_36, mf_37, mf_38, mf_39, mf_40, mf_41, mf_42, mf_43, mf_44, mf_45, mf_46, mf_47, mf_48, mf_49, mf_50, mf_51, mf_52, mf_53, mf_54, mf_55, mf_56, mf_57, mf_58, mf_59, mf_60, mf_61, mfs_0, mfs_2, mfs_17, mfs_20, mfs_26, mfs_32, mfs_34, mfs_36, mfs_38, mfs_43, mfs_44, mfs_45, mfs_46, mfs_47, iy_0, iy_1, iy_2, iy_3, iy_4, iy_5, iy_6, h6, mf_5, mf_6, mf_18, n1, z3, z4, ge, i61, c61, nk, mul_61 hq, nI_add, i22, c22, y2, y3, tg_b3, tg_i1, px_kill]
      have ib : px_in (nI (61 * q + yB (bsS S mk k))) 122 = true := px_inb (by omega) (by decide)
      have cb : (nI (61 * q + yB (bsS S mk k))).toNatClampNeg = 61 * q + yB (bsS S mk k) := nI_clamp (by omega)
      have hl := sh.1
      have en := bs_yes (S := S) (mk := mk) e
      have gk := g.2.2.1 k (by omega)
      have nB : yB (bsS S mk (k + 1)) = yB (bsS S mk k) + 1 := by rw [en]; rfl
      have nD : ∀ j, yD (bsS S mk (k + 1)) j = px_up (yD (bsS S mk k)) (yB (bsS S mk k)) (yD S k) j := fun j => by rw [en, gk.2]; rfl
      have nL : yL (bsS S mk (k + 1)) = px_up (yL (bsS S mk k)) (yB (bsS S mk k)) (yL S k) := by rw [en]; rfl
      have mB := moreB_keep (S := bsS S mk k) (bb := blB S k) (c := yL S k) (rch_good a1).1
      have nbl : ∀ m, m < yL S k → blB (bsS S mk (k + 1)) (yB (bsS S mk k)) m = blB S k m := fun m hm => by
        rw [en]
        show (addJ (bsS S mk k) (6 + yL S k) (recB 1 (yL S k) (blB S k))).2.1 (px_up (yP (bsS S mk k)) (yB (bsS S mk k)) (yR (bsS S mk k) + 5) (yB (bsS S mk k)) + m) = _
        rw [up_same, Nat.add_assoc, addJ_new (Nat.le_add_right _ _), Nat.add_sub_cancel_left, rec_d hm]
      have cp := m_cp_l (sx := sx) (q := q) (V := V1) (h := h1) (bt := bt) (to := sumY (yL (bsS S mk k)) (yB (bsS S mk k))) (fm := sumY (yL S) k) (n := yL S k) (l2 := nI (yB (bsS S mk k))) (l3 := nI (yB S)) (l5 := nI k) (Q := Q) hq (by omega) h6 p3 (by omega) (fun bt' u1 u2 => ?_) (yL S k) 0 (by omega) bt (fun m hm => absurd hm (Nat.not_lt_zero m)) (fun _ _ => rfl)
      · rw [wr_id z5] at cp
        exact cp
      have t6 : (px_wr h1 625 (.inr (1, 80000, .inl bt'))).2[619]? = some (.inl (11, modF V1)) := by rw [wr_at, if_neg (by decide)]; exact h6
      have t2 : (px_wr h1 625 (.inr (1, 80000, .inl bt'))).2[622]? = some (.inr (2, 122, .inr (.inl D))) := by rw [wr_at, if_neg (by decide)]; exact z2
      have t3 : (px_wr h1 625 (.inr (1, 80000, .inl bt'))).2[623]? = some (.inr (1, 122, .inl fr)) := by rw [wr_at, if_neg (by decide)]; exact z3
      have t4 : (px_wr h1 625 (.inr (1, 80000, .inl bt'))).2[624]? = some (.inr (1, 122, .inl sz)) := by rw [wr_at, if_neg (by decide)]; exact z4
      have t5 : (px_wr h1 625 (.inr (1, 80000, .inl bt'))).2[625]? = some (.inr (1, 80000, .inl bt')) := by rw [wr_at, if_pos rfl, if_pos (by omega)]
      have s5 : shape (px_wr h1 625 (.inr (1, 80000, .inl bt'))) := shape_ia sh z5
      have f5 : frm (fun r => mtA r ∨ r = 635 ∨ 622 ≤ r ∧ r ≤ 625) h (px_wr h1 625 (.inr (1, 80000, .inl bt'))) := frm_wr frm1 (.inr (.inr (by omega)))
      have t35 : (px_wr h1 625 (.inr (1, 80000, .inl bt'))).2[635]? = some (.inr (3, 61, .inl nds)) := by rw [wr_at, if_neg (by decide)]; exact n1
      generalize px_wr h1 625 (.inr (1, 80000, .inl bt')) = h2 at *
      simp only [pc243_147, pc243_147n, pc243_148, pc243_151, pc243_153, pc243_154, pc243_155, pc243_156, pc243_157, pc243_157n, pc243_158, pc243_161, pc243_163, pc243_164, pc243_165, pc243_167, pc243_168, pc243_169, pc243_170, pc243_170n, pc243_171, pc243_174, pc243_176, pc243_177, pc243_178, pc243_179, pc243_180, pc243_182, pc243_183, pc243_183n, pc243_184, pc243_187, pc243_189, pc243_190, pc243_191, pc243_192, pc243_193, pc243_195, pc243_196, pc243_198, pc243_200, pc243_201, pc243_203, pc243_206, pc243_209, px_op_some, px_kv_ap, px_ki_ap, px_kl_ap, px_kn_ap, px_kh_ap, px_op_none, px_K_some, px_K_none, px_K_thr, px_kill, ↓reduceIte, if_true, if_false, true_and, and_true, px_gf, px_pf, px_ai, px_aj, px_aa, px_wi, px_wj, px_wa, px_an, px_cls, yr_0, yr_1, tr_0, tr_1, tr_2, tr_3, px_rf, of_2, of_4, in_02, in_12, in_04, in_14, in_24, in_34, Nat.reduceLeDiff, in_01, lgc_self, Int32.reduceToNatClampNeg, wr_at, al_at, px_wr_len, px_al_len, px_wr_1, px_al_1, tg_0, tg_1, tg_2, tg_3, tg_12, tg_15, tg_17, tg_18, tg_i1, tg_b0, tg_b3, px_fit, Nat.reduceEqDiff, Nat.reduceLT, Nat.reduceAdd, Option.some.injEq, up_at, px_wr_wr, i32_le, Int32.reduceLE, Int32.reduceLT, mf_len, nar_0, nar_1, px_KH_some, px_KH_none, px_KH_thr, List.length_cons, List.length_nil, List.getElem?_cons_zero, List.getElem?_cons_succ, List.set_cons_zero, List.set_cons_succ, ↓reduceIte, Nat.lt_irrefl, ne_0_1, ne_0_2, ne_0_3, ne_0_4, ne_0_5, ne_1_0, ne_1_2, ne_1_3, ne_1_4, ne_1_5, ne_2_0, ne_2_1, ne_2_3, ne_2_4, ne_2_5, ne_3_0, ne_3_1, ne_3_2, ne_3_4, ne_3_5, ne_4_0, ne_4_1, ne_4_2, ne_4_3, ne_4_5, ne_5_0, ne_5_1, ne_5_2, ne_5_3, ne_5_4, hd_256_12, hd_256_16, hd_257_12, hd_258_12, hd_259_12, hd_260_12, hd_261_12, hd_261_13, hd_261_16, hd_262_12, hd_262_13, hd_262_16, hd_263_12, hd_263_13, hd_264_12, hd_264_13, hd_264_14, hd_265_12, hd_265_13, hd_265_14, hd_266_12, hd_267_12, hd_267_13, hd_267_14, hd_268_12, hd_269_12, hd_269_14, hd_270_12, hd_271_12, hd_272_12, hd_273_12, hd_273_13, hd_273_15, hd_274_12, hd_274_15, hd_275_12, hd_275_15, hd_276_12, nI_p1, nI_p2, nI_p3, nI_p4, nI_p5, not_true_eq_false, not_false_eq_true, and_self, mf_0, mf_1, mf_2, mf_3, mf_4, mf_5, mf_6, mf_7, mf_8, mf_9, mf_10, mf_11, mf_12, mf_13, mf_14, mf_15, mf_16, mf_17, mf_18, mf_19, mf_20, mf_21, mf_22, mf_23, mf_24, mf_25, mf_26, mf_27, mf_28, mf_29, mf_30, mf_31, mf_32, mf_33, mf_34, mf_35, mf_36, mf_37, mf_38, mf_39, mf_40, mf_41, mf_42, mf_43, mf_44, mf_45, mf_46, mf_47, mf_48, mf_49, mf_50, mf_51, mf_52, mf_53, mf_54, mf_55, mf_56, mf_57, mf_58, mf_59, mf_60, mf_61, mfs_0, mfs_2, mfs_17, mfs_20, mfs_26, mfs_32, mfs_34, mfs_36, mfs_38, mfs_43, mfs_44, mfs_45, mfs_46, mfs_47, iy_0, iy_1, iy_2, iy_3, iy_4, iy_5, iy_6, t6, t2, t3, t4, mf_4, mf_5, mf_6, mul_61 hq, nI_add, i22, c22, ib, cb, y1, n1', tg_2, tg_i1, px_kill, nI_1]
      have ex := ih (k + 1) (by omega) (px_wr (px_wr (px_wr h2 622 (.inr (2, 122, .inr (.inl (px_up D (61 * q + yB (bsS S mk k)) (yD S k)))))) 623 (.inr (1, 122, .inl (px_up fr (61 * q + yB (bsS S mk k)) (nI (sumY (yL (bsS S mk k)) (yB (bsS S mk k)))))))) 624 (.inr (1, 122, .inl (px_up sz (61 * q + yB (bsS S mk k)) (nI (yL S k)))))) (some (.int (nI (sumY (yL S) k)))) (some (.int (nI (yL S k)))) (some (.int (nI (yL S k))))
      rw [nB, nL, sumY_new] at ex
      refine ex ⟨frm_wr (frm_wr (frm_wr f5 (.inr (.inr (by omega)))) (.inr (.inr (by omega)))) (.inr (.inr (by omega))), shape_ia (shape_ia (shape_la s5 t2) (r := 623) (f := fr) (by rw [wr_at, if_neg (by decide)]; exact t3)) (r := 624) (f := sz) (by rw [wr_at, if_neg (by decide), wr_at, if_neg (by decide)]; exact t4), ⟨V1, by rw [wr_at, if_neg (by decide), wr_at, if_neg (by decide), wr_at, if_neg (by decide)]; exact t6, vi⟩, ⟨nds, by rw [wr_at, if_neg (by decide), wr_at, if_neg (by decide), wr_at, if_neg (by decide)]; exact t35, n2⟩, px_up D (61 * q + yB (bsS S mk k)) (yD S k), px_up fr (61 * q + yB (bsS S mk k)) (nI (sumY (yL (bsS S mk k)) (yB (bsS S mk k)))), px_up sz (61 * q + yB (bsS S mk k)) (nI (yL S k)), bt', ?_, ?_, ?_, ?_, fun j hj => ?_, fun k' hk1 hk2 => ?_, fun i hi => ?_, fun i hi => ?_⟩
      · rw [wr_at, if_neg (by decide), wr_at, if_neg (by decide), wr_at, if_pos rfl, if_pos (List.getElem?_eq_some_iff.mp t2).1]
      · rw [wr_at, if_neg (by decide), wr_at, if_pos rfl, if_pos (by rw [px_wr_len]; exact (List.getElem?_eq_some_iff.mp t3).1)]
      · rw [wr_at, if_pos rfl, if_pos (by rw [px_wr_len, px_wr_len]; exact (List.getElem?_eq_some_iff.mp t4).1)]
      · rw [wr_at, if_neg (by decide), wr_at, if_neg (by decide), wr_at, if_neg (by decide)]; exact t5
      · have hj' : j < yB (bsS S mk k) + 1 := by rw [nB] at hj; exact hj
        rw [nD, nL]
        by_cases ej : j = yB (bsS S mk k)
        · subst ej
          simp only [up_same]
          rw [sumY_old (Nat.le_refl _)]
          refine ⟨by first | rfl | trivial, by first | rfl | trivial, by first | rfl | trivial, fun m hm => ?_⟩
          rw [nbl m hm, u1 m hm, y4 m hm]
        · obtain ⟨x1, x2, x3, x4⟩ := o1 j (by omega)
          rw [up_ne (by omega), up_ne (by omega), up_ne (by omega), up_ne (by omega), up_ne (by omega), sumY_old (by omega)]
          refine ⟨x1, x2, x3, fun m hm => ?_⟩
          have le := sumY_le (L := yL (bsS S mk k)) (j := j) (n := yB (bsS S mk k)) (by omega)
          rw [u2 _ (.inl (by omega)), x4 m hm, en]
          exact ((mB.2 j (by omega)).2.2 m hm).symm
      · obtain ⟨x1, x2, x3, x4⟩ := o2 k' (by omega) hk2
        rw [up_ne (by omega), up_ne (by omega), up_ne (by omega)]
        refine ⟨x1, x2, x3, fun m hm => ?_⟩
        have le := sumY_le (L := yL S) (j := k) (n := k') (by omega)
        rw [u2 _ (.inr (by omega))]; exact x4 m hm
      · rw [up_ne (by omega), up_ne (by omega), up_ne (by omega)]; exact o3 i hi
      · rw [u2 i (by omega)]; exact o4 i hi
    · rw [if_neg e] at nk
      simp only [pc243_56, pc243_57, pc243_60, pc243_60n, pc243_61, pc243_64, pc243_66, pc243_67, pc243_70, pc243_206, pc243_209, px_op_some, px_kv_ap, px_ki_ap, px_kl_ap, px_kn_ap, px_kh_ap, px_op_none, px_K_some, px_K_none, px_K_thr, px_kill, ↓reduceIte, if_true, if_false, true_and, and_true, px_gf, px_ai, yr_0, yr_1, tr_0, tr_1, tr_2, tr_3, px_rf, of_2, of_4, in_02, in_12, in_04, in_14, in_24, in_34, Nat.reduceLeDiff, in_01, lgc_self, Int32.reduceToNatClampNeg, wr_at, al_at, px_wr_len, px_al_len, px_wr_1, px_al_1, tg_0, tg_1, tg_2, tg_3, tg_12, tg_15, tg_17, tg_18, tg_i1, tg_b0, tg_b3, px_fit, Nat.reduceEqDiff, Nat.reduceLT, Nat.reduceAdd, Option.some.injEq, up_at, px_wr_wr, i32_le, Int32.reduceLE, Int32.reduceLT, mf_len, nar_0, nar_1, px_KH_some, px_KH_none, px_KH_thr, List.length_cons, List.length_nil, List.getElem?_cons_zero, List.getElem?_cons_succ, List.set_cons_zero, List.set_cons_succ, ↓reduceIte, Nat.lt_irrefl, ne_0_1, ne_0_2, ne_0_3, ne_0_4, ne_0_5, ne_1_0, ne_1_2, ne_1_3, ne_1_4, ne_1_5, ne_2_0, ne_2_1, ne_2_3, ne_2_4, ne_2_5, ne_3_0, ne_3_1, ne_3_2, ne_3_4, ne_3_5, ne_4_0, ne_4_1, ne_4_2, ne_4_3, ne_4_5, ne_5_0, ne_5_1, ne_5_2, ne_5_3, ne_5_4, hd_256_12, hd_256_16, hd_257_12, hd_258_12, hd_259_12, hd_260_12, hd_261_12, hd_261_13, hd_261_16, hd_262_12, hd_262_13, hd_262_16, hd_263_12, hd_263_13, hd_264_12, hd_264_13, hd_264_14, hd_265_12, hd_265_13, hd_265_14, hd_266_12, hd_267_12, hd_267_13, hd_267_14, hd_268_12, hd_269_12, hd_269_14, hd_270_12, hd_271_12, hd_272_12, hd_273_12, hd_273_13, hd_273_15, hd_274_12, hd_274_15, hd_275_12, hd_275_15, hd_276_12, nI_p1, nI_p2, nI_p3, nI_p4, nI_p5, not_true_eq_false, not_false_eq_true, and_self, mf_0, mf_1, mf_2, mf_3, mf_4, mf_5, mf_6, mf_7, mf_8, mf_9, mf_10, mf_11, mf_12, mf_13, mf_14, mf_15, mf_16, mf_17, mf_18, mf_19, mf_20, mf_21, mf_22, mf_23, mf_24, mf_25, mf_26, mf_27, mf_28, mf_29, mf_30, mf_31, mf_32, mf_33, mf_34, mf_35, mf_36, mf_37, mf_38, mf_39, mf_40, mf_41, mf_42, mf_43, mf_44, mf_45, mf_46, mf_47, mf_48, mf_49, mf_50, mf_51, mf_52, mf_53, mf_54, mf_55, mf_56, mf_57, mf_58, mf_59, mf_60, mf_61, mfs_0, mfs_2, mfs_17, mfs_20, mfs_26, mfs_32, mfs_34, mfs_36, mfs_38, mfs_43, mfs_44, mfs_45, mfs_46, mfs_47, iy_0, iy_1, iy_2, iy_3, iy_4, iy_5, iy_6, h6, mf_18, n1, ge, i61, c61, nk, tg_b3, px_kill, nI_1]
      have ex := ih (k + 1) (by omega) h1 a b c
      unfold dbS at ex
      rw [bs_no e] at ex
      exact ex ⟨frm1, sh, ⟨V1, h6, vi⟩, ⟨nds, n1, n2⟩, D, fr, sz, bt, z2, z3, z4, z5, o1, fun k' x y => o2 k' (by omega) y, o3, o4⟩
/-- the yard when blobs are dropped: the new blobs, the old keys and tags -/
def mixB (S : yS) (mk : Nat → Bool) : yS := ((yR (bsS S mk (yB S)), yJ (bsS S mk (yB S)), yC S), (bsS S mk (yB S)).2.1, S.2.2)
set_option maxRecDepth 16384 in
theorem m_dropBlobs (hS : shape h) (h6 : h.2[619]? = some (.inl (11, modF V))) (hq : q < 2) (ok : yOK S) (ry : RY h q S) (iX : ∀ t, t < 4 → invX h t) (hmk : ∀ k, k < yB S → (mk k = true ↔ nd h q S (yD S k)))
    (hQ : ∀ h', RYb h' q (mixB S mk) → othB h h' q → frm (fun r => mtA r ∨ r = 635 ∨ 621 ≤ r ∧ r ≤ 626) h h' → shape h' → (∃ V1, h'.2[619]? = some (.inl (11, modF V1)) ∧ vIm V V1) → Q (.inl (some (.int (nI (yB S) - nI (yB (bsS S mk (yB S))))))) h') :
    px_Wp sx 243 0 [some (.ref 619), some (.int (nI q)), none, none, none, none, none, none, none] [] h Q := by
  have g := yOK_good ok
  obtain ⟨bk, hc⟩ := ok_blk ok
  have iq : px_in (nI q) 2 = true := px_inb hq (by decide)
  have cq : (nI q).toNatClampNeg = q := nI_clamp (by omega)
  have ry' := ry
  obtain ⟨-, -, -, ⟨bl, b1, b2⟩, ⟨D0, e1, e2⟩, ⟨fr0, sz0, bt0, us, U, f1, f2, f3, f4, f5, f6, f7⟩, ⟨kk, g1, g2⟩, ⟨ky, h1, h2⟩, ⟨kl, i1, i2⟩, ⟨G, j1, j2⟩, T, k1, k2⟩ := ry
  simp only [pc243_0, pc243_1, pc243_2, pc243_2n, pc243_3, pc243_6, pc243_7, pc243_8, pc243_9, pc243_10, px_op_some, px_kv_ap, px_ki_ap, px_kl_ap, px_kn_ap, px_kh_ap, px_op_none, px_K_some, px_K_none, px_K_thr, px_kill, ↓reduceIte, if_true, if_false, true_and, and_true, px_gf, px_pf, px_ai, px_aj, px_aa, px_wi, px_wj, px_wa, px_an, px_cls, h6, mf_3, b1, b2, iq, cq, tg_i1, px_kill]
  refine m_db1_l (V := V) hq g ry' iX (fun hh l2 => ?_) (yB S) 0 (by omega) h ⟨frm_refl _ _, hS, ⟨V, h6, fun _ _ _ => rfl⟩, _, at_635 hS, fun j hj => absurd hj (Nat.not_lt_zero j)⟩
  obtain ⟨fr2, s2, v2, nds, n1, n2⟩ := l2
  simp only [pc243_48, pc243_49, pc243_51, pc243_52, px_kill]
  have z : ∀ {r : Nat} {x : px_C}, h.2[r]? = some x → 621 ≤ r → r ≤ 634 → hh.2[r]? = some x := fun e a b => (fr2.2.2 _ (by unfold mtA; omega)).trans e
  refine m_db2_l (h := h) (V := V) (mk := mk) hq g bk hc (fun h3 a b c w => ?_) (yB S) 0 (by omega) hh none none none ⟨frm_mono fr2 (fun r x => by rcases x with x | x; exact .inl x; exact .inr (.inl x)), s2, v2, ⟨nds, n1, fun j hj => ?_⟩, D0, fr0, sz0, bt0, z e1 (by decide) (by decide), z f1 (by decide) (by decide), z f2 (by decide) (by decide), z f3 (by decide) (by decide), fun j hj => absurd hj (Nat.not_lt_zero j), fun k' _ hk' => ?_, fun i _ => ?_, fun i _ => ?_⟩
  · obtain ⟨fr3, s3, ⟨V3, v31, v32⟩, -, D, fr, sz, bt, z2, z3, z4, z5, o1, -, o3, o4⟩ := w
    have zz : ∀ {r : Nat} {x : px_C}, h.2[r]? = some x → (r = 621 ∨ 626 ≤ r ∧ r ≤ 634) → h3.2[r]? = some x := fun e a => (fr3.2.2 _ (by unfold mtA; omega)).trans e
    have y1 := zz b1 (.inl rfl)
    have y4 := zz f4 (.inr (by omega))
    have n1' : ∀ x : Int32, px_nar 1 x = x := fun _ => rfl
    have hl := s3.1
    simp only [pc243_212, pc243_212n, pc243_213, pc243_216, pc243_217, pc243_218, pc243_219, pc243_219n, pc243_220, pc243_223, pc243_224, pc243_226, pc243_227, pc243_228, pc243_229, pc243_230, px_op_some, px_kv_ap, px_ki_ap, px_kl_ap, px_kn_ap, px_kh_ap, px_op_none, px_K_some, px_K_none, px_K_thr, px_kill, ↓reduceIte, if_true, if_false, true_and, and_true, px_gf, px_pf, px_ai, px_aj, px_aa, px_wi, px_wj, px_wa, px_an, px_cls, yr_0, yr_1, tr_0, tr_1, tr_2, tr_3, px_rf, of_2, of_4, in_02, in_12, in_04, in_14, in_24, in_34, Nat.reduceLeDiff, in_01, lgc_self, Int32.reduceToNatClampNeg, wr_at, al_at, px_wr_len, px_al_len, px_wr_1, px_al_1, tg_0, tg_1, tg_2, tg_3, tg_12, tg_15, tg_17, tg_18, tg_i1, tg_b0, tg_b3, px_fit, Nat.reduceEqDiff, Nat.reduceLT, Nat.reduceAdd, Option.some.injEq, up_at, px_wr_wr, i32_le, Int32.reduceLE, Int32.reduceLT, mf_len, nar_0, nar_1, px_KH_some, px_KH_none, px_KH_thr, List.length_cons, List.length_nil, List.getElem?_cons_zero, List.getElem?_cons_succ, List.set_cons_zero, List.set_cons_succ, ↓reduceIte, Nat.lt_irrefl, ne_0_1, ne_0_2, ne_0_3, ne_0_4, ne_0_5, ne_1_0, ne_1_2, ne_1_3, ne_1_4, ne_1_5, ne_2_0, ne_2_1, ne_2_3, ne_2_4, ne_2_5, ne_3_0, ne_3_1, ne_3_2, ne_3_4, ne_3_5, ne_4_0, ne_4_1, ne_4_2, ne_4_3, ne_4_5, ne_5_0, ne_5_1, ne_5_2, ne_5_3, ne_5_4, hd_256_12, hd_256_16, hd_257_12, hd_258_12, hd_259_12, hd_260_12, hd_261_12, hd_261_13, hd_261_16, hd_262_12, hd_262_13, hd_262_16, hd_263_12, hd_263_13, hd_264_12, hd_264_13, hd_264_14, hd_265_12, hd_265_13, hd_265_14, hd_266_12, hd_267_12, hd_267_13, hd_267_14, hd_268_12, hd_269_12, hd_269_14, hd_270_12, hd_271_12, hd_272_12, hd_273_12, hd_273_13, hd_273_15, hd_274_12, hd_274_15, hd_275_12, hd_275_15, hd_276_12, nI_p1, nI_p2, nI_p3, nI_p4, nI_p5, not_true_eq_false, not_false_eq_true, and_self, mf_0, mf_1, mf_2, mf_3, mf_4, mf_5, mf_6, mf_7, mf_8, mf_9, mf_10, mf_11, mf_12, mf_13, mf_14, mf_15, mf_16, mf_17, mf_18, mf_19, mf_20, mf_21, mf_22, mf_23, mf_24, mf_25, mf_26, mf_27, mf_28, mf_29, mf_30, mf_31, mf_32, mf_33, mf_34, mf_35, mf_36, mf_37, mf_38, mf_39, mf_40, mf_41, mf_42, mf_43, mf_44, mf_45, mf_46, mf_47, mf_48, mf_49, mf_50, mf_51, mf_52, mf_53, mf_54, mf_55, mf_56, mf_57, mf_58, mf_59, mf_60, mf_61, mfs_0, mfs_2, mfs_17, mfs_20, mfs_26, mfs_32, mfs_34, mfs_36, mfs_38, mfs_43, mfs_44, mfs_45, mfs_46, mfs_47, iy_0, iy_1, iy_2, iy_3, iy_4, iy_5, iy_6, v31, mf_3, mf_8, y1, y4, iq, cq, n1', tg_i1, px_kill]
    have hH : ∀ H, H = px_wr (px_wr h3 621 (.inr (1, 2, .inl (px_up bl q (nI (yB (bsS S mk (yB S)))))))) 626 (.inr (1, 2, .inl (px_up us q (nI (sumY (yL (bsS S mk (yB S))) (yB (bsS S mk (yB S)))))))) → Q (.inl (some (.int (nI (yB S) - nI (yB (bsS S mk (yB S))))))) H := fun H hH => by
      have w1 : H.2[621]? = some (.inr (1, 2, .inl (px_up bl q (nI (yB (bsS S mk (yB S))))))) := by rw [hH, wr_at, if_neg (by decide), wr_at, if_pos rfl, if_pos (by omega)]
      have w6 : H.2[626]? = some (.inr (1, 2, .inl (px_up us q (nI (sumY (yL (bsS S mk (yB S))) (yB (bsS S mk (yB S)))))))) := by rw [hH, wr_at, if_pos rfl, if_pos (by rw [px_wr_len]; omega)]
      have wr : ∀ {r : Nat} {x : px_C}, h3.2[r]? = some x → r ≠ 621 → r ≠ 626 → H.2[r]? = some x := fun e a b => by rw [hH, wr_at, if_neg (fun x => b x.symm), wr_at, if_neg (fun x => a x.symm)]; exact e
      have zw : ∀ {r : Nat} {x : px_C}, h.2[r]? = some x → 627 ≤ r → r ≤ 634 → H.2[r]? = some x := fun e a b => wr (zz e (.inr (by omega))) (by omega) (by omega)
      have p2 := (bs_pos (S := S) (mk := mk) (yB S)).2.1
      have sL := sumL_Y (L := yL (bsS S mk (yB S))) (yB (bsS S mk (yB S)))
      refine hQ H ⟨⟨_, w1, up_same _ _ _⟩, ⟨D, wr z2 (by decide) (by decide), fun k hk => (o1 k hk).1⟩, ⟨fr, sz, bt, _, _, wr z3 (by decide) (by decide), wr z4 (by decide) (by decide), wr z5 (by decide) (by decide), w6, up_same _ _ _, ⟨?_, rfl⟩, fun k hk => ?_⟩, ⟨kk, zw g1 (by decide) (by decide), g2⟩, ⟨ky, zw h1 (by decide) (by decide), h2⟩, ⟨kl, zw i1 (by decide) (by decide), i2⟩, ⟨G, zw j1 (by decide) (by decide), j2⟩, T, zw k1 (by decide) (by decide), k2⟩ (fun q2 S2 hq2 hne w2 c9 => ?_) ?_ ?_ ⟨V3, wr v31 (by decide) (by decide), v32⟩
      · show sumY (yL (bsS S mk (yB S))) (yB (bsS S mk (yB S))) ≤ yR (bsS S mk (yB S))
        omega
      · obtain ⟨x1, x2, x3, x4⟩ := o1 k hk
        exact ⟨x3, _, x2, ⟨sumY_le hk, rfl⟩, x4⟩
      · obtain ⟨⟨bl', d1', d2'⟩, ⟨D', e1', e2'⟩, ⟨fr', sz', by', us', U', f1', f2', f3', f4', f5', f6', f7'⟩, ⟨kk', g1', g2'⟩, ⟨ky', h1', h2'⟩, ⟨kl', i1', i2'⟩, ⟨G', j1', j2'⟩, T', k1', k2'⟩ := c9
        cases b1.symm.trans d1'
        cases e1.symm.trans e1'
        cases f1.symm.trans f1'
        cases f2.symm.trans f2'
        cases f3.symm.trans f3'
        cases f4.symm.trans f4'
        have r1 := w2.1
        have r3 := w2.2.2.1
        have lD := lA_of e1
        have lf := iA_of f1
        have ls := iA_of f2
        have lb := iA_of f3
        rw [lD, lf, ls] at o3
        rw [lb] at o4
        refine ⟨⟨_, w1, by rw [up_ne hne]; exact d2'⟩, ⟨D, wr z2 (by decide) (by decide), fun k hk => by rw [(o3 _ (by omega)).1]; exact e2' k hk⟩, ⟨fr, sz, bt, _, U', wr z3 (by decide) (by decide), wr z4 (by decide) (by decide), wr z5 (by decide) (by decide), w6, by rw [up_ne hne]; exact f5', f6', fun k hk => ?_⟩, ⟨kk', zw g1' (by decide) (by decide), g2'⟩, ⟨ky', zw h1' (by decide) (by decide), h2'⟩, ⟨kl', zw i1' (by decide) (by decide), i2'⟩, ⟨G', zw j1' (by decide) (by decide), j2'⟩, T', zw k1' (by decide) (by decide), k2'⟩
        obtain ⟨x1, u, x2, x3, x4⟩ := f7' k hk
        obtain ⟨-, y2, y3⟩ := o3 (61 * q2 + k) (by omega)
        refine ⟨by rw [y3]; exact x1, u, by rw [y2]; exact x2, x3, fun m hm => ?_⟩
        rw [o4 _ (by omega)]; exact x4 m hm
      · rw [hH]
        exact frm_wr (frm_wr (frm_mono fr3 (fun r x => by rcases x with x | x | x; exact .inl x; exact .inr (.inl x); exact .inr (.inr (by omega)))) (.inr (.inr (by omega)))) (.inr (.inr (by omega)))
      · rw [hH]
        exact shape_ia (shape_ia s3 y1) (r := 626) (f := us) (by rw [wr_at, if_neg (by decide)]; exact y4)
    exact hH _ rfl
  · rcases n2 j hj with ⟨a, b⟩ | ⟨a, b⟩
    · rw [if_pos ((hmk j hj).mpr b)]; exact a
    · rw [if_neg (fun z => b ((hmk j hj).mp z))]; exact a
  · obtain ⟨x1, u, x2, x3, x4⟩ := f7 k' hk'
    obtain ⟨x3, rfl⟩ := x3
    exact ⟨e2 k' hk', x2, x1, x4⟩
  · rw [lA_of e1, iA_of f1, iA_of f2]; exact ⟨rfl, rfl, rfl⟩
  · rw [iA_of f3]
end DROP2
