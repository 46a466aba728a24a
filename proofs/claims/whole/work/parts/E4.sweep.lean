/-! COLLECT: the class's sweep, the loops -/
section SWEEP2
variable {sx : Nat × (Nat → Int32)} {h h0 : px_H} {Y : Nat} {S : yS} {mk hd : Nat → Bool} {Q : px_O → px_H → Prop}
set_option maxRecDepth 16384 in
theorem c_swb_l {m6 : Nat → Int32} (g : goodC S) (bk : blk S) (hc : cst S ≤ yR S) (hm : h0.2[Y + 6]? = some (.inr (3, 60, .inl m6))) (hm6 : ∀ k, k < yB S → m6 k = if mk k = true then 1 else 0)
    (hQ : ∀ h', swp h0 h' Y S mk (yB S) → px_Wp sx 109 45 [some (.ref Y), some (.int (nI (yB S))), some (.int (nI (yB S))), none] [] h' Q) :
    ∀ n i, i + n = yB S → ∀ h', swp h0 h' Y S mk i → px_Wp sx 109 20 [some (.ref Y), some (.int (nI (yB S))), some (.int (nI i)), none] [] h' Q := by
  have h60 := g.1.2.2.1
  intro n
  induction n with
  | zero =>
    intro i hi h' w
    have hi : i = yB S := by omega
    subst hi
    simp only [pc109_20, pc109_21, pc109_22, if_pos (Int32.le_refl _)]
    exact hQ h' w
  | succ n ih =>
    intro i hi h' w
    have w' := w
    obtain ⟨-, b, -, -, -, r1, -⟩ := w
    have b' := b
    unfold yrdF at b'
    have m6' := (r1 (Y + 6) (by omega) (by omega)).trans hm
    have ge : ¬ nI (yB S) ≤ nI i := nI_ge (by omega) (by omega)
    have ii : px_in (nI i) 60 = true := px_inb (by omega) (by decide)
    have ci : (nI i).toNatClampNeg = i := nI_clamp (by omega)
    have mi := hm6 i (by omega)
    rw [pc109_20]
    by_cases e : mk i = true
    · rw [if_pos e] at mi
      simp only [pc109_21, pc109_22, pc109_25, pc109_25n, pc109_26, pc109_29, pc109_30, pc109_31, pc109_34, pc109_34n, pc109_35, pc109_36, px_op_some, px_kv_ap, px_ki_ap, px_kl_ap, px_kn_ap, px_kh_ap, px_op_none, px_K_some, px_K_none, px_K_thr, px_kill, ↓reduceIte, if_true, if_false, true_and, and_true, px_gf, px_pf, px_ai, px_aj, px_aa, px_wi, px_wj, px_wa, px_an, px_cls, yr_0, yr_1, tr_0, tr_1, tr_2, tr_3, px_rf, of_2, of_4, in_02, in_12, in_04, in_14, in_24, in_34, Nat.reduceLeDiff, in_01, lgc_self, Int32.reduceToNatClampNeg, wr_at, al_at, px_wr_len, px_al_len, px_wr_1, px_al_1, tg_0, tg_1, tg_2, tg_3, tg_12, tg_15, tg_17, tg_18, tg_i1, tg_b0, tg_b3, px_fit, Nat.reduceEqDiff, Nat.reduceLT, Nat.reduceAdd, Option.some.injEq, up_at, px_wr_wr, i32_le, Int32.reduceLE, Int32.reduceLT, mf_len, nar_0, nar_1, px_KH_some, px_KH_none, px_KH_thr, List.length_cons, List.length_nil, List.getElem?_cons_zero, List.getElem?_cons_succ, List.set_cons_zero, List.set_cons_succ, ↓reduceIte, Nat.lt_irrefl, ne_0_1, ne_0_2, ne_0_3, ne_0_4, ne_0_5, ne_1_0, ne_1_2, ne_1_3, ne_1_4, ne_1_5, ne_2_0, ne_2_1, ne_2_3, ne_2_4, ne_2_5, ne_3_0, ne_3_1, ne_3_2, ne_3_4, ne_3_5, ne_4_0, ne_4_1, ne_4_2, ne_4_3, ne_4_5, ne_5_0, ne_5_1, ne_5_2, ne_5_3, ne_5_4, hd_256_12, hd_256_16, hd_257_12, hd_258_12, hd_259_12, hd_260_12, hd_261_12, hd_261_13, hd_261_16, hd_262_12, hd_262_13, hd_262_16, hd_263_12, hd_263_13, hd_264_12, hd_264_13, hd_264_14, hd_265_12, hd_265_13, hd_265_14, hd_266_12, hd_267_12, hd_267_13, hd_267_14, hd_268_12, hd_269_12, hd_269_14, hd_270_12, hd_271_12, hd_272_12, hd_273_12, hd_273_13, hd_273_15, hd_274_12, hd_274_15, hd_275_12, hd_275_15, hd_276_12, nI_p1, nI_p2, nI_p3, nI_p4, nI_p5, not_true_eq_false, not_false_eq_true, and_self, mf_0, mf_1, mf_2, mf_3, mf_4, mf_5, mf_6, mf_7, mf_8, mf_9, mf_10, mf_11, mf_12, mf_13, mf_14, mf_15, mf_16, mf_17, mf_18, mf_19, mf_20, mf_21, mf_22, mf_23, mf_24, mf_25, mf_26, mf_27, mf_28, mf_29, mf_30, mf_31, mf_32, mf_33, mf_34, mf_35, mf_36, mf_37, mf_38, mf_39, mf_40, mf_41, mf_42, mf_43, mf_44, mf_45, mf_46, mf_47, mf_48, mf_49, mf_50, mf_51, mf_52, mf_53, mf_54, mf_55, mf_56, mf_57, mf_58, mf_59, mf_60, mf_61, mfs_0, mfs_2, mfs_17, mfs_20, mfs_26, mfs_32, mfs_34, mfs_36, mfs_38, mfs_43, mfs_44, mfs_45, mfs_46, mfs_47, iy_0, iy_1, iy_2, iy_3, iy_4, iy_5, iy_6, ge, ii, ci, b', m6', mi, tg_b3, px_kill]
      refine c_move g bk hc (by omega) e w' (fun h2 w2 => ?_)
      simp only [px_K_none, pc109_39, pc109_42, px_kill, nI_1]
      exact ih (i + 1) (by omega) h2 w2
    · rw [if_neg e] at mi
      simp only [pc109_21, pc109_22, pc109_25, pc109_25n, pc109_26, pc109_29, pc109_30, pc109_31, pc109_34, pc109_34n, pc109_35, pc109_36, pc109_39, pc109_42, px_op_some, px_kv_ap, px_ki_ap, px_kl_ap, px_kn_ap, px_kh_ap, px_op_none, px_K_some, px_K_none, px_K_thr, px_kill, ↓reduceIte, if_true, if_false, true_and, and_true, px_gf, px_pf, px_ai, px_aj, px_aa, px_wi, px_wj, px_wa, px_an, px_cls, yr_0, yr_1, tr_0, tr_1, tr_2, tr_3, px_rf, of_2, of_4, in_02, in_12, in_04, in_14, in_24, in_34, Nat.reduceLeDiff, in_01, lgc_self, Int32.reduceToNatClampNeg, wr_at, al_at, px_wr_len, px_al_len, px_wr_1, px_al_1, tg_0, tg_1, tg_2, tg_3, tg_12, tg_15, tg_17, tg_18, tg_i1, tg_b0, tg_b3, px_fit, Nat.reduceEqDiff, Nat.reduceLT, Nat.reduceAdd, Option.some.injEq, up_at, px_wr_wr, i32_le, Int32.reduceLE, Int32.reduceLT, mf_len, nar_0, nar_1, px_KH_some, px_KH_none, px_KH_thr, List.length_cons, List.length_nil, List.getElem?_cons_zero, List.getElem?_cons_succ, List.set_cons_zero, List.set_cons_succ, ↓reduceIte, Nat.lt_irrefl, ne_0_1, ne_0_2, ne_0_3, ne_0_4, ne_0_5, ne_1_0, ne_1_2, ne_1_3, ne_1_4, ne_1_5, ne_2_0, ne_2_1, ne_2_3, ne_2_4, ne_2_5, ne_3_0, ne_3_1, ne_3_2, ne_3_4, ne_3_5, ne_4_0, ne_4_1, ne_4_2, ne_4_3, ne_4_5, ne_5_0, ne_5_1, ne_5_2, ne_5_3, ne_5_4, hd_256_12, hd_256_16, hd_257_12, hd_258_12, hd_259_12, hd_260_12, hd_261_12, hd_261_13, hd_261_16, hd_262_12, hd_262_13, hd_262_16, hd_263_12, hd_263_13, hd_264_12, hd_264_13, hd_264_14, hd_265_12, hd_265_13, hd_265_14, hd_266_12, hd_267_12, hd_267_13, hd_267_14, hd_268_12, hd_269_12, hd_269_14, hd_270_12, hd_271_12, hd_272_12, hd_273_12, hd_273_13, hd_273_15, hd_274_12, hd_274_15, hd_275_12, hd_275_15, hd_276_12, nI_p1, nI_p2, nI_p3, nI_p4, nI_p5, not_true_eq_false, not_false_eq_true, and_self, mf_0, mf_1, mf_2, mf_3, mf_4, mf_5, mf_6, mf_7, mf_8, mf_9, mf_10, mf_11, mf_12, mf_13, mf_14, mf_15, mf_16, mf_17, mf_18, mf_19, mf_20, mf_21, mf_22, mf_23, mf_24, mf_25, mf_26, mf_27, mf_28, mf_29, mf_30, mf_31, mf_32, mf_33, mf_34, mf_35, mf_36, mf_37, mf_38, mf_39, mf_40, mf_41, mf_42, mf_43, mf_44, mf_45, mf_46, mf_47, mf_48, mf_49, mf_50, mf_51, mf_52, mf_53, mf_54, mf_55, mf_56, mf_57, mf_58, mf_59, mf_60, mf_61, mfs_0, mfs_2, mfs_17, mfs_20, mfs_26, mfs_32, mfs_34, mfs_36, mfs_38, mfs_43, mfs_44, mfs_45, mfs_46, mfs_47, iy_0, iy_1, iy_2, iy_3, iy_4, iy_5, iy_6, ge, ii, ci, b', m6', mi, tg_b3, px_kill, nI_1]
      refine ih (i + 1) (by omega) h' ?_
      unfold swp at *
      rw [bs_no e]
      obtain ⟨⟨f, f1, f2, f3⟩, b, ⟨D, d1, d2, d3⟩, ⟨st, s1, s2, s3⟩, ⟨ln, l1, l2, l3⟩, r⟩ := w'
      exact ⟨⟨f, f1, f2, fun k x => f3 k (by omega)⟩, b, ⟨D, d1, d2, fun k x => d3 k (by omega)⟩, ⟨st, s1, s2, fun k x => s3 k (by omega)⟩, ⟨ln, l1, l2, fun k x => l3 k (by omega)⟩, r⟩
/-- the state while tags are written: the new journal and blobs, the old keys and tags -/
def mixT (S : yS) (mk : Nat → Bool) (t : Nat) : yS := ((yR (tsS S mk t), yJ (tsS S mk t), yC S), (bsS S mk (yB S)).2.1, S.2.2)
set_option maxRecDepth 16384 in
theorem swp_mix (cy : CY h0 Y S) (w : swp h0 h Y S mk (yB S)) : CY h Y (mixT S mk 0) := by
  obtain ⟨-, -, -, -, -, ⟨m0, f1⟩, ⟨ky, g1, g2⟩, ⟨kl, h1, h2⟩, ⟨G, i1, i2⟩, T, j1, j2⟩ := cy
  obtain ⟨⟨f, a1, a2, -⟩, b, ⟨D, d1, d2, -⟩, ⟨st, s1, s2, -⟩, ⟨ln, l1, l2, -⟩, r1, r2, r3⟩ := w
  exact ⟨⟨f, a1, a2⟩, b, ⟨D, d1, d2⟩, ⟨st, s1, s2⟩, ⟨ln, l1, l2⟩, ⟨m0, (r1 _ (by omega) (by omega)).trans f1⟩, ⟨ky, (r1 _ (by omega) (by omega)).trans g1, g2⟩, ⟨kl, (r1 _ (by omega) (by omega)).trans h1, h2⟩, ⟨G, (r1 _ (by omega) (by omega)).trans i1, i2⟩, T, (r1 _ (by omega) (by omega)).trans j1, j2⟩
set_option maxRecDepth 16384 in
theorem c_swt_l {l1 : Int32} (g : goodC S) (bk : blk S) (hc : cst S ≤ yR S) (hm : mkOK S mk)
    (hQ : ∀ h', CY h' Y (mixT S mk 8) → frm (cyA Y) h h' → (shape h → shape h') → px_Wp sx 109 80 [some (.ref Y), some (.int l1), some (.int 8), none] [] h' Q) :
    ∀ n t, t + n = 8 → ∀ h', CY h' Y (mixT S mk t) → frm (cyA Y) h h' → (shape h → shape h') → px_Wp sx 109 47 [some (.ref Y), some (.int l1), some (.int (nI t)), none] [] h' Q := by
  intro n
  induction n with
  | zero =>
    intro t ht h' c fr sh
    have ht : t = 8 := by omega
    subst ht
    simp only [pc109_47, pc109_48, pc109_50, show nI 8 = 8 from rfl, if_pos (Int32.le_refl _)]
    exact hQ h' c fr sh
  | succ n ih =>
    intro t ht h' c fr sh
    have c' := c
    obtain ⟨⟨f, a1, a2⟩, b, -, -, -, -, -, -, ⟨G, i1, i2⟩, T, j1, j2⟩ := c
    have b' := b
    unfold yrdF at b'
    have ge : ¬ (8 : Int32) ≤ nI t := nI_ge (b := 8) (by omega) (by decide)
    have ii : px_in (nI t) 8 = true := px_inb (by omega) (by decide)
    have ci : (nI t).toNatClampNeg = t := nI_clamp (by omega)
    have jt : T t = if yT S t = true then 1 else 0 := j2 t (by omega)
    rw [pc109_47]
    by_cases e : yT S t = true
    · rw [if_pos e] at jt
      have gt : G t = yG S t := i2 t (by omega) e
      simp only [pc109_48, pc109_50, pc109_53, pc109_53n, pc109_54, pc109_57, pc109_58, pc109_59, pc109_62, pc109_62n, pc109_63, pc109_64, pc109_64n, pc109_65, pc109_68, pc109_69, pc109_70, px_op_some, px_kv_ap, px_ki_ap, px_kl_ap, px_kn_ap, px_kh_ap, px_op_none, px_K_some, px_K_none, px_K_thr, px_kill, ↓reduceIte, if_true, if_false, true_and, and_true, px_gf, px_pf, px_ai, px_aj, px_aa, px_wi, px_wj, px_wa, px_an, px_cls, yr_0, yr_1, tr_0, tr_1, tr_2, tr_3, px_rf, of_2, of_4, in_02, in_12, in_04, in_14, in_24, in_34, Nat.reduceLeDiff, in_01, lgc_self, Int32.reduceToNatClampNeg, wr_at, al_at, px_wr_len, px_al_len, px_wr_1, px_al_1, tg_0, tg_1, tg_2, tg_3, tg_12, tg_15, tg_17, tg_18, tg_i1, tg_b0, tg_b3, px_fit, Nat.reduceEqDiff, Nat.reduceLT, Nat.reduceAdd, Option.some.injEq, up_at, px_wr_wr, i32_le, Int32.reduceLE, Int32.reduceLT, mf_len, nar_0, nar_1, px_KH_some, px_KH_none, px_KH_thr, List.length_cons, List.length_nil, List.getElem?_cons_zero, List.getElem?_cons_succ, List.set_cons_zero, List.set_cons_succ, ↓reduceIte, Nat.lt_irrefl, ne_0_1, ne_0_2, ne_0_3, ne_0_4, ne_0_5, ne_1_0, ne_1_2, ne_1_3, ne_1_4, ne_1_5, ne_2_0, ne_2_1, ne_2_3, ne_2_4, ne_2_5, ne_3_0, ne_3_1, ne_3_2, ne_3_4, ne_3_5, ne_4_0, ne_4_1, ne_4_2, ne_4_3, ne_4_5, ne_5_0, ne_5_1, ne_5_2, ne_5_3, ne_5_4, hd_256_12, hd_256_16, hd_257_12, hd_258_12, hd_259_12, hd_260_12, hd_261_12, hd_261_13, hd_261_16, hd_262_12, hd_262_13, hd_262_16, hd_263_12, hd_263_13, hd_264_12, hd_264_13, hd_264_14, hd_265_12, hd_265_13, hd_265_14, hd_266_12, hd_267_12, hd_267_13, hd_267_14, hd_268_12, hd_269_12, hd_269_14, hd_270_12, hd_271_12, hd_272_12, hd_273_12, hd_273_13, hd_273_15, hd_274_12, hd_274_15, hd_275_12, hd_275_15, hd_276_12, nI_p1, nI_p2, nI_p3, nI_p4, nI_p5, not_true_eq_false, not_false_eq_true, and_self, mf_0, mf_1, mf_2, mf_3, mf_4, mf_5, mf_6, mf_7, mf_8, mf_9, mf_10, mf_11, mf_12, mf_13, mf_14, mf_15, mf_16, mf_17, mf_18, mf_19, mf_20, mf_21, mf_22, mf_23, mf_24, mf_25, mf_26, mf_27, mf_28, mf_29, mf_30, mf_31, mf_32, mf_33, mf_34, mf_35, mf_36, mf_37, mf_38, mf_39, mf_40, mf_41, mf_42, mf_43, mf_44, mf_45, mf_46, mf_47, mf_48, mf_49, mf_50, mf_51, mf_52, mf_53, mf_54, mf_55, mf_56, mf_57, mf_58, mf_59, mf_60, mf_61, mfs_0, mfs_2, mfs_17, mfs_20, mfs_26, mfs_32, mfs_34, mfs_36, mfs_38, mfs_43, mfs_44, mfs_45, mfs_46, mfs_47, iy_0, iy_1, iy_2, iy_3, iy_4, iy_5, iy_6, ge, ii, ci, b', i1, j1, jt, gt, tg_b3, tg_2, px_kill]
      have room : yR (tsS S mk t) + 15 ≤ 40000 := by
        have := (ts_all g bk hc hm t (by omega)).2.2.2.1
        have en : tsS S mk (t + 1) = yTell (tsS S mk t) t (yG S t) := if_pos e
        have := (ts_all g bk hc hm (t + 1) (by omega)).2.2.2.1
        rw [en] at this
        have h1 : yR (tsS S mk t) + 15 ≤ sumL (yL S) (yB S) + 15 * cntT (yT S) (t + 1) := this
        have cl := cnT_mono (T := yT S) (n := t + 1) (8 - (t + 1))
        rw [show t + 1 + (8 - (t + 1)) = 8 by omega] at cl
        have hcs : sumL (yL S) (yB S) + 15 * cntT (yT S) 8 ≤ cst S := by unfold cst; omega
        have := g.1.1
        omega
      refine c_writeTag (v := yG S t) (R := yR (tsS S mk t)) a1 b j1 i1 (by omega) (fun q => absurd q (by omega)) (fun _ f' u => ?_)
      have cn := cy_tag (S := mixT S mk t) (j := t) (n := 15) (f' := f') (g := recB 2 9 (tagB t (yG S t))) (T := T) (G := G) (b := 1) (bt := true) (v := yG S t) c' room (wrote_J (S := mixT S mk t) a2 u) j2 i2 rfl (yG S) (fun _ => rfl) (fun _ _ => rfl)
      have em : (addJ (mixT S mk t) 15 (recB 2 9 (tagB t (yG S t))), (mixT S mk t).2.1, (mixT S mk t).2.2.1, (px_up (yT (mixT S mk t)) t true, yG S)) = mixT S mk (t + 1) := by
        have en : tsS S mk (t + 1) = yTell (tsS S mk t) t (yG S t) := if_pos e
        unfold mixT
        rw [en, show px_up (yT ((yR (tsS S mk t), yJ (tsS S mk t), yC S), (bsS S mk (yB S)).2.1, S.2.2)) t true = yT S from up_id e]
        rfl
      rw [em] at cn
      have hl : Y + 10 < h'.2.length := (List.getElem?_eq_some_iff.mp j1).1
      simp only [px_K_some, pc109_73, pc109_73r, pc109_74, pc109_77, px_op_some, px_kv_ap, px_ki_ap, px_kl_ap, px_kn_ap, px_kh_ap, px_op_none, px_K_some, px_K_none, px_K_thr, px_kill, ↓reduceIte, if_true, if_false, true_and, and_true, px_kill, nI_1]
      refine ih (t + 1) (by omega) _ cn (frm_trans fr ?_) (fun s => ?_)
      · unfold tagH rowH
        exact frm_wr (frm_wr (frm_wr (frm_wr (frm_refl _ _) ⟨by omega, by omega⟩) ⟨by omega, by omega⟩) ⟨by omega, by omega⟩) ⟨by omega, by omega⟩
      · have q1 := shape_row (n' := yR (tsS S mk t) + 15) (f' := f') (sh s) a1
        have e10 : (rowH h' (Y + 1) 40000 (yR (tsS S mk t) + 15) f').2[Y + 10]? = some (.inr (3, 8, .inl T)) := by unfold rowH; rw [wr_at, if_neg (by omega), wr_at, if_neg (by omega)]; exact j1
        have e9 : (rowH h' (Y + 1) 40000 (yR (tsS S mk t) + 15) f').2[Y + 9]? = some (.inr (2, 8, .inr (.inl G))) := by unfold rowH; rw [wr_at, if_neg (by omega), wr_at, if_neg (by omega)]; exact i1
        unfold tagH
        exact shape_la (shape_ia q1 e10) (r := Y + 9) (f := G) (by rw [wr_at, if_neg (by omega)]; exact e9)
    · rw [if_neg e] at jt
      simp only [pc109_48, pc109_50, pc109_53, pc109_53n, pc109_54, pc109_57, pc109_58, pc109_59, pc109_62, pc109_62n, pc109_63, pc109_64, pc109_64n, pc109_65, pc109_68, pc109_69, pc109_70, pc109_73, pc109_73r, pc109_74, pc109_77, px_op_some, px_kv_ap, px_ki_ap, px_kl_ap, px_kn_ap, px_kh_ap, px_op_none, px_K_some, px_K_none, px_K_thr, px_kill, ↓reduceIte, if_true, if_false, true_and, and_true, px_gf, px_pf, px_ai, px_aj, px_aa, px_wi, px_wj, px_wa, px_an, px_cls, yr_0, yr_1, tr_0, tr_1, tr_2, tr_3, px_rf, of_2, of_4, in_02, in_12, in_04, in_14, in_24, in_34, Nat.reduceLeDiff, in_01, lgc_self, Int32.reduceToNatClampNeg, wr_at, al_at, px_wr_len, px_al_len, px_wr_1, px_al_1, tg_0, tg_1, tg_2, tg_3, tg_12, tg_15, tg_17, tg_18, tg_i1, tg_b0, tg_b3, px_fit, Nat.reduceEqDiff, Nat.reduceLT, Nat.reduceAdd, Option.some.injEq, up_at, px_wr_wr, i32_le, Int32.reduceLE, Int32.reduceLT, mf_len, nar_0, nar_1, px_KH_some, px_KH_none, px_KH_thr, List.length_cons, List.length_nil, List.getElem?_cons_zero, List.getElem?_cons_succ, List.set_cons_zero, List.set_cons_succ, ↓reduceIte, Nat.lt_irrefl, ne_0_1, ne_0_2, ne_0_3, ne_0_4, ne_0_5, ne_1_0, ne_1_2, ne_1_3, ne_1_4, ne_1_5, ne_2_0, ne_2_1, ne_2_3, ne_2_4, ne_2_5, ne_3_0, ne_3_1, ne_3_2, ne_3_4, ne_3_5, ne_4_0, ne_4_1, ne_4_2, ne_4_3, ne_4_5, ne_5_0, ne_5_1, ne_5_2, ne_5_3, ne_5_4, hd_256_12, hd_256_16, hd_257_12, hd_258_12, hd_259_12, hd_260_12, hd_261_12, hd_261_13, hd_261_16, hd_262_12, hd_262_13, hd_262_16, hd_263_12, hd_263_13, hd_264_12, hd_264_13, hd_264_14, hd_265_12, hd_265_13, hd_265_14, hd_266_12, hd_267_12, hd_267_13, hd_267_14, hd_268_12, hd_269_12, hd_269_14, hd_270_12, hd_271_12, hd_272_12, hd_273_12, hd_273_13, hd_273_15, hd_274_12, hd_274_15, hd_275_12, hd_275_15, hd_276_12, nI_p1, nI_p2, nI_p3, nI_p4, nI_p5, not_true_eq_false, not_false_eq_true, and_self, mf_0, mf_1, mf_2, mf_3, mf_4, mf_5, mf_6, mf_7, mf_8, mf_9, mf_10, mf_11, mf_12, mf_13, mf_14, mf_15, mf_16, mf_17, mf_18, mf_19, mf_20, mf_21, mf_22, mf_23, mf_24, mf_25, mf_26, mf_27, mf_28, mf_29, mf_30, mf_31, mf_32, mf_33, mf_34, mf_35, mf_36, mf_37, mf_38, mf_39, mf_40, mf_41, mf_42, mf_43, mf_44, mf_45, mf_46, mf_47, mf_48, mf_49, mf_50, mf_51, mf_52, mf_53, mf_54, mf_55, mf_56, mf_57, mf_58, mf_59, mf_60, mf_61, mfs_0, mfs_2, mfs_17, mfs_20, mfs_26, mfs_32, mfs_34, mfs_36, mfs_38, mfs_43, mfs_44, mfs_45, mfs_46, mfs_47, iy_0, iy_1, iy_2, iy_3, iy_4, iy_5, iy_6, ge, ii, ci, b', j1, jt, tg_b3, px_kill, nI_1]
      refine ih (t + 1) (by omega) h' ?_ fr sh
      have en : tsS S mk (t + 1) = tsS S mk t := if_neg e
      unfold mixT at *
      rw [en]; exact c'
end SWEEP2
