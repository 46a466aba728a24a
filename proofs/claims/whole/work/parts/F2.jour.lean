/-! COLLECT, the reference's: the journal written anew -/
/-- where the records of X stand: blobs, tags, keys -/
def layR (X : yS) (pT : Nat → Nat) : Prop := (∀ j, j < yB X → ∀ i, i < 6 + yL X j → yJ X (sumL (yL X) j + i) = recB 1 (yL X j) (blB X j) i) ∧ pT 0 = sumL (yL X) (yB X) ∧ (∀ t, t < 8 → yT X t = true → pT (t + 1) = pT t + 15 ∧ ∀ i, i < 15 → yJ X (pT t + i) = recB 2 9 (tagB t (yG X t)) i) ∧ (∀ t, t < 8 → ¬ yT X t = true → pT (t + 1) = pT t) ∧ (∀ j, j < yK X → ∀ i, i < 22 → yJ X (pT 8 + 22 * j + i) = recB 4 16 (keyB (yX X j) (yE X j)) i) ∧ yR X = pT 8 + 22 * yK X ∧ ∀ t, t ≤ 8 → pT 0 ≤ pT t ∧ pT t ≤ pT 8
section JOUR
variable {sx : Nat × (Nat → Int32)} {h : px_H} {q : Nat} {X : yS} {V : Nat → Int32} {pT : Nat → Nat} {Q : px_O → px_H → Prop}
/-- n bytes of X's journal are written -/
def wrJ (h h1 : px_H) (q : Nat) (V : Nat → Int32) (X : yS) (n : Nat) : Prop :=
  frm (fun r => r = 619 ∨ r = 636 ∨ r = 632 ∨ r = 633) h h1 ∧ shape h1 ∧ (∃ V1, h1.2[619]? = some (.inl (11, modF V1)) ∧ vSame V V1) ∧ ∃ J W, h1.2[632]? = some (.inr (1, 80000, .inl J)) ∧ h1.2[633]? = some (.inr (1, 2, .inl W)) ∧ W q = nI n ∧ (∀ i, i < n → J (40000 * q + i) = yJ X i) ∧ (∀ i, i < 40000 * q ∨ 40000 * q + 40000 ≤ i → J i = iA h 632 i) ∧ ∀ i, i ≠ q → W i = iA h 633 i
set_option maxRecDepth 16384 in
theorem wrJ_step {h1 : px_H} {w m kd : Nat} {d V1 row' J J' W : Nat → Int32} (fr : frm (fun r => r = 619 ∨ r = 636 ∨ r = 632 ∨ r = 633) h h1) (sh : shape h1) (vs : vSame V V1) (z2 : h1.2[632]? = some (.inr (1, 80000, .inl J))) (z3 : h1.2[633]? = some (.inr (1, 2, .inl W))) (z4 : ∀ i, i < w → J (40000 * q + i) = yJ X i) (z5 : ∀ i, i < 40000 * q ∨ 40000 * q + 40000 ≤ i → J i = iA h 632 i) (z6 : ∀ i, i ≠ q → W i = iA h 633 i)
    (u : wroteM J J' (40000 * q + w) (recB kd m d) (6 + m)) (h4 : w + (6 + m) ≤ 40000) (hx : ∀ i, i < 6 + m → yJ X (w + i) = recB kd m d i) : wrJ h (jouH (outH h1 (px_up V1 17 (nI m)) row') J' (px_up W q (nI (w + (6 + m))))) q V X (w + (6 + m)) := by
  have hl := sh.1
  refine ⟨?_, ?_, ⟨_, by rw [jouH_at (by decide) (by decide)]; exact outH_o (by omega), fun k hk => by rw [up_ne hk]; exact vs k hk⟩, J', _, jouH_J (by rw [outH_len]; omega), jouH_W (by rw [outH_len]; omega), up_same _ _ _, fun i hi => ?_, fun i hi => ?_, fun i hi => ?_⟩
  · unfold jouH outH
    exact frm_wr (frm_wr (frm_wr (frm_wr fr (.inr (.inl rfl))) (.inl rfl)) (.inr (.inr (.inl rfl)))) (.inr (.inr (.inr rfl)))
  · unfold jouH outH
    refine shape_wr (shape_wr (shape_wr (shape_wr sh ?_) ?_) ?_) ?_ <;> rfl
  · by_cases e : i < w
    · rw [u.1 _ (.inl (by omega))]; exact z4 i e
    · obtain ⟨i', rfl⟩ : ∃ i', i = w + i' := ⟨i - w, by omega⟩
      rw [← Nat.add_assoc, u.2 i' (by omega), hx i' (by omega)]
  · rw [u.1 _ (by omega)]; exact z5 i hi
  · rw [up_ne hi]; exact z6 i hi
set_option maxRecDepth 16384 in
theorem m_jb_l {l2 : Int32} (hq : q < 2) (hw : WFy X) (hl4 : ∀ k, k < yB X → yL X k ≤ 4120) (ly : layR X pT) (rb : RYb h q X)
    (hQ : ∀ h1, wrJ h h1 q V X (pT 0) → px_Wp sx 242 71 [some (.ref 619), some (.int (nI q)), some (.int l2), some (.int (nI (yB X)))] [] h1 Q) :
    ∀ n j, j + n = yB X → ∀ h1, wrJ h h1 q V X (sumL (yL X) j) → px_Wp sx 242 43 [some (.ref 619), some (.int (nI q)), some (.int l2), some (.int (nI j))] [] h1 Q := by
  have iq : px_in (nI q) 2 = true := px_inb hq (by decide)
  have cq : (nI q).toNatClampNeg = q := nI_clamp (by omega)
  have hB := hw.2.2.1
  obtain ⟨y1, y2, y3, y4, y5, y6, y7⟩ := ly
  have hR := hw.1
  obtain ⟨⟨bl, d1, d2⟩, -, ⟨frr, sz, bt, us, U, f1, f2, f3, f4, f5, f6, f7⟩, -⟩ := rb
  intro n
  induction n with
  | zero =>
    intro j hj h1 w
    have hj : j = yB X := by omega
    subst hj
    rw [← y2] at w
    have d1' := (w.1.2.2 621 (by omega)).trans d1
    obtain ⟨V1, h6, -⟩ := w.2.2.1
    simp only [pc242_43, pc242_44, pc242_44n, pc242_45, pc242_48, pc242_49, pc242_50, px_op_some, px_kv_ap, px_ki_ap, px_kl_ap, px_kn_ap, px_kh_ap, px_op_none, px_K_some, px_K_none, px_K_thr, px_kill, ↓reduceIte, if_true, if_false, true_and, and_true, px_gf, px_pf, px_ai, px_aj, px_aa, px_wi, px_wj, px_wa, px_an, px_cls, h6, mf_3, d1', d2, iq, cq, tg_i1, if_pos (Int32.le_refl _)]
    exact hQ h1 w
  | succ n ih =>
    intro j hj h1 w
    obtain ⟨fr, sh, ⟨V1, h6, vs⟩, J, W, z2, z3, zw, z4, z5, z6⟩ := w
    have hl := sh.1
    have d1' := (fr.2.2 621 (by omega)).trans d1
    have f1' := (fr.2.2 623 (by omega)).trans f1
    have f2' := (fr.2.2 624 (by omega)).trans f2
    have f3' := (fr.2.2 625 (by omega)).trans f3
    have ge : ¬ nI (yB X) ≤ nI j := nI_ge (by omega) (by omega)
    obtain ⟨x1, u, x2, x3, x4⟩ := f7 j (by omega)
    have v6 := hw.2.2.2.2.2.1 j (by omega)
    have sl := sumL_le (L := yL X) (n := j + 1) (yB X - (j + 1))
    rw [show j + 1 + (yB X - (j + 1)) = yB X by omega, ← y2] at sl
    have s1 : sumL (yL X) (j + 1) = sumL (yL X) j + (6 + yL X j) := rfl
    have p8 := (y7 8 (by decide)).1
    have l4 := hl4 j (by omega)
    have hcO : ∀ v r, px_cls (outH h1 v r) 619 = some 11 := fun v r => by unfold px_cls; rw [outH_o (by omega)]
    rw [pc242_43]
    simp only [pc242_44, pc242_44n, pc242_45, pc242_48, pc242_49, pc242_50, pc242_53, pc242_53n, pc242_54, pc242_55, pc242_56, px_op_some, px_kv_ap, px_ki_ap, px_kl_ap, px_kn_ap, px_kh_ap, px_op_none, px_K_some, px_K_none, px_K_thr, px_kill, ↓reduceIte, if_true, if_false, true_and, and_true, px_gf, px_pf, px_ai, px_aj, px_aa, px_wi, px_wj, px_wa, px_an, px_cls, yr_0, yr_1, tr_0, tr_1, tr_2, tr_3, px_rf, of_2, of_4, in_02, in_12, in_04, in_14, in_24, in_34, Nat.reduceLeDiff, in_01, lgc_self, Int32.reduceToNatClampNeg, wr_at, al_at, px_wr_len, px_al_len, px_wr_1, px_al_1, tg_0, tg_1, tg_2, tg_3, tg_12, tg_15, tg_17, tg_18, tg_i1, tg_b0, tg_b3, px_fit, Nat.reduceEqDiff, Nat.reduceLT, Nat.reduceAdd, Option.some.injEq, up_at, px_wr_wr, i32_le, Int32.reduceLE, Int32.reduceLT, mf_len, nar_0, nar_1, px_KH_some, px_KH_none, px_KH_thr, List.length_cons, List.length_nil, List.getElem?_cons_zero, List.getElem?_cons_succ, List.set_cons_zero, List.set_cons_succ, ↓reduceIte, Nat.lt_irrefl, ne_0_1, ne_0_2, ne_0_3, ne_0_4, ne_0_5, ne_1_0, ne_1_2, ne_1_3, ne_1_4, ne_1_5, ne_2_0, ne_2_1, ne_2_3, ne_2_4, ne_2_5, ne_3_0, ne_3_1, ne_3_2, ne_3_4, ne_3_5, ne_4_0, ne_4_1, ne_4_2, ne_4_3, ne_4_5, ne_5_0, ne_5_1, ne_5_2, ne_5_3, ne_5_4, hd_256_12, hd_256_16, hd_257_12, hd_258_12, hd_259_12, hd_260_12, hd_261_12, hd_261_13, hd_261_16, hd_262_12, hd_262_13, hd_262_16, hd_263_12, hd_263_13, hd_264_12, hd_264_13, hd_264_14, hd_265_12, hd_265_13, hd_265_14, hd_266_12, hd_267_12, hd_267_13, hd_267_14, hd_268_12, hd_269_12, hd_269_14, hd_270_12, hd_271_12, hd_272_12, hd_273_12, hd_273_13, hd_273_15, hd_274_12, hd_274_15, hd_275_12, hd_275_15, hd_276_12, nI_p1, nI_p2, nI_p3, nI_p4, nI_p5, not_true_eq_false, not_false_eq_true, and_self, mf_0, mf_1, mf_2, mf_3, mf_4, mf_5, mf_6, mf_7, mf_8, mf_9, mf_10, mf_11, mf_12, mf_13, mf_14, mf_15, mf_16, mf_17, mf_18, mf_19, mf_20, mf_21, mf_22, mf_23, mf_24, mf_25, mf_26, mf_27, mf_28, mf_29, mf_30, mf_31, mf_32, mf_33, mf_34, mf_35, mf_36, mf_37, mf_38, mf_39, mf_40, mf_41, mf_42, mf_43, mf_44, mf_45, mf_46, mf_47, mf_48, mf_49, mf_50, mf_51, mf_52, mf_53, mf_54, mf_55, mf_56, mf_57, mf_58, mf_59, mf_60, mf_61, mfs_0, mfs_2, mfs_17, mfs_20, mfs_26, mfs_32, mfs_34, mfs_36, mfs_38, mfs_43, mfs_44, mfs_45, mfs_46, mfs_47, iy_0, iy_1, iy_2, iy_3, iy_4, iy_5, iy_6, h6, mf_3, d1', d2, iq, cq, ge, tg_i1]
    refine m_rowFromBlob (u := u) (l := yL X j) (bb := blB X j) hl hq (by omega) h6 (at_636 sh) f1' f2' f3' x2 x1 (by omega) (fun m hm => by rw [x4 m hm]; exact hw.2.2.2.2.2.2 _ (by omega)) (fun row' wr => ?_)
    simp only [px_K_none, pc242_59, pc242_59n, pc242_60, pc242_61, pc242_62, px_op_some, px_kv_ap, px_ki_ap, px_kl_ap, px_kn_ap, px_kh_ap, px_op_none, px_K_some, px_K_none, px_K_thr, px_kill, ↓reduceIte, if_true, if_false, true_and, and_true, hcO]
    have e1 : outH h1 (px_up V1 17 (nI (yL X j))) row' = jouH (outH h1 (px_up V1 17 (nI (yL X j))) row') J (px_up W q (nI (sumL (yL X) j))) := by
      rw [up_id zw]; exact (jouH_id (by rw [outH_at (by decide) (by decide)]; exact z2) (by rw [outH_at (by decide) (by decide)]; exact z3)).symm
    rw [e1]
    have hr : ∀ k, k < yL X j → row' k = blB X j k := fun k hk => by have := wr.2 k hk; rw [Nat.zero_add] at this; exact this
    refine m_record (m := yL X j) (kd := 1) (d := row') (by rw [outH_len]; omega) (outH_o (by omega)) (up_same _ _ _) (outH_r (by omega)) hq (by decide) (by omega) (by omega) (fun k hk => by rw [hr k hk]; exact hw.2.2.2.2.2.2 _ (by omega)) (fun J' u' => ?_)
    rw [recB_congr hr] at u'
    simp only [px_K_none, pc242_65, pc242_68, px_kill, nI_1]
    exact ih (j + 1) (by omega) _ (wrJ_step (d := blB X j) fr sh vs z2 z3 z4 z5 z6 u' (by omega) (fun i hi => y1 j (by omega) i hi))
set_option maxRecDepth 16384 in
theorem m_jt_l {l2 : Int32} (hq : q < 2) (hw : WFy X) (ly : layR X pT) (rb : RYb h q X)
    (hQ : ∀ h1, wrJ h h1 q V X (pT 8) → px_Wp sx 242 130 [some (.ref 619), some (.int (nI q)), some (.int l2), some (.int 8)] [] h1 Q) :
    ∀ n t, t + n = 8 → ∀ h1, wrJ h h1 q V X (pT t) → px_Wp sx 242 73 [some (.ref 619), some (.int (nI q)), some (.int l2), some (.int (nI t))] [] h1 Q := by
  obtain ⟨y1, y2, y3, y4, y5, y6, y7⟩ := ly
  have hR := hw.1
  obtain ⟨-, -, -, -, -, -, ⟨G, j1, j2⟩, T, k1, k2⟩ := rb
  intro n
  induction n with
  | zero =>
    intro t ht h1 w
    have ht : t = 8 := by omega
    subst ht
    simp only [pc242_73, pc242_74, pc242_76, show nI 8 = 8 from rfl, if_pos (Int32.le_refl _)]
    exact hQ h1 w
  | succ n ih =>
    intro t ht h1 w
    have w' := w
    obtain ⟨fr, sh, ⟨V1, h6, vs⟩, J, W, z2, z3, zw, z4, z5, z6⟩ := w
    have hl := sh.1
    have j1' := (fr.2.2 627 (by omega)).trans j1
    have k1' := (fr.2.2 628 (by omega)).trans k1
    have ge : ¬ (8 : Int32) ≤ nI t := nI_ge (b := 8) (by omega) (by decide)
    have i16 : px_in (nI (8 * q + t)) 16 = true := px_inb (by omega) (by decide)
    have c16 : (nI (8 * q + t)).toNatClampNeg = 8 * q + t := nI_clamp (by omega)
    have kt := k2 t (by omega)
    have p8 := (y7 (t + 1) (by omega)).2
    rw [pc242_73]
    by_cases e : yT X t = true
    · rw [if_pos e] at kt
      obtain ⟨p1, p2⟩ := y3 t (by omega) e
      have gt := j2 t (by omega) e
      have e0 : px_wr h1 619 (.inl (11, modF (px_up V1 17 0))) = outH h1 (px_up V1 17 0) (iA h1 636) := (outH_w (at_636 sh)).symm
      have hcO : ∀ v r, px_cls (outH h1 v r) 619 = some 11 := fun v r => by unfold px_cls; rw [outH_o (by omega)]
      have h6O : ∀ v r, (outH h1 v r).2[619]? = some (.inl (11, modF v)) := fun v r => outH_o (by omega)
      have j1O : ∀ v r, (outH h1 v r).2[627]? = some (.inr (2, 16, .inr (.inl G))) := fun v r => by rw [outH_at (by decide) (by decide)]; exact j1'
      simp only [pc242_74, pc242_76, pc242_79, pc242_79n, pc242_80, pc242_83, pc242_85, pc242_86, pc242_87, pc242_88, pc242_89, pc242_90, pc242_93, pc242_93n, pc242_94, pc242_95, pc242_98, pc242_98n, pc242_99, pc242_100, px_op_some, px_kv_ap, px_ki_ap, px_kl_ap, px_kn_ap, px_kh_ap, px_op_none, px_K_some, px_K_none, px_K_thr, px_kill, ↓reduceIte, if_true, if_false, true_and, and_true, px_gf, px_ai, px_pf, yr_0, yr_1, tr_0, tr_1, tr_2, tr_3, px_rf, of_2, of_4, in_02, in_12, in_04, in_14, in_24, in_34, Nat.reduceLeDiff, in_01, lgc_self, Int32.reduceToNatClampNeg, wr_at, al_at, px_wr_len, px_al_len, px_wr_1, px_al_1, tg_0, tg_1, tg_2, tg_3, tg_12, tg_15, tg_17, tg_18, tg_i1, tg_b0, tg_b3, px_fit, Nat.reduceEqDiff, Nat.reduceLT, Nat.reduceAdd, Option.some.injEq, up_at, px_wr_wr, i32_le, Int32.reduceLE, Int32.reduceLT, mf_len, nar_0, nar_1, px_KH_some, px_KH_none, px_KH_thr, List.length_cons, List.length_nil, List.getElem?_cons_zero, List.getElem?_cons_succ, List.set_cons_zero, List.set_cons_succ, ↓reduceIte, Nat.lt_irrefl, ne_0_1, ne_0_2, ne_0_3, ne_0_4, ne_0_5, ne_1_0, ne_1_2, ne_1_3, ne_1_4, ne_1_5, ne_2_0, ne_2_1, ne_2_3, ne_2_4, ne_2_5, ne_3_0, ne_3_1, ne_3_2, ne_3_4, ne_3_5, ne_4_0, ne_4_1, ne_4_2, ne_4_3, ne_4_5, ne_5_0, ne_5_1, ne_5_2, ne_5_3, ne_5_4, hd_256_12, hd_256_16, hd_257_12, hd_258_12, hd_259_12, hd_260_12, hd_261_12, hd_261_13, hd_261_16, hd_262_12, hd_262_13, hd_262_16, hd_263_12, hd_263_13, hd_264_12, hd_264_13, hd_264_14, hd_265_12, hd_265_13, hd_265_14, hd_266_12, hd_267_12, hd_267_13, hd_267_14, hd_268_12, hd_269_12, hd_269_14, hd_270_12, hd_271_12, hd_272_12, hd_273_12, hd_273_13, hd_273_15, hd_274_12, hd_274_15, hd_275_12, hd_275_15, hd_276_12, nI_p1, nI_p2, nI_p3, nI_p4, nI_p5, not_true_eq_false, not_false_eq_true, and_self, mf_0, mf_1, mf_2, mf_3, mf_4, mf_5, mf_6, mf_7, mf_8, mf_9, mf_10, mf_11, mf_12, mf_13, mf_14, mf_15, mf_16, mf_17, mf_18, mf_19, mf_20, mf_21, mf_22, mf_23, mf_24, mf_25, mf_26, mf_27, mf_28, mf_29, mf_30, mf_31, mf_32, mf_33, mf_34, mf_35, mf_36, mf_37, mf_38, mf_39, mf_40, mf_41, mf_42, mf_43, mf_44, mf_45, mf_46, mf_47, mf_48, mf_49, mf_50, mf_51, mf_52, mf_53, mf_54, mf_55, mf_56, mf_57, mf_58, mf_59, mf_60, mf_61, mfs_0, mfs_2, mfs_17, mfs_20, mfs_26, mfs_32, mfs_34, mfs_36, mfs_38, mfs_43, mfs_44, mfs_45, mfs_46, mfs_47, iy_0, iy_1, iy_2, iy_3, iy_4, iy_5, iy_6, h6, mf_10, mf_len, mfs_17, px_fit, Nat.reduceLT, and_self, k1', kt, mul_8 hq, nI_add, i16, c16, ge, tg_b3, px_kill, e0, hcO]
      refine m_emit (o := 0) (by omega) (up_same _ _ _) (by decide) ?_
      simp only [px_K_none, pc242_103, pc242_103n, pc242_104, pc242_104n, pc242_105, pc242_108, pc242_110, pc242_111, pc242_112, pc242_113, pc242_114, pc242_115, px_op_some, px_kv_ap, px_ki_ap, px_kl_ap, px_kn_ap, px_kh_ap, px_op_none, px_K_some, px_K_none, px_K_thr, px_kill, ↓reduceIte, if_true, if_false, true_and, and_true, px_gf, px_aj, up_up, h6O, j1O, mf_9, mul_8 hq, nI_add, i16, c16, gt, tg_2, hcO, and_self, true_and, if_true, px_op_some, px_kv_ap, px_ki_ap, px_kl_ap, px_kn_ap, px_kh_ap]
      refine m_emitLong (o := 1) (by omega) (up_same _ _ _) (by decide) (fun row' u => ?_)
      simp only [px_K_none, pc242_118, pc242_118n, pc242_119, pc242_120, pc242_121, px_op_some, px_kv_ap, px_ki_ap, px_kl_ap, px_kn_ap, px_kh_ap, px_op_none, px_K_some, px_K_none, px_K_thr, px_kill, ↓reduceIte, if_true, if_false, true_and, and_true, up_up, hcO, true_and]
      have hd : recB 2 9 row' = recB 2 9 (tagB t (yG X t)) := recB_congr (fun k hk => by
        by_cases e : k = 0
        · subst e
          rw [u.1 0 (by omega), up_same, nI_small (by omega)]; rfl
        · obtain ⟨k', rfl⟩ : ∃ k', k = 1 + k' := ⟨k - 1, by omega⟩
          rw [u.2 k' (by omega), tagB_s])
      have hb : ∀ k, k < 9 → row' k &&& 255 = row' k := fun k hk => by
        by_cases e : k = 0
        · subst e
          rw [u.1 0 (by omega), up_same, nI_small (by omega), nI_small (by omega)]
        · obtain ⟨k', rfl⟩ : ∃ k', k = 1 + k' := ⟨k - 1, by omega⟩
          rw [u.2 k' (by omega), Int32.and_assoc, Int32.and_self]
      have e1 : outH h1 (px_up V1 17 (nI (1 + 8))) row' = jouH (outH h1 (px_up V1 17 (nI 9)) row') J (px_up W q (nI (pT t))) := by
        rw [up_id zw]; exact (jouH_id (by rw [outH_at (by decide) (by decide)]; exact z2) (by rw [outH_at (by decide) (by decide)]; exact z3)).symm
      rw [e1]
      refine m_record (m := 9) (kd := 2) (d := row') (by rw [outH_len]; omega) (outH_o (by omega)) (up_same _ _ _) (outH_r (by omega)) hq (by decide) (by decide) (by omega) hb (fun J' u' => ?_)
      rw [hd] at u'
      simp only [px_K_none, pc242_124, pc242_127, px_kill, nI_1]
      have st := wrJ_step (h := h) (V := V) (X := X) (m := 9) (row' := row') (d := tagB t (yG X t)) fr sh vs z2 z3 z4 z5 z6 u' (by omega) (fun i hi => p2 i (by omega))
      have ex := ih (t + 1) (by omega) (jouH (outH h1 (px_up V1 17 (nI 9)) row') J' (px_up W q (nI (pT t + (6 + 9)))))
      rw [p1] at ex
      exact ex st
    · rw [if_neg e] at kt
      have p1 := y4 t (by omega) e
      simp only [pc242_74, pc242_76, pc242_79, pc242_79n, pc242_80, pc242_83, pc242_85, pc242_86, pc242_87, pc242_88, pc242_89, pc242_90, pc242_124, pc242_127, px_op_some, px_kv_ap, px_ki_ap, px_kl_ap, px_kn_ap, px_kh_ap, px_op_none, px_K_some, px_K_none, px_K_thr, px_kill, ↓reduceIte, if_true, if_false, true_and, and_true, px_gf, px_pf, px_ai, px_aj, px_aa, px_wi, px_wj, px_wa, px_an, px_cls, yr_0, yr_1, tr_0, tr_1, tr_2, tr_3, px_rf, of_2, of_4, in_02, in_12, in_04, in_14, in_24, in_34, Nat.reduceLeDiff, in_01, lgc_self, Int32.reduceToNatClampNeg, wr_at, al_at, px_wr_len, px_al_len, px_wr_1, px_al_1, tg_0, tg_1, tg_2, tg_3, tg_12, tg_15, tg_17, tg_18, tg_i1, tg_b0, tg_b3, px_fit, Nat.reduceEqDiff, Nat.reduceLT, Nat.reduceAdd, Option.some.injEq, up_at, px_wr_wr, i32_le, Int32.reduceLE, Int32.reduceLT, mf_len, nar_0, nar_1, px_KH_some, px_KH_none, px_KH_thr, List.length_cons, List.length_nil, List.getElem?_cons_zero, List.getElem?_cons_succ, List.set_cons_zero, List.set_cons_succ, ↓reduceIte, Nat.lt_irrefl, ne_0_1, ne_0_2, ne_0_3, ne_0_4, ne_0_5, ne_1_0, ne_1_2, ne_1_3, ne_1_4, ne_1_5, ne_2_0, ne_2_1, ne_2_3, ne_2_4, ne_2_5, ne_3_0, ne_3_1, ne_3_2, ne_3_4, ne_3_5, ne_4_0, ne_4_1, ne_4_2, ne_4_3, ne_4_5, ne_5_0, ne_5_1, ne_5_2, ne_5_3, ne_5_4, hd_256_12, hd_256_16, hd_257_12, hd_258_12, hd_259_12, hd_260_12, hd_261_12, hd_261_13, hd_261_16, hd_262_12, hd_262_13, hd_262_16, hd_263_12, hd_263_13, hd_264_12, hd_264_13, hd_264_14, hd_265_12, hd_265_13, hd_265_14, hd_266_12, hd_267_12, hd_267_13, hd_267_14, hd_268_12, hd_269_12, hd_269_14, hd_270_12, hd_271_12, hd_272_12, hd_273_12, hd_273_13, hd_273_15, hd_274_12, hd_274_15, hd_275_12, hd_275_15, hd_276_12, nI_p1, nI_p2, nI_p3, nI_p4, nI_p5, not_true_eq_false, not_false_eq_true, and_self, mf_0, mf_1, mf_2, mf_3, mf_4, mf_5, mf_6, mf_7, mf_8, mf_9, mf_10, mf_11, mf_12, mf_13, mf_14, mf_15, mf_16, mf_17, mf_18, mf_19, mf_20, mf_21, mf_22, mf_23, mf_24, mf_25, mf_26, mf_27, mf_28, mf_29, mf_30, mf_31, mf_32, mf_33, mf_34, mf_35, mf_36, mf_37, mf_38, mf_39, mf_40, mf_41, mf_42, mf_43, mf_44, mf_45, mf_46, mf_47, mf_48, mf_49, mf_50, mf_51, mf_52, mf_53, mf_54, mf_55, mf_56, mf_57, mf_58, mf_59, mf_60, mf_61, mfs_0, mfs_2, mfs_17, mfs_20, mfs_26, mfs_32, mfs_34, mfs_36, mfs_38, mfs_43, mfs_44, mfs_45, mfs_46, mfs_47, iy_0, iy_1, iy_2, iy_3, iy_4, iy_5, iy_6, h6, mf_10, k1', kt, mul_8 hq, nI_add, i16, c16, ge, tg_b3, px_kill, nI_1]
      have ex := ih (t + 1) (by omega) h1
      rw [p1] at ex
      exact ex w'
set_option maxRecDepth 16384 in
theorem m_jk_l {l2 : Int32} (hq : q < 2) (hw : WFy X) (ly : layR X pT) (rb : RYb h q X)
    (hQ : ∀ h1, wrJ h h1 q V X (yR X) → px_Wp sx 242 189 [some (.ref 619), some (.int (nI q)), some (.int l2), some (.int (nI (yK X)))] [] h1 Q) :
    ∀ n j, j + n = yK X → ∀ h1, wrJ h h1 q V X (pT 8 + 22 * j) → px_Wp sx 242 132 [some (.ref 619), some (.int (nI q)), some (.int l2), some (.int (nI j))] [] h1 Q := by
  have iq : px_in (nI q) 2 = true := px_inb hq (by decide)
  have cq : (nI q).toNatClampNeg = q := nI_clamp (by omega)
  have hK := hw.2.2.2.1
  obtain ⟨y1, y2, y3, y4, y5, y6, y7⟩ := ly
  have hR := hw.1
  obtain ⟨-, -, -, ⟨kk, g1, g2⟩, ⟨ky, b1, b2⟩, ⟨kl, i1, i2⟩, -⟩ := rb
  intro n
  induction n with
  | zero =>
    intro j hj h1 w
    have hj : j = yK X := by omega
    subst hj
    rw [← y6] at w
    have g1' := (w.1.2.2 629 (by omega)).trans g1
    obtain ⟨V1, h6, -⟩ := w.2.2.1
    simp only [pc242_132, pc242_133, pc242_133n, pc242_134, pc242_137, pc242_138, pc242_139, px_op_some, px_kv_ap, px_ki_ap, px_kl_ap, px_kn_ap, px_kh_ap, px_op_none, px_K_some, px_K_none, px_K_thr, px_kill, ↓reduceIte, if_true, if_false, true_and, and_true, px_gf, px_pf, px_ai, px_aj, px_aa, px_wi, px_wj, px_wa, px_an, px_cls, h6, mf_11, g1', g2, iq, cq, tg_i1, if_pos (Int32.le_refl _)]
    exact hQ h1 w
  | succ n ih =>
    intro j hj h1 w
    obtain ⟨fr, sh, ⟨V1, h6, vs⟩, J, W, z2, z3, zw, z4, z5, z6⟩ := w
    have hl := sh.1
    have g1' := (fr.2.2 629 (by omega)).trans g1
    have b1' := (fr.2.2 630 (by omega)).trans b1
    have i1' := (fr.2.2 631 (by omega)).trans i1
    have ge : ¬ nI (yK X) ≤ nI j := nI_ge (by omega) (by omega)
    have i20 : px_in (nI (60 * q + j)) 120 = true := px_inb (by omega) (by decide)
    have c20 : (nI (60 * q + j)).toNatClampNeg = 60 * q + j := nI_clamp (by omega)
    have e0 : px_wr h1 619 (.inl (11, modF (px_up V1 17 0))) = outH h1 (px_up V1 17 0) (iA h1 636) := (outH_w (at_636 sh)).symm
    have hcO : ∀ v r, px_cls (outH h1 v r) 619 = some 11 := fun v r => by unfold px_cls; rw [outH_o (by omega)]
    have h6O : ∀ v r, (outH h1 v r).2[619]? = some (.inl (11, modF v)) := fun v r => outH_o (by omega)
    have b1O : ∀ v r, (outH h1 v r).2[630]? = some (.inr (2, 120, .inr (.inl ky))) := fun v r => by rw [outH_at (by decide) (by decide)]; exact b1'
    have i1O : ∀ v r, (outH h1 v r).2[631]? = some (.inr (2, 120, .inr (.inl kl))) := fun v r => by rw [outH_at (by decide) (by decide)]; exact i1'
    have bj := b2 j (by omega)
    have ij := i2 j (by omega)
    rw [pc242_132]
    simp only [pc242_133, pc242_133n, pc242_134, pc242_137, pc242_138, pc242_139, pc242_142, pc242_142n, pc242_143, pc242_144, pc242_147, pc242_147n, pc242_148, pc242_148n, pc242_149, pc242_152, pc242_154, pc242_155, pc242_156, pc242_157, pc242_158, pc242_159, px_op_some, px_kv_ap, px_ki_ap, px_kl_ap, px_kn_ap, px_kh_ap, px_op_none, px_K_some, px_K_none, px_K_thr, px_kill, ↓reduceIte, if_true, if_false, true_and, and_true, px_gf, px_ai, px_aj, px_pf, yr_0, yr_1, tr_0, tr_1, tr_2, tr_3, px_rf, of_2, of_4, in_02, in_12, in_04, in_14, in_24, in_34, Nat.reduceLeDiff, in_01, lgc_self, Int32.reduceToNatClampNeg, wr_at, al_at, px_wr_len, px_al_len, px_wr_1, px_al_1, tg_0, tg_1, tg_2, tg_3, tg_12, tg_15, tg_17, tg_18, tg_i1, tg_b0, tg_b3, px_fit, Nat.reduceEqDiff, Nat.reduceLT, Nat.reduceAdd, Option.some.injEq, up_at, px_wr_wr, i32_le, Int32.reduceLE, Int32.reduceLT, mf_len, nar_0, nar_1, px_KH_some, px_KH_none, px_KH_thr, List.length_cons, List.length_nil, List.getElem?_cons_zero, List.getElem?_cons_succ, List.set_cons_zero, List.set_cons_succ, ↓reduceIte, Nat.lt_irrefl, ne_0_1, ne_0_2, ne_0_3, ne_0_4, ne_0_5, ne_1_0, ne_1_2, ne_1_3, ne_1_4, ne_1_5, ne_2_0, ne_2_1, ne_2_3, ne_2_4, ne_2_5, ne_3_0, ne_3_1, ne_3_2, ne_3_4, ne_3_5, ne_4_0, ne_4_1, ne_4_2, ne_4_3, ne_4_5, ne_5_0, ne_5_1, ne_5_2, ne_5_3, ne_5_4, hd_256_12, hd_256_16, hd_257_12, hd_258_12, hd_259_12, hd_260_12, hd_261_12, hd_261_13, hd_261_16, hd_262_12, hd_262_13, hd_262_16, hd_263_12, hd_263_13, hd_264_12, hd_264_13, hd_264_14, hd_265_12, hd_265_13, hd_265_14, hd_266_12, hd_267_12, hd_267_13, hd_267_14, hd_268_12, hd_269_12, hd_269_14, hd_270_12, hd_271_12, hd_272_12, hd_273_12, hd_273_13, hd_273_15, hd_274_12, hd_274_15, hd_275_12, hd_275_15, hd_276_12, nI_p1, nI_p2, nI_p3, nI_p4, nI_p5, not_true_eq_false, not_false_eq_true, and_self, mf_0, mf_1, mf_2, mf_3, mf_4, mf_5, mf_6, mf_7, mf_8, mf_9, mf_10, mf_11, mf_12, mf_13, mf_14, mf_15, mf_16, mf_17, mf_18, mf_19, mf_20, mf_21, mf_22, mf_23, mf_24, mf_25, mf_26, mf_27, mf_28, mf_29, mf_30, mf_31, mf_32, mf_33, mf_34, mf_35, mf_36, mf_37, mf_38, mf_39, mf_40, mf_41, mf_42, mf_43, mf_44, mf_45, mf_46, mf_47, mf_48, mf_49, mf_50, mf_51, mf_52, mf_53, mf_54, mf_55, mf_56, mf_57, mf_58, mf_59, mf_60, mf_61, mfs_0, mfs_2, mfs_17, mfs_20, mfs_26, mfs_32, mfs_34, mfs_36, mfs_38, mfs_43, mfs_44, mfs_45, mfs_46, mfs_47, iy_0, iy_1, iy_2, iy_3, iy_4, iy_5, iy_6, h6, h6O, mf_11, mf_12, mf_len, mfs_17, px_fit, Nat.reduceLT, and_self, g1', g2, iq, cq, b1O, mul_60 hq, nI_add, i20, c20, bj, ge, tg_i1, tg_2, px_kill, e0, hcO]
    refine m_emitLong (o := 0) (by omega) (up_same _ _ _) (by decide) (fun row1 u1 => ?_)
    simp only [px_K_none, pc242_162, pc242_162n, pc242_163, pc242_163n, pc242_164, pc242_167, pc242_169, pc242_170, pc242_171, pc242_172, pc242_173, pc242_174, px_op_some, px_kv_ap, px_ki_ap, px_kl_ap, px_kn_ap, px_kh_ap, px_op_none, px_K_some, px_K_none, px_K_thr, px_kill, ↓reduceIte, if_true, if_false, true_and, and_true, px_gf, px_aj, up_up, h6O, i1O, mf_13, mul_60 hq, nI_add, i20, c20, ij, tg_2, hcO, and_self, true_and, if_true, px_op_some, px_kv_ap, px_ki_ap, px_kl_ap, px_kn_ap, px_kh_ap]
    refine m_emitLong (o := 8) (by omega) (up_same _ _ _) (by decide) (fun row' u => ?_)
    simp only [px_K_none, pc242_177, pc242_177n, pc242_178, pc242_179, pc242_180, px_op_some, px_kv_ap, px_ki_ap, px_kl_ap, px_kn_ap, px_kh_ap, px_op_none, px_K_some, px_K_none, px_K_thr, px_kill, ↓reduceIte, if_true, if_false, true_and, and_true, up_up, hcO, true_and]
    have hrow : ∀ k, k < 16 → row' k = keyB (yX X j) (yE X j) k := fun k hk => by
      by_cases e : k < 8
      · rw [u.1 k (by omega), keyB_0 e]
        have := u1.2 k e
        rw [Nat.zero_add] at this; exact this
      · obtain ⟨k', rfl⟩ : ∃ k', k = 8 + k' := ⟨k - 8, by omega⟩
        rw [u.2 k' (by omega), keyB_1]
    have hd : recB 4 16 row' = recB 4 16 (keyB (yX X j) (yE X j)) := recB_congr hrow
    have hb : ∀ k, k < 16 → row' k &&& 255 = row' k := fun k hk => by
      rw [hrow k hk]; unfold keyB; split <;> rw [Int32.and_assoc, Int32.and_self]
    have e1 : outH h1 (px_up V1 17 (nI (8 + 8))) row' = jouH (outH h1 (px_up V1 17 (nI 16)) row') J (px_up W q (nI (pT 8 + 22 * j))) := by
      rw [up_id zw]; exact (jouH_id (by rw [outH_at (by decide) (by decide)]; exact z2) (by rw [outH_at (by decide) (by decide)]; exact z3)).symm
    rw [e1]
    refine m_record (m := 16) (kd := 4) (d := row') (by rw [outH_len]; omega) (outH_o (by omega)) (up_same _ _ _) (outH_r (by omega)) hq (by decide) (by decide) (by omega) hb (fun J' u' => ?_)
    rw [hd] at u'
    simp only [px_K_none, pc242_183, pc242_186, px_kill, nI_1]
    have st := wrJ_step (h := h) (V := V) (X := X) (m := 16) (row' := row') (d := keyB (yX X j) (yE X j)) fr sh vs z2 z3 z4 z5 z6 u' (by omega) (fun i hi => y5 j (by omega) i (by omega))
    have ex := ih (j + 1) (by omega) (jouH (outH h1 (px_up V1 17 (nI 16)) row') J' (px_up W q (nI (pT 8 + 22 * j + (6 + 16)))))
    rw [show pT 8 + 22 * (j + 1) = pT 8 + 22 * j + (6 + 16) by omega] at ex
    exact ex st
end JOUR
