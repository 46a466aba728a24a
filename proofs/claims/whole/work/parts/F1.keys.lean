/-! COLLECT, the reference's: keys dropped -/
section DKEYS
variable {sx : Nat × (Nat → Int32)} {h : px_H} {q : Nat} {S : yS} {V : Nat → Int32} {mk hd : Nat → Bool} {Q : px_O → px_H → Prop}
set_option maxRecDepth 16384 in
theorem RYb_congr {S' : yS} (c : RYb h q S) (hw : ∀ k, k < yB S → yP S k + yL S k ≤ yR S) (e1 : S'.2.1 = S.2.1) (e2 : S'.2.2.1 = S.2.2.1) (e3 : ∀ j, j < 8 → yT S' j = yT S j ∧ (yT S j = true → yG S' j = yG S j)) (e4 : yR S ≤ yR S') (e5 : ∀ i, i < yR S → yJ S' i = yJ S i) : RYb h q S' := by
  obtain ⟨⟨bl, d1, d2⟩, ⟨D, b1, b2⟩, ⟨fr, sz, bt, us, U, f1, f2, f3, f4, f5, f6, f7⟩, ⟨kk, g1, g2⟩, ⟨ky, h1, h2⟩, ⟨kl, i1, i2⟩, ⟨G, j1, j2⟩, T, k1, k2⟩ := c
  have eB : yB S' = yB S := by show S'.2.1.1 = S.2.1.1; rw [e1]
  have eD : yD S' = yD S := by show S'.2.1.2.1 = S.2.1.2.1; rw [e1]
  have eP : yP S' = yP S := by show S'.2.1.2.2.1 = S.2.1.2.2.1; rw [e1]
  have eL : yL S' = yL S := by show S'.2.1.2.2.2 = S.2.1.2.2.2; rw [e1]
  have eK : yK S' = yK S := by show S'.2.2.1.1 = S.2.2.1.1; rw [e2]
  have eX : yX S' = yX S := by show S'.2.2.1.2.1 = S.2.2.1.2.1; rw [e2]
  have eE : yE S' = yE S := by show S'.2.2.1.2.2 = S.2.2.1.2.2; rw [e2]
  refine ⟨⟨bl, d1, by rw [eB]; exact d2⟩, ⟨D, b1, by rw [eB, eD]; exact b2⟩, ⟨fr, sz, bt, us, U, f1, f2, f3, f4, f5, ⟨Nat.le_trans f6.1 e4, by rw [eL, eB]; exact f6.2⟩, fun k hk => ?_⟩, ⟨kk, g1, by rw [eK]; exact g2⟩, ⟨ky, h1, by rw [eK, eX]; exact h2⟩, ⟨kl, i1, by rw [eK, eE]; exact i2⟩, ⟨G, j1, fun j hj t => by rw [(e3 j hj).1] at t; rw [(e3 j hj).2 t]; exact j2 j hj t⟩, T, k1, fun j hj => by rw [(e3 j hj).1]; exact k2 j hj⟩
  rw [eB] at hk
  obtain ⟨x1, u, x2, x3, x4⟩ := f7 k hk
  rw [eL, eP]
  refine ⟨x1, u, x2, x3, fun m hm => ?_⟩
  have := hw k hk
  rw [e5 _ (by omega)]; exact x4 m hm
/-- the first k keys are done -/
def dkS (h h1 : px_H) (q : Nat) (S : yS) (mk hd : Nat → Bool) (k : Nat) : Prop := frm (fun r => r = 630 ∨ r = 631) h h1 ∧ shape h1 ∧ ∃ ky kl, h1.2[630]? = some (.inr (2, 120, .inr (.inl ky))) ∧ h1.2[631]? = some (.inr (2, 120, .inr (.inl kl))) ∧ (∀ j, j < yK (ksS S mk hd k) → ky (60 * q + j) = yX (ksS S mk hd k) j ∧ kl (60 * q + j) = yE (ksS S mk hd k) j) ∧ (∀ j, k ≤ j → j < yK S → ky (60 * q + j) = yX S j ∧ kl (60 * q + j) = yE S j) ∧ ∀ i, i < 60 * q ∨ 60 * q + 60 ≤ i → ky i = lA h 630 i ∧ kl i = lA h 631 i
set_option maxRecDepth 16384 in
theorem m_dk_l {bl kk : Nat → Int32} {D : Nat → Int64} (hq : q < 2) (hK : yK S ≤ 60) (hB : yB (bsS S mk (yB S)) ≤ 60) (h6 : h.2[619]? = some (.inl (11, modF V))) (b1 : h.2[621]? = some (.inr (1, 2, .inl bl))) (b2 : bl q = nI (yB (bsS S mk (yB S)))) (e1 : h.2[622]? = some (.inr (2, 122, .inr (.inl D)))) (e2 : ∀ k, k < yB (bsS S mk (yB S)) → D (61 * q + k) = yD (bsS S mk (yB S)) k) (g1 : h.2[629]? = some (.inr (1, 2, .inl kk))) (g2 : kk q = nI (yK S)) (hc : ∀ k, k ≤ yK S → yK (ksS S mk hd k) ≤ k)
    (hh : ∀ k, k < yK S → (hd k = true ↔ hasD (bsS S mk (yB S)) (yE S k)))
    (hQ : ∀ h1, dkS h h1 q S mk hd (yK S) → px_Wp sx 246 86 [some (.ref 619), some (.int (nI q)), some (.int (nI (yK (ksS S mk hd (yK S))))), some (.int (nI (yK S)))] [] h1 Q) :
    ∀ n k, k + n = yK S → ∀ h1, dkS h h1 q S mk hd k → px_Wp sx 246 4 [some (.ref 619), some (.int (nI q)), some (.int (nI (yK (ksS S mk hd k)))), some (.int (nI k))] [] h1 Q := by
  have iq : px_in (nI q) 2 = true := px_inb hq (by decide)
  have cq : (nI q).toNatClampNeg = q := nI_clamp (by omega)
  intro n
  induction n with
  | zero =>
    intro k hk h1 w
    have hk : k = yK S := by omega
    subst hk
    have h6' := (w.1.2.2 619 (by omega)).trans h6
    have g1' := (w.1.2.2 629 (by omega)).trans g1
    simp only [pc246_4, pc246_5, pc246_5n, pc246_6, pc246_9, pc246_10, pc246_11, px_op_some, px_kv_ap, px_ki_ap, px_kl_ap, px_kn_ap, px_kh_ap, px_op_none, px_K_some, px_K_none, px_K_thr, px_kill, ↓reduceIte, if_true, if_false, true_and, and_true, px_gf, px_pf, px_ai, px_aj, px_aa, px_wi, px_wj, px_wa, px_an, px_cls, h6', mf_11, g1', g2, iq, cq, tg_i1, if_pos (Int32.le_refl _)]
    exact hQ h1 w
  | succ n ih =>
    intro k hk h1 w
    obtain ⟨fr, sh, ky, kl, y1, y2, o1, o2, o3⟩ := w
    have h6' := (fr.2.2 619 (by omega)).trans h6
    have g1' := (fr.2.2 629 (by omega)).trans g1
    have b1' := (fr.2.2 621 (by omega)).trans b1
    have e1' := (fr.2.2 622 (by omega)).trans e1
    have ck := hc k (by omega)
    have ge : ¬ nI (yK S) ≤ nI k := nI_ge (by omega) (by omega)
    have i20 : px_in (nI (60 * q + k)) 120 = true := px_inb (by omega) (by decide)
    have c20 : (nI (60 * q + k)).toNatClampNeg = 60 * q + k := nI_clamp (by omega)
    have iK : px_in (nI (60 * q + yK (ksS S mk hd k))) 120 = true := px_inb (by omega) (by decide)
    have cK : (nI (60 * q + yK (ksS S mk hd k))).toNatClampNeg = 60 * q + yK (ksS S mk hd k) := nI_clamp (by omega)
    obtain ⟨x1, x2⟩ := o2 k (Nat.le_refl _) (by omega)
    rw [pc246_4]
    simp only [pc246_5, pc246_5n, pc246_6, pc246_9, pc246_10, pc246_11, pc246_14, pc246_14n, pc246_15, pc246_16, pc246_16n, pc246_17, pc246_20, pc246_22, pc246_23, pc246_24, pc246_25, pc246_26, pc246_27, px_op_some, px_kv_ap, px_ki_ap, px_kl_ap, px_kn_ap, px_kh_ap, px_op_none, px_K_some, px_K_none, px_K_thr, px_kill, ↓reduceIte, if_true, if_false, true_and, and_true, px_gf, px_pf, px_ai, px_aj, px_aa, px_wi, px_wj, px_wa, px_an, px_cls, yr_0, yr_1, tr_0, tr_1, tr_2, tr_3, px_rf, of_2, of_4, in_02, in_12, in_04, in_14, in_24, in_34, Nat.reduceLeDiff, in_01, lgc_self, Int32.reduceToNatClampNeg, wr_at, al_at, px_wr_len, px_al_len, px_wr_1, px_al_1, tg_0, tg_1, tg_2, tg_3, tg_12, tg_15, tg_17, tg_18, tg_i1, tg_b0, tg_b3, px_fit, Nat.reduceEqDiff, Nat.reduceLT, Nat.reduceAdd, Option.some.injEq, up_at, px_wr_wr, i32_le, Int32.reduceLE, Int32.reduceLT, mf_len, nar_0, nar_1, px_KH_some, px_KH_none, px_KH_thr, List.length_cons, List.length_nil, List.getElem?_cons_zero, List.getElem?_cons_succ, List.set_cons_zero, List.set_cons_succ, ↓reduceIte, Nat.lt_irrefl, ne_0_1, ne_0_2, ne_0_3, ne_0_4, ne_0_5, ne_1_0, ne_1_2, ne_1_3, ne_1_4, ne_1_5, ne_2_0, ne_2_1, ne_2_3, ne_2_4, ne_2_5, ne_3_0, ne_3_1, ne_3_2, ne_3_4, ne_3_5, ne_4_0, ne_4_1, ne_4_2, ne_4_3, ne_4_5, ne_5_0, ne_5_1, ne_5_2, ne_5_3, ne_5_4, hd_256_12, hd_256_16, hd_257_12, hd_258_12, hd_259_12, hd_260_12, hd_261_12, hd_261_13, hd_261_16, hd_262_12, hd_262_13, hd_262_16, hd_263_12, hd_263_13, hd_264_12, hd_264_13, hd_264_14, hd_265_12, hd_265_13, hd_265_14, hd_266_12, hd_267_12, hd_267_13, hd_267_14, hd_268_12, hd_269_12, hd_269_14, hd_270_12, hd_271_12, hd_272_12, hd_273_12, hd_273_13, hd_273_15, hd_274_12, hd_274_15, hd_275_12, hd_275_15, hd_276_12, nI_p1, nI_p2, nI_p3, nI_p4, nI_p5, not_true_eq_false, not_false_eq_true, and_self, mf_0, mf_1, mf_2, mf_3, mf_4, mf_5, mf_6, mf_7, mf_8, mf_9, mf_10, mf_11, mf_12, mf_13, mf_14, mf_15, mf_16, mf_17, mf_18, mf_19, mf_20, mf_21, mf_22, mf_23, mf_24, mf_25, mf_26, mf_27, mf_28, mf_29, mf_30, mf_31, mf_32, mf_33, mf_34, mf_35, mf_36, mf_37, mf_38, mf_39, mf_40, mf_41, mf_42, mf_43, mf_44, mf_45, mf_46, mf_47, mf_48, mf_49, mf_50, mf_51, mf_52, mf_53, mf_54, mf_55, mf_56, mf_57, mf_58, mf_59, mf_60, mf_61, mfs_0, mfs_2, mfs_17, mfs_20, mfs_26, mfs_32, mfs_34, mfs_36, mfs_38, mfs_43, mfs_44, mfs_45, mfs_46, mfs_47, iy_0, iy_1, iy_2, iy_3, iy_4, iy_5, iy_6, h6', mf_11, mf_13, g1', g2, iq, cq, ge, tg_i1, mul_60 hq, nI_add, y2, i20, c20, x2, tg_2, px_kill]
    refine m_find hq hB b2 h6' b1' e1' (fun v hv => ?_)
    rcases hv with ⟨rfl, hn⟩ | ⟨j, hj, rfl, hp, -⟩
    · have nh : ¬ hd k = true := fun z => by
        obtain ⟨j, j1, j2⟩ := (hh k (by omega)).mp z
        exact hn j j1 ((e2 j j1).trans j2)
      have en : ksS S mk hd (k + 1) = ksS S mk hd k := if_neg nh
      have m1 : ((-1 : Int32) < 0) = True := eq_true (by decide)
      simp only [px_K_some, pc246_30, pc246_80, pc246_83, px_op_some, px_kv_ap, px_ki_ap, px_kl_ap, px_kn_ap, px_kh_ap, px_op_none, px_K_some, px_K_none, px_K_thr, px_kill, ↓reduceIte, if_true, if_false, true_and, and_true, px_gf, px_pf, px_ai, px_aj, px_aa, px_wi, px_wj, px_wa, px_an, px_cls, yr_0, yr_1, tr_0, tr_1, tr_2, tr_3, px_rf, of_2, of_4, in_02, in_12, in_04, in_14, in_24, in_34, Nat.reduceLeDiff, in_01, lgc_self, Int32.reduceToNatClampNeg, wr_at, al_at, px_wr_len, px_al_len, px_wr_1, px_al_1, tg_0, tg_1, tg_2, tg_3, tg_12, tg_15, tg_17, tg_18, tg_i1, tg_b0, tg_b3, px_fit, Nat.reduceEqDiff, Nat.reduceLT, Nat.reduceAdd, Option.some.injEq, up_at, px_wr_wr, i32_le, Int32.reduceLE, Int32.reduceLT, mf_len, nar_0, nar_1, px_KH_some, px_KH_none, px_KH_thr, List.length_cons, List.length_nil, List.getElem?_cons_zero, List.getElem?_cons_succ, List.set_cons_zero, List.set_cons_succ, ↓reduceIte, Nat.lt_irrefl, ne_0_1, ne_0_2, ne_0_3, ne_0_4, ne_0_5, ne_1_0, ne_1_2, ne_1_3, ne_1_4, ne_1_5, ne_2_0, ne_2_1, ne_2_3, ne_2_4, ne_2_5, ne_3_0, ne_3_1, ne_3_2, ne_3_4, ne_3_5, ne_4_0, ne_4_1, ne_4_2, ne_4_3, ne_4_5, ne_5_0, ne_5_1, ne_5_2, ne_5_3, ne_5_4, hd_256_12, hd_256_16, hd_257_12, hd_258_12, hd_259_12, hd_260_12, hd_261_12, hd_261_13, hd_261_16, hd_262_12, hd_262_13, hd_262_16, hd_263_12, hd_263_13, hd_264_12, hd_264_13, hd_264_14, hd_265_12, hd_265_13, hd_265_14, hd_266_12, hd_267_12, hd_267_13, hd_267_14, hd_268_12, hd_269_12, hd_269_14, hd_270_12, hd_271_12, hd_272_12, hd_273_12, hd_273_13, hd_273_15, hd_274_12, hd_274_15, hd_275_12, hd_275_15, hd_276_12, nI_p1, nI_p2, nI_p3, nI_p4, nI_p5, not_true_eq_false, not_false_eq_true, and_self, mf_0, mf_1, mf_2, mf_3, mf_4, mf_5, mf_6, mf_7, mf_8, mf_9, mf_10, mf_11, mf_12, mf_13, mf_14, mf_15, mf_16, mf_17, mf_18, mf_19, mf_20, mf_21, mf_22, mf_23, mf_24, mf_25, mf_26, mf_27, mf_28, mf_29, mf_30, mf_31, mf_32, mf_33, mf_34, mf_35, mf_36, mf_37, mf_38, mf_39, mf_40, mf_41, mf_42, mf_43, mf_44, mf_45, mf_46, mf_47, mf_48, mf_49, mf_50, mf_51, mf_52, mf_53, mf_54, mf_55, mf_56, mf_57, mf_58, mf_59, mf_60, mf_61, mfs_0, mfs_2, mfs_17, mfs_20, mfs_26, mfs_32, mfs_34, mfs_36, mfs_38, mfs_43, mfs_44, mfs_45, mfs_46, mfs_47, iy_0, iy_1, iy_2, iy_3, iy_4, iy_5, iy_6, m1, px_kill, nI_1]
      have ex := ih (k + 1) (by omega) h1
      unfold dkS at ex
      rw [en] at ex
      exact ex ⟨fr, sh, ky, kl, y1, y2, o1, fun j x y => o2 j (by omega) y, o3⟩
    · have ye : hd k = true := (hh k (by omega)).mpr ⟨j, hj, by rw [← hp]; exact (e2 j hj).symm⟩
      have en : ksS S mk hd (k + 1) = yRem (ksS S mk hd k) (yX S k) (yE S k) (yK (ksS S mk hd k) + 1) (px_up (yX (ksS S mk hd k)) (yK (ksS S mk hd k)) (yX S k)) (px_up (yE (ksS S mk hd k)) (yK (ksS S mk hd k)) (yE S k)) := if_pos ye
      have p0 : ¬ nI j < 0 := nI_pos (by omega)
      have l1 : 630 < h1.2.length := (List.getElem?_eq_some_iff.mp y1).1
      have l2 : 631 < h1.2.length := (List.getElem?_eq_some_iff.mp y2).1
      simp only [px_K_some, pc246_30, pc246_33, pc246_33n, pc246_34, pc246_37, pc246_39, pc246_40, pc246_41, pc246_42, pc246_43, pc246_43n, pc246_44, pc246_47, pc246_49, pc246_50, pc246_51, pc246_52, pc246_53, pc246_54, pc246_55, pc246_55n, pc246_56, pc246_59, pc246_61, pc246_62, pc246_63, pc246_64, pc246_65, pc246_65n, pc246_66, pc246_69, pc246_71, pc246_72, pc246_73, pc246_74, pc246_75, pc246_76, pc246_77, pc246_80, pc246_83, px_op_some, px_kv_ap, px_ki_ap, px_kl_ap, px_kn_ap, px_kh_ap, px_op_none, px_K_some, px_K_none, px_K_thr, px_kill, ↓reduceIte, if_true, if_false, true_and, and_true, px_gf, px_pf, px_ai, px_aj, px_aa, px_wi, px_wj, px_wa, px_an, px_cls, yr_0, yr_1, tr_0, tr_1, tr_2, tr_3, px_rf, of_2, of_4, in_02, in_12, in_04, in_14, in_24, in_34, Nat.reduceLeDiff, in_01, lgc_self, Int32.reduceToNatClampNeg, wr_at, al_at, px_wr_len, px_al_len, px_wr_1, px_al_1, tg_0, tg_1, tg_2, tg_3, tg_12, tg_15, tg_17, tg_18, tg_i1, tg_b0, tg_b3, px_fit, Nat.reduceEqDiff, Nat.reduceLT, Nat.reduceAdd, Option.some.injEq, up_at, px_wr_wr, i32_le, Int32.reduceLE, Int32.reduceLT, mf_len, nar_0, nar_1, px_KH_some, px_KH_none, px_KH_thr, List.length_cons, List.length_nil, List.getElem?_cons_zero, List.getElem?_cons_succ, List.set_cons_zero, List.set_cons_succ, ↓reduceIte, Nat.lt_irrefl, ne_0_1, ne_0_2, ne_0_3, ne_0_4, ne_0_5, ne_1_0, ne_1_2, ne_1_3, ne_1_4, ne_1_5, ne_2_0, ne_2_1, ne_2_3, ne_2_4, ne_2_5, ne_3_0, ne_3_1, ne_3_2, ne_3_4, ne_3_5, ne_4_0, ne_4_1, ne_4_2, ne_4_3, ne_4_5, ne_5_0, ne_5_1, ne_5_2, ne_5_3, ne_5_4, hd_256_12, hd_256_16, hd_257_12, hd_258_12, hd_259_12, hd_260_12, hd_261_12, hd_261_13, hd_261_16, hd_262_12, hd_262_13, hd_262_16, hd_263_12, hd_263_13, hd_264_12, hd_264_13, hd_264_14, hd_265_12, hd_265_13, hd_265_14, hd_266_12, hd_267_12, hd_267_13, hd_267_14, hd_268_12, hd_269_12, hd_269_14, hd_270_12, hd_271_12, hd_272_12, hd_273_12, hd_273_13, hd_273_15, hd_274_12, hd_274_15, hd_275_12, hd_275_15, hd_276_12, nI_p1, nI_p2, nI_p3, nI_p4, nI_p5, not_true_eq_false, not_false_eq_true, and_self, mf_0, mf_1, mf_2, mf_3, mf_4, mf_5, mf_6, mf_7, mf_8, mf_9, mf_10, mf_11, mf_12, mf_13, mf_14, mf_15, mf_16, mf_17, mf_18, mf_19, mf_20, mf_21, mf_22, mf_23, mf_24, mf_25, mf_26, mf_27, mf_28, mf_29, mf_30, mf_31, mf_32, mf_33, mf_34, mf_35, mf_36, mf_37, mf_38, mf_39, mf_40, mf_41, mf_42, mf_43, mf_44, mf_45, mf_46, mf_47, mf_48, mf_49, mf_50, mf_51, mf_52, mf_53, mf_54, mf_55, mf_56, mf_57, mf_58, mf_59, mf_60, mf_61, mfs_0, mfs_2, mfs_17, mfs_20, mfs_26, mfs_32, mfs_34, mfs_36, mfs_38, mfs_43, mfs_44, mfs_45, mfs_46, mfs_47, iy_0, iy_1, iy_2, iy_3, iy_4, iy_5, iy_6, p0, px_kill, nI_1, h6', mf_12, mf_13, mul_60 hq, nI_add, y1, y2, i20, c20, iK, cK, x1, x2, tg_2]
      have ex := ih (k + 1) (by omega) (px_wr (px_wr h1 630 (.inr (2, 120, .inr (.inl (px_up ky (60 * q + yK (ksS S mk hd k)) (yX S k)))))) 631 (.inr (2, 120, .inr (.inl (px_up kl (60 * q + yK (ksS S mk hd k)) (yE S k))))))
      unfold dkS at ex
      rw [en] at ex
      refine ex ⟨frm_wr (frm_wr fr (.inl rfl)) (.inr rfl), shape_la (shape_la sh y1) (r := 631) (f := kl) (by rw [wr_at, if_neg (by decide)]; exact y2), px_up ky (60 * q + yK (ksS S mk hd k)) (yX S k), px_up kl (60 * q + yK (ksS S mk hd k)) (yE S k), by rw [wr_at, if_neg (by decide), wr_at, if_pos rfl, if_pos l1], by rw [wr_at, if_pos rfl, if_pos (by rw [px_wr_len]; exact l2)], fun j hj => ?_, fun j x y => ?_, fun i hi => ?_⟩
      · have hj' : j < yK (ksS S mk hd k) + 1 := hj
        show px_up ky (60 * q + yK (ksS S mk hd k)) (yX S k) (60 * q + j) = px_up (yX (ksS S mk hd k)) (yK (ksS S mk hd k)) (yX S k) j ∧ px_up kl (60 * q + yK (ksS S mk hd k)) (yE S k) (60 * q + j) = px_up (yE (ksS S mk hd k)) (yK (ksS S mk hd k)) (yE S k) j
        by_cases e : j = yK (ksS S mk hd k)
        · subst e; simp only [up_same, and_self]
        · rw [up_ne (by omega), up_ne e, up_ne (by omega), up_ne e]; exact o1 j (by omega)
      · rw [up_ne (by omega), up_ne (by omega)]; exact o2 j (by omega) y
      · rw [up_ne (by omega), up_ne (by omega)]; exact o3 i hi
/-- the yard when keys are dropped too -/
def mixC (S : yS) (mk hd : Nat → Bool) : yS := ((yR (bsS S mk (yB S)), yJ (bsS S mk (yB S)), yC S), (bsS S mk (yB S)).2.1, (ksS S mk hd (yK S)).2.2.1, S.2.2.2)
set_option maxRecDepth 16384 in
theorem m_dropKeys (hS : shape h) (h6 : h.2[619]? = some (.inl (11, modF V))) (hq : q < 2) (g : goodC S) (bk : blk S) (hcs : cst S ≤ yR S) (hm : mkOK S mk) (hh : ∀ k, k < yK S → (hd k = true ↔ hasD (bsS S mk (yB S)) (yE S k))) (rb : RYb h q (mixB S mk))
    (hQ : ∀ h', RYb h' q (mixC S mk hd) → othB h h' q → frm (fun r => 629 ≤ r ∧ r ≤ 631) h h' → shape h' → Q (.inl none) h') :
    px_Wp sx 246 0 [some (.ref 619), some (.int (nI q)), none, none] [] h Q := by
  have iq : px_in (nI q) 2 = true := px_inb hq (by decide)
  have cq : (nI q).toNatClampNeg = q := nI_clamp (by omega)
  have hK := g.1.2.2.2.1
  have hB : yB (bsS S mk (yB S)) ≤ 60 := (rch_good (bs_all (mk := mk) g bk hcs (yB S) (Nat.le_refl _)).1).1.2.2.1
  have hc : ∀ k, k ≤ yK S → yK (ksS S mk hd k) ≤ k := fun k hk => by rw [(ks_all (hd := hd) g bk hcs hm k hk).2.2.2.1]; exact cnT_le k
  have k00 : yK (ksS S mk hd 0) = 0 := by have := hc 0 (by omega); omega
  obtain ⟨⟨bl, b1, b2⟩, ⟨D, e1, e2⟩, fF, ⟨kk, g1, g2⟩, ⟨ky, h1, h2⟩, ⟨kl, i1, i2⟩, ⟨G, j1, j2⟩, T, k1, k2⟩ := rb
  simp only [pc246_0, pc246_1, pc246_2, pc246_3, px_kill]
  have ex := m_dk_l (sx := sx) (Q := Q) (hd := hd) (h := h) (V := V) hq hK hB h6 b1 b2 e1 e2 g1 g2 hc hh (fun h3 w => ?_) (yK S) 0 (by omega) h ⟨frm_refl _ _, hS, ky, kl, h1, i1, fun j hj => by rw [k00] at hj; exact absurd hj (Nat.not_lt_zero j), fun j _ hj => ⟨h2 j hj, i2 j hj⟩, fun i _ => by rw [lA_of h1, lA_of i1]; exact ⟨rfl, rfl⟩⟩
  · rw [k00] at ex
    exact ex
  obtain ⟨fr, sh, ky', kl', y1, y2, o1, -, o3⟩ := w
  rw [lA_of h1, lA_of i1] at o3
  have h6' := (fr.2.2 619 (by omega)).trans h6
  have g1' := (fr.2.2 629 (by omega)).trans g1
  have n1 : ∀ x : Int32, px_nar 1 x = x := fun _ => rfl
  simp only [pc246_86, pc246_86n, pc246_87, pc246_90, pc246_91, pc246_92, pc246_93, px_op_some, px_kv_ap, px_ki_ap, px_kl_ap, px_kn_ap, px_kh_ap, px_op_none, px_K_some, px_K_none, px_K_thr, px_kill, ↓reduceIte, if_true, if_false, true_and, and_true, px_gf, px_pf, px_ai, px_aj, px_aa, px_wi, px_wj, px_wa, px_an, px_cls, h6', mf_11, g1', iq, cq, tg_i1, n1]
  have hl : 629 < h3.2.length := (List.getElem?_eq_some_iff.mp g1').1
  have ne : ∀ {r : Nat} {x : px_C}, h3.2[r]? = some x → r ≠ 629 → (px_wr h3 629 (.inr (1, 2, .inl (px_up kk q (nI (yK (ksS S mk hd (yK S)))))))).2[r]? = some x := fun e a => by rw [wr_at, if_neg (fun x => a x.symm)]; exact e
  have nh : ∀ {r : Nat} {x : px_C}, h.2[r]? = some x → ¬ (629 ≤ r ∧ r ≤ 631) → (px_wr h3 629 (.inr (1, 2, .inl (px_up kk q (nI (yK (ksS S mk hd (yK S)))))))).2[r]? = some x := fun e a => ne ((fr.2.2 _ (by omega)).trans e) (by omega)
  have n9 : (px_wr h3 629 (.inr (1, 2, .inl (px_up kk q (nI (yK (ksS S mk hd (yK S)))))))).2[629]? = some (.inr (1, 2, .inl (px_up kk q (nI (yK (ksS S mk hd (yK S))))))) := by rw [wr_at, if_pos rfl, if_pos hl]
  obtain ⟨frr, sz, bt, us, U, f1, f2, f3, f4, f5⟩ := fF
  refine hQ _ ⟨⟨bl, nh b1 (by decide), b2⟩, ⟨D, nh e1 (by decide), e2⟩, ⟨frr, sz, bt, us, U, nh f1 (by decide), nh f2 (by decide), nh f3 (by decide), nh f4 (by decide), f5⟩, ⟨_, n9, up_same _ _ _⟩, ⟨ky', ne y1 (by decide), fun j hj => (o1 j hj).1⟩, ⟨kl', ne y2 (by decide), fun j hj => (o1 j hj).2⟩, ⟨G, nh j1 (by decide), j2⟩, T, nh k1 (by decide), k2⟩ (fun q2 S2 hq2 hne w2 c9 => ?_) (frm_wr (frm_mono fr (fun r x => by omega)) (by omega)) (shape_ia sh g1')
  obtain ⟨⟨bl', d1', d2'⟩, ⟨D', e1', e2'⟩, ⟨fr', sz', by', us', U', f1', f2', f3', f4', f5'⟩, ⟨kk', g1'', g2'⟩, ⟨ky0, h1', h2'⟩, ⟨kl0, i1', i2'⟩, ⟨G', j1', j2'⟩, T', k1', k2'⟩ := c9
  cases g1.symm.trans g1''
  cases h1.symm.trans h1'
  cases i1.symm.trans i1'
  have r4 := w2.2.2.2.1
  exact ⟨⟨bl', nh d1' (by decide), d2'⟩, ⟨D', nh e1' (by decide), e2'⟩, ⟨fr', sz', by', us', U', nh f1' (by decide), nh f2' (by decide), nh f3' (by decide), nh f4' (by decide), f5'⟩, ⟨_, n9, by rw [up_ne hne]; exact g2'⟩, ⟨ky', ne y1 (by decide), fun k hk => by rw [(o3 _ (by omega)).1]; exact h2' k hk⟩, ⟨kl', ne y2 (by decide), fun k hk => by rw [(o3 _ (by omega)).2]; exact i2' k hk⟩, ⟨G', nh j1' (by decide), j2'⟩, T', nh k1' (by decide), k2'⟩
end DKEYS
