/-! COLLECT: the class's sweep, the keys; the whole -/
section SWEEP3
variable {sx : Nat × (Nat → Int32)} {h h0 : px_H} {Y : Nat} {S : yS} {mk hd : Nat → Bool} {Q : px_O → px_H → Prop}
/-- the state while keys are written -/
def mixK (S : yS) (mk hd : Nat → Bool) (k : Nat) : yS := ((yR (ksS S mk hd k), yJ (ksS S mk hd k), yC S), (bsS S mk (yB S)).2.1, (ksS S mk hd k).2.2.1, S.2.2.2)
def kys (h0 h : px_H) (Y : Nat) (S : yS) (mk hd : Nat → Bool) (k : Nat) : Prop := CY h Y (mixK S mk hd k) ∧ (∃ ky kl, h.2[Y + 7]? = some (.inr (2, 60, .inr (.inl ky))) ∧ h.2[Y + 8]? = some (.inr (2, 60, .inr (.inl kl))) ∧ ∀ j, k ≤ j → j < yK S → ky j = yX S j ∧ kl j = yE S j) ∧ frm (cyA Y) h0 h ∧ (shape h0 → shape h)
set_option maxRecDepth 16384 in
theorem CYb_congr {S' : yS} {s : Int32} (c : CYb h Y s S) (e1 : S'.2.1 = S.2.1) (e2 : S'.2.2.1 = S.2.2.1) (e3 : ∀ j, j < 8 → yT S' j = yT S j ∧ (yT S j = true → yG S' j = yG S j)) : CYb h Y s S' := by
  obtain ⟨b, ⟨D, c1, c2⟩, ⟨st, d1, d2⟩, ⟨ln, l1, l2⟩, m, ⟨ky, g1, g2⟩, ⟨kl, h1, h2⟩, ⟨G, i1, i2⟩, T, j1, j2⟩ := c
  have eB : yB S' = yB S := by show S'.2.1.1 = S.2.1.1; rw [e1]
  have eD : yD S' = yD S := by show S'.2.1.2.1 = S.2.1.2.1; rw [e1]
  have eP : yP S' = yP S := by show S'.2.1.2.2.1 = S.2.1.2.2.1; rw [e1]
  have eL : yL S' = yL S := by show S'.2.1.2.2.2 = S.2.1.2.2.2; rw [e1]
  have eK : yK S' = yK S := by show S'.2.2.1.1 = S.2.2.1.1; rw [e2]
  have eX : yX S' = yX S := by show S'.2.2.1.2.1 = S.2.2.1.2.1; rw [e2]
  have eE : yE S' = yE S := by show S'.2.2.1.2.2 = S.2.2.1.2.2; rw [e2]
  exact ⟨by rw [eB, eK]; exact b, ⟨D, c1, by rw [eB, eD]; exact c2⟩, ⟨st, d1, by rw [eB, eP]; exact d2⟩, ⟨ln, l1, by rw [eB, eL]; exact l2⟩, m, ⟨ky, g1, by rw [eK, eX]; exact g2⟩, ⟨kl, h1, by rw [eK, eE]; exact h2⟩, ⟨G, i1, fun j hj t => by rw [(e3 j hj).1] at t; rw [(e3 j hj).2 t]; exact i2 j hj t⟩, T, j1, fun j hj => by rw [(e3 j hj).1]; exact j2 j hj⟩
set_option maxRecDepth 16384 in
theorem c_swk_l {l1 : Int32} (g : goodC S) (bk : blk S) (hc : cst S ≤ yR S) (hm : mkOK S mk) (hh : ∀ k, k < yK S → (hd k = true ↔ hasD (bsS S mk (yB S)) (yE S k)))
    (hQ : ∀ h', kys h0 h' Y S mk hd (yK S) → px_Wp sx 109 134 [some (.ref Y), some (.int l1), some (.int (nI (yK S))), some (.int (nI (yK S)))] [] h' Q) :
    ∀ n k, k + n = yK S → ∀ h', kys h0 h' Y S mk hd k → px_Wp sx 109 92 [some (.ref Y), some (.int l1), some (.int (nI (yK S))), some (.int (nI k))] [] h' Q := by
  have h60 := g.1.2.2.2.1
  intro n
  induction n with
  | zero =>
    intro k hk h' w
    have hk : k = yK S := by omega
    subst hk
    simp only [pc109_92, pc109_93, pc109_94, if_pos (Int32.le_refl _)]
    exact hQ h' w
  | succ n ih =>
    intro k hk h' w
    obtain ⟨c, ⟨ky, kl, y7, y8, yo⟩, fr, sh⟩ := w
    have c' := c
    obtain ⟨⟨f, a1, a2⟩, cb⟩ := CY_b.mp c
    have cb' := cb
    obtain ⟨b, ⟨D, d1, d2⟩, -, -, -, ⟨ky0, g1, g2⟩, ⟨kl0, h1, h2⟩, -⟩ := cb
    cases y7.symm.trans g1
    cases y8.symm.trans h1
    obtain ⟨K1, K2, K3, K4, K5, K6, K7⟩ := ks_all (hd := hd) g bk hc hm k (by omega)
    have hB : yB (bsS S mk (yB S)) ≤ 60 := (rch_good (bs_all (mk := mk) g bk hc (yB S) (Nat.le_refl _)).1).1.2.2.1
    have cl := cnT_le (T := hd) k
    have b' := b
    unfold yrdF at b'
    have ge : ¬ nI (yK S) ≤ nI k := nI_ge (by omega) (by omega)
    have ii : px_in (nI k) 60 = true := px_inb (by omega) (by decide)
    have ci : (nI k).toNatClampNeg = k := nI_clamp (by omega)
    obtain ⟨o1, o2⟩ := yo k (Nat.le_refl _) (by omega)
    rw [pc109_92]
    simp only [pc109_93, pc109_94, pc109_97, pc109_97n, pc109_98, pc109_98n, pc109_99, pc109_102, pc109_103, pc109_104, px_op_some, px_kv_ap, px_ki_ap, px_kl_ap, px_kn_ap, px_kh_ap, px_op_none, px_K_some, px_K_none, px_K_thr, px_kill, ↓reduceIte, if_true, if_false, true_and, and_true, px_gf, px_pf, px_ai, px_aj, px_aa, px_wi, px_wj, px_wa, px_an, px_cls, yr_0, yr_1, tr_0, tr_1, tr_2, tr_3, px_rf, of_2, of_4, in_02, in_12, in_04, in_14, in_24, in_34, Nat.reduceLeDiff, in_01, lgc_self, Int32.reduceToNatClampNeg, wr_at, al_at, px_wr_len, px_al_len, px_wr_1, px_al_1, tg_0, tg_1, tg_2, tg_3, tg_12, tg_15, tg_17, tg_18, tg_i1, tg_b0, tg_b3, px_fit, Nat.reduceEqDiff, Nat.reduceLT, Nat.reduceAdd, Option.some.injEq, up_at, px_wr_wr, i32_le, Int32.reduceLE, Int32.reduceLT, mf_len, nar_0, nar_1, px_KH_some, px_KH_none, px_KH_thr, List.length_cons, List.length_nil, List.getElem?_cons_zero, List.getElem?_cons_succ, List.set_cons_zero, List.set_cons_succ, ↓reduceIte, Nat.lt_irrefl, ne_0_1, ne_0_2, ne_0_3, ne_0_4, ne_0_5, ne_1_0, ne_1_2, ne_1_3, ne_1_4, ne_1_5, ne_2_0, ne_2_1, ne_2_3, ne_2_4, ne_2_5, ne_3_0, ne_3_1, ne_3_2, ne_3_4, ne_3_5, ne_4_0, ne_4_1, ne_4_2, ne_4_3, ne_4_5, ne_5_0, ne_5_1, ne_5_2, ne_5_3, ne_5_4, hd_256_12, hd_256_16, hd_257_12, hd_258_12, hd_259_12, hd_260_12, hd_261_12, hd_261_13, hd_261_16, hd_262_12, hd_262_13, hd_262_16, hd_263_12, hd_263_13, hd_264_12, hd_264_13, hd_264_14, hd_265_12, hd_265_13, hd_265_14, hd_266_12, hd_267_12, hd_267_13, hd_267_14, hd_268_12, hd_269_12, hd_269_14, hd_270_12, hd_271_12, hd_272_12, hd_273_12, hd_273_13, hd_273_15, hd_274_12, hd_274_15, hd_275_12, hd_275_15, hd_276_12, nI_p1, nI_p2, nI_p3, nI_p4, nI_p5, not_true_eq_false, not_false_eq_true, and_self, mf_0, mf_1, mf_2, mf_3, mf_4, mf_5, mf_6, mf_7, mf_8, mf_9, mf_10, mf_11, mf_12, mf_13, mf_14, mf_15, mf_16, mf_17, mf_18, mf_19, mf_20, mf_21, mf_22, mf_23, mf_24, mf_25, mf_26, mf_27, mf_28, mf_29, mf_30, mf_31, mf_32, mf_33, mf_34, mf_35, mf_36, mf_37, mf_38, mf_39, mf_40, mf_41, mf_42, mf_43, mf_44, mf_45, mf_46, mf_47, mf_48, mf_49, mf_50, mf_51, mf_52, mf_53, mf_54, mf_55, mf_56, mf_57, mf_58, mf_59, mf_60, mf_61, mfs_0, mfs_2, mfs_17, mfs_20, mfs_26, mfs_32, mfs_34, mfs_36, mfs_38, mfs_43, mfs_44, mfs_45, mfs_46, mfs_47, iy_0, iy_1, iy_2, iy_3, iy_4, iy_5, iy_6, ge, ii, ci, b', h1, o2, tg_2, px_kill]
    refine c_find hB b d1 (fun v hv => ?_)
    rcases hv with ⟨rfl, hn⟩ | ⟨j, hj, rfl, hp, -⟩
    · have nh : ¬ hd k = true := fun z => by
        obtain ⟨j, j1, j2⟩ := (hh k (by omega)).mp z
        exact hn j j1 ((d2 j j1).trans j2)
      simp only [px_K_some, pc109_107, pc109_108, pc109_111, pc109_111n, pc109_112, pc109_112n, pc109_113, pc109_116, pc109_117, pc109_118, pc109_118n, pc109_119, pc109_122, pc109_123, pc109_124, pc109_127, pc109_127r, pc109_128, pc109_131, px_op_some, px_kv_ap, px_ki_ap, px_kl_ap, px_kn_ap, px_kh_ap, px_op_none, px_K_some, px_K_none, px_K_thr, px_kill, ↓reduceIte, if_true, if_false, true_and, and_true, px_gf, px_pf, px_ai, px_aj, px_aa, px_wi, px_wj, px_wa, px_an, px_cls, yr_0, yr_1, tr_0, tr_1, tr_2, tr_3, px_rf, of_2, of_4, in_02, in_12, in_04, in_14, in_24, in_34, Nat.reduceLeDiff, in_01, lgc_self, Int32.reduceToNatClampNeg, wr_at, al_at, px_wr_len, px_al_len, px_wr_1, px_al_1, tg_0, tg_1, tg_2, tg_3, tg_12, tg_15, tg_17, tg_18, tg_i1, tg_b0, tg_b3, px_fit, Nat.reduceEqDiff, Nat.reduceLT, Nat.reduceAdd, Option.some.injEq, up_at, px_wr_wr, i32_le, Int32.reduceLE, Int32.reduceLT, mf_len, nar_0, nar_1, px_KH_some, px_KH_none, px_KH_thr, List.length_cons, List.length_nil, List.getElem?_cons_zero, List.getElem?_cons_succ, List.set_cons_zero, List.set_cons_succ, ↓reduceIte, Nat.lt_irrefl, ne_0_1, ne_0_2, ne_0_3, ne_0_4, ne_0_5, ne_1_0, ne_1_2, ne_1_3, ne_1_4, ne_1_5, ne_2_0, ne_2_1, ne_2_3, ne_2_4, ne_2_5, ne_3_0, ne_3_1, ne_3_2, ne_3_4, ne_3_5, ne_4_0, ne_4_1, ne_4_2, ne_4_3, ne_4_5, ne_5_0, ne_5_1, ne_5_2, ne_5_3, ne_5_4, hd_256_12, hd_256_16, hd_257_12, hd_258_12, hd_259_12, hd_260_12, hd_261_12, hd_261_13, hd_261_16, hd_262_12, hd_262_13, hd_262_16, hd_263_12, hd_263_13, hd_264_12, hd_264_13, hd_264_14, hd_265_12, hd_265_13, hd_265_14, hd_266_12, hd_267_12, hd_267_13, hd_267_14, hd_268_12, hd_269_12, hd_269_14, hd_270_12, hd_271_12, hd_272_12, hd_273_12, hd_273_13, hd_273_15, hd_274_12, hd_274_15, hd_275_12, hd_275_15, hd_276_12, nI_p1, nI_p2, nI_p3, nI_p4, nI_p5, not_true_eq_false, not_false_eq_true, and_self, mf_0, mf_1, mf_2, mf_3, mf_4, mf_5, mf_6, mf_7, mf_8, mf_9, mf_10, mf_11, mf_12, mf_13, mf_14, mf_15, mf_16, mf_17, mf_18, mf_19, mf_20, mf_21, mf_22, mf_23, mf_24, mf_25, mf_26, mf_27, mf_28, mf_29, mf_30, mf_31, mf_32, mf_33, mf_34, mf_35, mf_36, mf_37, mf_38, mf_39, mf_40, mf_41, mf_42, mf_43, mf_44, mf_45, mf_46, mf_47, mf_48, mf_49, mf_50, mf_51, mf_52, mf_53, mf_54, mf_55, mf_56, mf_57, mf_58, mf_59, mf_60, mf_61, mfs_0, mfs_2, mfs_17, mfs_20, mfs_26, mfs_32, mfs_34, mfs_36, mfs_38, mfs_43, mfs_44, mfs_45, mfs_46, mfs_47, iy_0, iy_1, iy_2, iy_3, iy_4, iy_5, iy_6, px_kill, nI_1]
      refine ih (k + 1) (by omega) h' ?_
      have en : ksS S mk hd (k + 1) = ksS S mk hd k := if_neg nh
      unfold kys mixK at *
      rw [en]
      exact ⟨c', ⟨ky, kl, y7, y8, fun j x y => yo j (by omega) y⟩, fr, sh⟩
    · have ye : hd k = true := (hh k (by omega)).mpr ⟨j, hj, by rw [← hp]; exact (d2 j hj).symm⟩
      have en : ksS S mk hd (k + 1) = yRem (ksS S mk hd k) (yX S k) (yE S k) (yK (ksS S mk hd k) + 1) (px_up (yX (ksS S mk hd k)) (yK (ksS S mk hd k)) (yX S k)) (px_up (yE (ksS S mk hd k)) (yK (ksS S mk hd k)) (yE S k)) := if_pos ye
      have p0 : ¬ nI j < 0 := nI_pos (by omega)
      have nj : (nI j = -1) = False := eq_false (fun w => p0 (by rw [w]; decide))
      simp only [px_K_some, pc109_107, pc109_108, pc109_111, pc109_111n, pc109_112, pc109_112n, pc109_113, pc109_116, pc109_117, pc109_118, pc109_118n, pc109_119, pc109_122, pc109_123, pc109_124, px_op_some, px_kv_ap, px_ki_ap, px_kl_ap, px_kn_ap, px_kh_ap, px_op_none, px_K_some, px_K_none, px_K_thr, px_kill, ↓reduceIte, if_true, if_false, true_and, and_true, px_gf, px_pf, px_ai, px_aj, px_aa, px_wi, px_wj, px_wa, px_an, px_cls, yr_0, yr_1, tr_0, tr_1, tr_2, tr_3, px_rf, of_2, of_4, in_02, in_12, in_04, in_14, in_24, in_34, Nat.reduceLeDiff, in_01, lgc_self, Int32.reduceToNatClampNeg, wr_at, al_at, px_wr_len, px_al_len, px_wr_1, px_al_1, tg_0, tg_1, tg_2, tg_3, tg_12, tg_15, tg_17, tg_18, tg_i1, tg_b0, tg_b3, px_fit, Nat.reduceEqDiff, Nat.reduceLT, Nat.reduceAdd, Option.some.injEq, up_at, px_wr_wr, i32_le, Int32.reduceLE, Int32.reduceLT, mf_len, nar_0, nar_1, px_KH_some, px_KH_none, px_KH_thr, List.length_cons, List.length_nil, List.getElem?_cons_zero, List.getElem?_cons_succ, List.set_cons_zero, List.set_cons_succ, ↓reduceIte, Nat.lt_irrefl, ne_0_1, ne_0_2, ne_0_3, ne_0_4, ne_0_5, ne_1_0, ne_1_2, ne_1_3, ne_1_4, ne_1_5, ne_2_0, ne_2_1, ne_2_3, ne_2_4, ne_2_5, ne_3_0, ne_3_1, ne_3_2, ne_3_4, ne_3_5, ne_4_0, ne_4_1, ne_4_2, ne_4_3, ne_4_5, ne_5_0, ne_5_1, ne_5_2, ne_5_3, ne_5_4, hd_256_12, hd_256_16, hd_257_12, hd_258_12, hd_259_12, hd_260_12, hd_261_12, hd_261_13, hd_261_16, hd_262_12, hd_262_13, hd_262_16, hd_263_12, hd_263_13, hd_264_12, hd_264_13, hd_264_14, hd_265_12, hd_265_13, hd_265_14, hd_266_12, hd_267_12, hd_267_13, hd_267_14, hd_268_12, hd_269_12, hd_269_14, hd_270_12, hd_271_12, hd_272_12, hd_273_12, hd_273_13, hd_273_15, hd_274_12, hd_274_15, hd_275_12, hd_275_15, hd_276_12, nI_p1, nI_p2, nI_p3, nI_p4, nI_p5, not_true_eq_false, not_false_eq_true, and_self, mf_0, mf_1, mf_2, mf_3, mf_4, mf_5, mf_6, mf_7, mf_8, mf_9, mf_10, mf_11, mf_12, mf_13, mf_14, mf_15, mf_16, mf_17, mf_18, mf_19, mf_20, mf_21, mf_22, mf_23, mf_24, mf_25, mf_26, mf_27, mf_28, mf_29, mf_30, mf_31, mf_32, mf_33, mf_34, mf_35, mf_36, mf_37, mf_38, mf_39, mf_40, mf_41, mf_42, mf_43, mf_44, mf_45, mf_46, mf_47, mf_48, mf_49, mf_50, mf_51, mf_52, mf_53, mf_54, mf_55, mf_56, mf_57, mf_58, mf_59, mf_60, mf_61, mfs_0, mfs_2, mfs_17, mfs_20, mfs_26, mfs_32, mfs_34, mfs_36, mfs_38, mfs_43, mfs_44, mfs_45, mfs_46, mfs_47, iy_0, iy_1, iy_2, iy_3, iy_4, iy_5, iy_6, px_kill, nj, b', g1, h1, ii, ci, o1, o2, tg_2]
      have room : yR (ksS S mk hd k) + 22 ≤ 40000 := by
        have hcs : sumL (yL S) (yB S) + 15 * cntT (yT S) 8 + 22 * yK S = cst S := rfl
        have := g.1.1
        omega
      have ek : yK (mixK S mk hd k) = yK (ksS S mk hd k) := rfl
      have ex : yX (mixK S mk hd k) = yX (ksS S mk hd k) := rfl
      have ee : yE (mixK S mk hd k) = yE (ksS S mk hd k) := rfl
      have new : ∀ j, j < yK (ksS S mk hd k) → ¬ ky j = yX S k := fun j hj e => by
        obtain ⟨j', b1, b2⟩ := K6 j hj
        have e2 := (g2 j hj).symm.trans e
        rw [ex, b2] at e2
        have := g.2.1 j' k (by omega) (by omega) e2
        omega
      refine c_remember (K := yK (ksS S mk hd k)) (R := yR (ksS S mk hd k)) a1 b g1 h1 (by omega) (fun j hj e => absurd e (new j hj)) (fun z => ?_) (fun _ f' u => ⟨fun j hj e => absurd e (new j hj), fun _ hK => ?_⟩)
      · rcases z with ⟨-, z⟩ | ⟨z, -⟩
        · exact absurd z (by omega)
        · exact absurd z (by omega)
      have ne1 : ∀ {r : Nat}, r ≠ Y + 1 → r ≠ Y + 2 → (rowH h' (Y + 1) 40000 (yR (ksS S mk hd k) + 22) f').2[r]? = h'.2[r]? := fun x y => by unfold rowH; rw [wr_at, if_neg (fun q => x q.symm), wr_at, if_neg (fun q => y q.symm)]
      have cb1 := CYb_frm (h' := rowH h' (Y + 1) 40000 (yR (ksS S mk hd k) + 22) f') cb' (fun r hr => ne1 (by omega) (by omega))
      have hx : ∀ j, j < yK (ksS S mk hd k) + 1 → px_up ky (yK (ksS S mk hd k)) (yX S k) j = yX (ksS S mk hd (k + 1)) j := fun j hj => by
        rw [en]
        show _ = px_up (yX (ksS S mk hd k)) (yK (ksS S mk hd k)) (yX S k) j
        by_cases e : j = yK (ksS S mk hd k)
        · rw [e, up_same, up_same]
        · rw [up_ne e, up_ne e]; exact g2 j (by show j < yK (ksS S mk hd k); omega)
      have he : ∀ j, j < yK (ksS S mk hd k) + 1 → px_up kl (yK (ksS S mk hd k)) (yE S k) j = yE (ksS S mk hd (k + 1)) j := fun j hj => by
        rw [en]
        show _ = px_up (yE (ksS S mk hd k)) (yK (ksS S mk hd k)) (yE S k) j
        by_cases e : j = yK (ksS S mk hd k)
        · rw [e, up_same, up_same]
        · rw [up_ne e, up_ne e]; exact h2 j (by show j < yK (ksS S mk hd k); omega)
      obtain ⟨x1, x2, x3⟩ := cb_key (K := yK (ksS S mk hd k) + 1) (ky := px_up ky (yK (ksS S mk hd k)) (yX S k)) (kl := px_up kl (yK (ksS S mk hd k)) (yE S k)) (S' := mixK S mk hd (k + 1)) cb1 rfl rfl (by unfold mixK; rw [en]; rfl) hx he
      · simp only [px_K_some, pc109_127, pc109_127r, pc109_128, pc109_131, px_op_some, px_kv_ap, px_ki_ap, px_kl_ap, px_kn_ap, px_kh_ap, px_op_none, px_K_some, px_K_none, px_K_thr, px_kill, ↓reduceIte, if_true, if_false, true_and, and_true, px_kill, nI_1]
        have hl : Y + 2 < h'.2.length := rowAt_lt a1
        have l8 : Y + 8 < h'.2.length := (List.getElem?_eq_some_iff.mp h1).1
        refine ih (k + 1) (by omega) _ ⟨CY_b.mpr ⟨⟨f', ⟨?_, ?_, by unfold mixK; rw [en]; show yR (ksS S mk hd k) + 22 ≤ _; omega, Nat.le_refl _⟩, ?_⟩, x1⟩, ⟨px_up ky (yK (ksS S mk hd k)) (yX S k), px_up kl (yK (ksS S mk hd k)) (yE S k), ?_, ?_, fun j x y => ?_⟩, frm_trans fr (frm_trans ?_ (frm_mono x2 (fun r x => by unfold cbA at x; unfold cyA; omega))), fun s => x3 (shape_row (sh s) a1)⟩
        · rw [keyH_at (by omega) (by omega) (by omega)]; unfold rowH; rw [wr_at, if_pos rfl, if_pos (by rw [px_wr_len]; omega)]; unfold mixK; rw [en]; rfl
        · rw [keyH_at (by omega) (by omega) (by omega)]; unfold rowH; rw [wr_at, if_neg (by omega), wr_at, if_pos rfl, if_pos (by omega)]
        · have := wrote_J (S := mixK S mk hd k) a2 u
          intro j hj
          unfold mixK at hj ⊢
          rw [en] at hj ⊢
          exact this j hj
        · unfold keyH; rw [wr_at, if_neg (by omega), wr_at, if_neg (by omega), wr_at, if_pos rfl, if_pos (by unfold rowH; simp only [px_wr_len]; omega)]
        · unfold keyH; rw [wr_at, if_neg (by omega), wr_at, if_pos rfl, if_pos (by unfold rowH; simp only [px_wr_len]; omega)]
        · rw [up_ne (by omega), up_ne (by omega)]; exact yo j (by omega) y
        · unfold rowH
          exact frm_wr (frm_wr (frm_refl _ _) ⟨by omega, by omega⟩) ⟨by omega, by omega⟩
/-- what is left when all is swept -/
def finS (S : yS) (mk hd : Nat → Bool) : yS := sC (ksS S mk hd (yK S)) (yR (ksS S mk hd (yK S)))
set_option maxRecDepth 16384 in
theorem c_sweep {m6 : Nat → Int32} (g : goodC S) (bk : blk S) (hc : cst S ≤ yR S) (hm : mkOK S mk) (hh : ∀ k, k < yK S → (hd k = true ↔ hasD (bsS S mk (yB S)) (yE S k)))
    (cy : CY h Y S) (h6 : h.2[Y + 6]? = some (.inr (3, 60, .inl m6))) (hm6 : ∀ k, k < yB S → m6 k = if mk k = true then 1 else 0)
    (hQ : ∀ h', CY h' Y (finS S mk hd) → frm (cyA Y) h h' → (shape h → shape h') → Q (.inl (some (.int (nI (yB S) - nI (yB (finS S mk hd)))))) h') :
    px_Wp sx 109 0 [some (.ref Y), none, none, none] [] h Q := by
  have cy' := cy
  obtain ⟨⟨f, a1, a2⟩, b, ⟨D, d1, d2⟩, ⟨st, s1, s2⟩, ⟨ln, l1, l2⟩, -⟩ := cy
  obtain ⟨w1, w2, w3⟩ := a1
  have b' := b
  unfold yrdF at b'
  have lY : Y < h.2.length := (List.getElem?_eq_some_iff.mp b).1
  have l1' : Y + 1 < h.2.length := (List.getElem?_eq_some_iff.mp w1).1
  have x5 : (Y = Y + 1) = False := eq_false (by omega)
  simp only [pc109_0, pc109_0n, pc109_1, pc109_4, pc109_5, pc109_5n, pc109_6, pc109_7, pc109_10, pc109_10n, pc109_11, pc109_14, pc109_15, pc109_18, pc109_19, px_op_some, px_kv_ap, px_ki_ap, px_kl_ap, px_kn_ap, px_kh_ap, px_op_none, px_K_some, px_K_none, px_K_thr, px_kill, ↓reduceIte, if_true, if_false, true_and, and_true, px_gf, px_pf, px_ai, px_aj, px_aa, px_wi, px_wj, px_wa, px_an, px_cls, yr_0, yr_1, tr_0, tr_1, tr_2, tr_3, px_rf, of_2, of_4, in_02, in_12, in_04, in_14, in_24, in_34, Nat.reduceLeDiff, in_01, lgc_self, Int32.reduceToNatClampNeg, wr_at, al_at, px_wr_len, px_al_len, px_wr_1, px_al_1, tg_0, tg_1, tg_2, tg_3, tg_12, tg_15, tg_17, tg_18, tg_i1, tg_b0, tg_b3, px_fit, Nat.reduceEqDiff, Nat.reduceLT, Nat.reduceAdd, Option.some.injEq, up_at, px_wr_wr, i32_le, Int32.reduceLE, Int32.reduceLT, mf_len, nar_0, nar_1, px_KH_some, px_KH_none, px_KH_thr, List.length_cons, List.length_nil, List.getElem?_cons_zero, List.getElem?_cons_succ, List.set_cons_zero, List.set_cons_succ, ↓reduceIte, Nat.lt_irrefl, ne_0_1, ne_0_2, ne_0_3, ne_0_4, ne_0_5, ne_1_0, ne_1_2, ne_1_3, ne_1_4, ne_1_5, ne_2_0, ne_2_1, ne_2_3, ne_2_4, ne_2_5, ne_3_0, ne_3_1, ne_3_2, ne_3_4, ne_3_5, ne_4_0, ne_4_1, ne_4_2, ne_4_3, ne_4_5, ne_5_0, ne_5_1, ne_5_2, ne_5_3, ne_5_4, hd_256_12, hd_256_16, hd_257_12, hd_258_12, hd_259_12, hd_260_12, hd_261_12, hd_261_13, hd_261_16, hd_262_12, hd_262_13, hd_262_16, hd_263_12, hd_263_13, hd_264_12, hd_264_13, hd_264_14, hd_265_12, hd_265_13, hd_265_14, hd_266_12, hd_267_12, hd_267_13, hd_267_14, hd_268_12, hd_269_12, hd_269_14, hd_270_12, hd_271_12, hd_272_12, hd_273_12, hd_273_13, hd_273_15, hd_274_12, hd_274_15, hd_275_12, hd_275_15, hd_276_12, nI_p1, nI_p2, nI_p3, nI_p4, nI_p5, not_true_eq_false, not_false_eq_true, and_self, mf_0, mf_1, mf_2, mf_3, mf_4, mf_5, mf_6, mf_7, mf_8, mf_9, mf_10, mf_11, mf_12, mf_13, mf_14, mf_15, mf_16, mf_17, mf_18, mf_19, mf_20, mf_21, mf_22, mf_23, mf_24, mf_25, mf_26, mf_27, mf_28, mf_29, mf_30, mf_31, mf_32, mf_33, mf_34, mf_35, mf_36, mf_37, mf_38, mf_39, mf_40, mf_41, mf_42, mf_43, mf_44, mf_45, mf_46, mf_47, mf_48, mf_49, mf_50, mf_51, mf_52, mf_53, mf_54, mf_55, mf_56, mf_57, mf_58, mf_59, mf_60, mf_61, mfs_0, mfs_2, mfs_17, mfs_20, mfs_26, mfs_32, mfs_34, mfs_36, mfs_38, mfs_43, mfs_44, mfs_45, mfs_46, mfs_47, iy_0, iy_1, iy_2, iy_3, iy_4, iy_5, iy_6, b', w1, px_kill, wr_at, lY, l1', x5]
  have w0 : swp h (px_wr (px_wr h Y (.inl (7, [.ref (Y + 1), .int (nI (yC S)), .ref (Y + 3), .ref (Y + 4), .ref (Y + 5), .ref (Y + 6), .int 0, .ref (Y + 7), .ref (Y + 8), .int (nI (yK S)), .ref (Y + 9), .ref (Y + 10)]))) (Y + 1) (.inl (1, [.ref (Y + 1 + 1), .int 0]))) Y S mk 0 := by
    have z : ∀ {r : Nat} {x : px_C}, h.2[r]? = some x → r ≠ Y → r ≠ Y + 1 → (px_wr (px_wr h Y (.inl (7, [.ref (Y + 1), .int (nI (yC S)), .ref (Y + 3), .ref (Y + 4), .ref (Y + 5), .ref (Y + 6), .int 0, .ref (Y + 7), .ref (Y + 8), .int (nI (yK S)), .ref (Y + 9), .ref (Y + 10)]))) (Y + 1) (.inl (1, [.ref (Y + 1 + 1), .int 0]))).2[r]? = some x := fun ee p q => by rw [wr_at, if_neg (fun e => q e.symm), wr_at, if_neg (fun e => p e.symm)]; exact ee
    refine ⟨⟨f, ⟨?_, z w2 (by omega) (by omega), Nat.zero_le _, Nat.le_refl _⟩, fun j hj => absurd hj (Nat.not_lt_zero j), fun k x y m hm => ?_⟩, ?_, ⟨D, z d1 (by omega) (by omega), fun j hj => absurd hj (Nat.not_lt_zero j), fun k _ y => d2 k y⟩, ⟨st, z s1 (by omega) (by omega), fun j hj => absurd hj (Nat.not_lt_zero j), fun k _ y => s2 k y⟩, ⟨ln, z l1 (by omega) (by omega), fun j hj => absurd hj (Nat.not_lt_zero j), fun k _ y => l2 k y⟩, fun r x y => ?_, ?_, fun s => ?_⟩
    · rw [wr_at, if_pos rfl, if_pos (by rw [px_wr_len]; omega)]; rfl
    · have := bk.1 k y
      exact a2 _ (by omega)
    · rw [wr_at, if_neg (by omega), wr_at, if_pos rfl, if_pos lY]; rfl
    · rw [wr_at, if_neg (by omega), wr_at, if_neg (by omega)]
    · exact frm_wr (frm_wr (frm_refl _ _) ⟨by omega, by omega⟩) ⟨by omega, by omega⟩
    · have q1 := shape_int (k := 6) (x := nI (yB S)) (y := 0) s b' rfl
      exact shape_int (r := Y + 1) (c := 1) (k := 1) (x := nI (yR S)) (y := 0) q1 (by rw [wr_at, if_neg (by omega)]; exact w1) rfl
  refine c_swb_l (mk := mk) g bk hc h6 hm6 (fun h1 v1 => ?_) (yB S) 0 (by omega) _ w0
  have c1 := swp_mix cy' v1
  obtain ⟨-, -, -, -, -, -, fr1, sh1⟩ := v1
  simp only [pc109_45, pc109_46, px_kill]
  refine c_swt_l (h := h1) g bk hc hm (fun h2 c2 fr2 sh2 => ?_) 8 0 rfl h1 c1 (frm_refl _ _) (fun s => s)
  obtain ⟨rw2, cb2⟩ := CY_b.mp c2
  have b2 := cb2.1
  have b2' := b2
  unfold yrdF at b2'
  have kk0 : yK (ksS S mk hd 0) = 0 := (ks_all (hd := hd) g bk hc hm 0 (by omega)).2.2.2.1
  simp only [pc109_80, pc109_80n, pc109_81, pc109_84, pc109_85, pc109_85n, pc109_86, pc109_87, pc109_90, pc109_91, px_op_some, px_kv_ap, px_ki_ap, px_kl_ap, px_kn_ap, px_kh_ap, px_op_none, px_K_some, px_K_none, px_K_thr, px_kill, ↓reduceIte, if_true, if_false, true_and, and_true, px_gf, px_pf, px_ai, px_aj, px_aa, px_wi, px_wj, px_wa, px_an, px_cls, yr_0, yr_1, tr_0, tr_1, tr_2, tr_3, px_rf, of_2, of_4, in_02, in_12, in_04, in_14, in_24, in_34, Nat.reduceLeDiff, in_01, lgc_self, Int32.reduceToNatClampNeg, wr_at, al_at, px_wr_len, px_al_len, px_wr_1, px_al_1, tg_0, tg_1, tg_2, tg_3, tg_12, tg_15, tg_17, tg_18, tg_i1, tg_b0, tg_b3, px_fit, Nat.reduceEqDiff, Nat.reduceLT, Nat.reduceAdd, Option.some.injEq, up_at, px_wr_wr, i32_le, Int32.reduceLE, Int32.reduceLT, mf_len, nar_0, nar_1, px_KH_some, px_KH_none, px_KH_thr, List.length_cons, List.length_nil, List.getElem?_cons_zero, List.getElem?_cons_succ, List.set_cons_zero, List.set_cons_succ, ↓reduceIte, Nat.lt_irrefl, ne_0_1, ne_0_2, ne_0_3, ne_0_4, ne_0_5, ne_1_0, ne_1_2, ne_1_3, ne_1_4, ne_1_5, ne_2_0, ne_2_1, ne_2_3, ne_2_4, ne_2_5, ne_3_0, ne_3_1, ne_3_2, ne_3_4, ne_3_5, ne_4_0, ne_4_1, ne_4_2, ne_4_3, ne_4_5, ne_5_0, ne_5_1, ne_5_2, ne_5_3, ne_5_4, hd_256_12, hd_256_16, hd_257_12, hd_258_12, hd_259_12, hd_260_12, hd_261_12, hd_261_13, hd_261_16, hd_262_12, hd_262_13, hd_262_16, hd_263_12, hd_263_13, hd_264_12, hd_264_13, hd_264_14, hd_265_12, hd_265_13, hd_265_14, hd_266_12, hd_267_12, hd_267_13, hd_267_14, hd_268_12, hd_269_12, hd_269_14, hd_270_12, hd_271_12, hd_272_12, hd_273_12, hd_273_13, hd_273_15, hd_274_12, hd_274_15, hd_275_12, hd_275_15, hd_276_12, nI_p1, nI_p2, nI_p3, nI_p4, nI_p5, not_true_eq_false, not_false_eq_true, and_self, mf_0, mf_1, mf_2, mf_3, mf_4, mf_5, mf_6, mf_7, mf_8, mf_9, mf_10, mf_11, mf_12, mf_13, mf_14, mf_15, mf_16, mf_17, mf_18, mf_19, mf_20, mf_21, mf_22, mf_23, mf_24, mf_25, mf_26, mf_27, mf_28, mf_29, mf_30, mf_31, mf_32, mf_33, mf_34, mf_35, mf_36, mf_37, mf_38, mf_39, mf_40, mf_41, mf_42, mf_43, mf_44, mf_45, mf_46, mf_47, mf_48, mf_49, mf_50, mf_51, mf_52, mf_53, mf_54, mf_55, mf_56, mf_57, mf_58, mf_59, mf_60, mf_61, mfs_0, mfs_2, mfs_17, mfs_20, mfs_26, mfs_32, mfs_34, mfs_36, mfs_38, mfs_43, mfs_44, mfs_45, mfs_46, mfs_47, iy_0, iy_1, iy_2, iy_3, iy_4, iy_5, iy_6, b2', px_kill]
  have l2' : Y < h2.2.length := (List.getElem?_eq_some_iff.mp b2).1
  have k0 : kys h (px_wr h2 Y (.inl (7, [.ref (Y + 1), .int (nI (yC (mixT S mk 8))), .ref (Y + 3), .ref (Y + 4), .ref (Y + 5), .ref (Y + 6), .int (nI (yB (mixT S mk 8))), .ref (Y + 7), .ref (Y + 8), .int 0, .ref (Y + 9), .ref (Y + 10)]))) Y S mk hd 0 := by
    have z : ∀ {r : Nat} {x : px_C}, h2.2[r]? = some x → r ≠ Y → (px_wr h2 Y (.inl (7, [.ref (Y + 1), .int (nI (yC (mixT S mk 8))), .ref (Y + 3), .ref (Y + 4), .ref (Y + 5), .ref (Y + 6), .int (nI (yB (mixT S mk 8))), .ref (Y + 7), .ref (Y + 8), .int 0, .ref (Y + 9), .ref (Y + 10)]))).2[r]? = some x := fun ee p => by rw [wr_at, if_neg (fun e => p e.symm)]; exact ee
    obtain ⟨f', v1, v2⟩ := rw2
    obtain ⟨-, ⟨D, c1, c2⟩, ⟨st, d1, d2⟩, ⟨ln, l1, l2⟩, ⟨m0, m1⟩, ⟨ky, g1, g2⟩, ⟨kl, h1, h2⟩, ⟨G, i1, i2⟩, T, j1, j2⟩ := cb2
    refine ⟨⟨⟨f', ⟨z v1.1 (by omega), z v1.2.1 (by omega), v1.2.2⟩, v2⟩, ?_, ⟨D, z c1 (by omega), c2⟩, ⟨st, z d1 (by omega), d2⟩, ⟨ln, z l1 (by omega), l2⟩, ⟨m0, z m1 (by omega)⟩, ⟨ky, z g1 (by omega), fun k hk => absurd hk (by rw [show yK (mixK S mk hd 0) = 0 from kk0]; omega)⟩, ⟨kl, z h1 (by omega), fun k hk => absurd hk (by rw [show yK (mixK S mk hd 0) = 0 from kk0]; omega)⟩, ⟨G, z i1 (by omega), i2⟩, T, z j1 (by omega), j2⟩, ⟨ky, kl, z g1 (by omega), z h1 (by omega), fun j _ hj => ⟨g2 j hj, h2 j hj⟩⟩, frm_trans fr1 (frm_trans fr2 (frm_wr (frm_refl _ _) ⟨by omega, by omega⟩)), fun s => ?_⟩
    · rw [wr_at, if_pos rfl, if_pos l2', show yK (mixK S mk hd 0) = 0 from kk0]; rfl
    · exact shape_int (k := 9) (x := nI (yK (mixT S mk 8))) (y := 0) (sh2 (sh1 s)) b2' rfl
  refine c_swk_l (h0 := h) (hd := hd) g bk hc hm hh (fun h3 v3 => ?_) (yK S) 0 (by omega) _ k0
  obtain ⟨c3, -, fr3, sh3⟩ := v3
  obtain ⟨⟨f3, r3, r4⟩, cb3⟩ := CY_b.mp c3
  have b3 := cb3.1
  have b3' := b3
  unfold yrdF at b3'
  have r31 := r3.1
  have l3 : Y < h3.2.length := (List.getElem?_eq_some_iff.mp b3).1
  simp only [pc109_134, pc109_134n, pc109_135, pc109_135n, pc109_136, pc109_139, pc109_142, pc109_145, pc109_146, pc109_146n, pc109_147, pc109_150, pc109_151, px_op_some, px_kv_ap, px_ki_ap, px_kl_ap, px_kn_ap, px_kh_ap, px_op_none, px_K_some, px_K_none, px_K_thr, px_kill, ↓reduceIte, if_true, if_false, true_and, and_true, px_gf, px_pf, px_ai, px_aj, px_aa, px_wi, px_wj, px_wa, px_an, px_cls, yr_0, yr_1, tr_0, tr_1, tr_2, tr_3, px_rf, of_2, of_4, in_02, in_12, in_04, in_14, in_24, in_34, Nat.reduceLeDiff, in_01, lgc_self, Int32.reduceToNatClampNeg, wr_at, al_at, px_wr_len, px_al_len, px_wr_1, px_al_1, tg_0, tg_1, tg_2, tg_3, tg_12, tg_15, tg_17, tg_18, tg_i1, tg_b0, tg_b3, px_fit, Nat.reduceEqDiff, Nat.reduceLT, Nat.reduceAdd, Option.some.injEq, up_at, px_wr_wr, i32_le, Int32.reduceLE, Int32.reduceLT, mf_len, nar_0, nar_1, px_KH_some, px_KH_none, px_KH_thr, List.length_cons, List.length_nil, List.getElem?_cons_zero, List.getElem?_cons_succ, List.set_cons_zero, List.set_cons_succ, ↓reduceIte, Nat.lt_irrefl, ne_0_1, ne_0_2, ne_0_3, ne_0_4, ne_0_5, ne_1_0, ne_1_2, ne_1_3, ne_1_4, ne_1_5, ne_2_0, ne_2_1, ne_2_3, ne_2_4, ne_2_5, ne_3_0, ne_3_1, ne_3_2, ne_3_4, ne_3_5, ne_4_0, ne_4_1, ne_4_2, ne_4_3, ne_4_5, ne_5_0, ne_5_1, ne_5_2, ne_5_3, ne_5_4, hd_256_12, hd_256_16, hd_257_12, hd_258_12, hd_259_12, hd_260_12, hd_261_12, hd_261_13, hd_261_16, hd_262_12, hd_262_13, hd_262_16, hd_263_12, hd_263_13, hd_264_12, hd_264_13, hd_264_14, hd_265_12, hd_265_13, hd_265_14, hd_266_12, hd_267_12, hd_267_13, hd_267_14, hd_268_12, hd_269_12, hd_269_14, hd_270_12, hd_271_12, hd_272_12, hd_273_12, hd_273_13, hd_273_15, hd_274_12, hd_274_15, hd_275_12, hd_275_15, hd_276_12, nI_p1, nI_p2, nI_p3, nI_p4, nI_p5, not_true_eq_false, not_false_eq_true, and_self, mf_0, mf_1, mf_2, mf_3, mf_4, mf_5, mf_6, mf_7, mf_8, mf_9, mf_10, mf_11, mf_12, mf_13, mf_14, mf_15, mf_16, mf_17, mf_18, mf_19, mf_20, mf_21, mf_22, mf_23, mf_24, mf_25, mf_26, mf_27, mf_28, mf_29, mf_30, mf_31, mf_32, mf_33, mf_34, mf_35, mf_36, mf_37, mf_38, mf_39, mf_40, mf_41, mf_42, mf_43, mf_44, mf_45, mf_46, mf_47, mf_48, mf_49, mf_50, mf_51, mf_52, mf_53, mf_54, mf_55, mf_56, mf_57, mf_58, mf_59, mf_60, mf_61, mfs_0, mfs_2, mfs_17, mfs_20, mfs_26, mfs_32, mfs_34, mfs_36, mfs_38, mfs_43, mfs_44, mfs_45, mfs_46, mfs_47, iy_0, iy_1, iy_2, iy_3, iy_4, iy_5, iy_6, b3', r31, px_kill, wr_at, l3]
  obtain ⟨z1, z2⟩ := CYb_set (s' := nI (yR (mixK S mk hd (yK S)))) cb3
  obtain ⟨K1, K2, K3, K4, K5, K6, K7⟩ := ks_all (hd := hd) g bk hc hm (yK S) (Nat.le_refl _)
  obtain ⟨t1, t2, t3, t4, t5, t6, t7⟩ := ts_all g bk hc hm 8 (Nat.le_refl _)
  have z3 := CYb_congr (S' := finS S mk hd) z1 K2 rfl (fun j hj => by
    have e : ∀ j, yT (finS S mk hd) j = yT (tsS S mk 8) j ∧ yG (finS S mk hd) j = yG (tsS S mk 8) j := fun j => ⟨by show (ksS S mk hd (yK S)).2.2.2.1 j = _; rw [K3], by show (ksS S mk hd (yK S)).2.2.2.2 j = _; rw [K3]⟩
    rw [(e j).1, (e j).2]; exact t5 j hj)
  have eB : yB (mixK S mk hd (yK S)) = yB (finS S mk hd) := by show (bsS S mk (yB S)).2.1.1 = (ksS S mk hd (yK S)).2.1.1; rw [K2]
  have z : ∀ {r : Nat}, r ≠ Y → (px_wr h3 Y (.inl (7, yrdF Y (nI (yR (mixK S mk hd (yK S)))) (nI (yB (mixK S mk hd (yK S)))) (nI (yK (mixK S mk hd (yK S))))))).2[r]? = h3.2[r]? := fun p => by rw [wr_at, if_neg (fun e => p e.symm)]
  have fin := hQ _ (CY_b.mpr ⟨⟨f3, ⟨by rw [z (by omega)]; exact r3.1, by rw [z (by omega)]; exact r3.2.1, r3.2.2⟩, r4⟩, z3⟩) (frm_wr fr3 ⟨by omega, by omega⟩) (fun s => z2 (sh3 s))
  rw [← eB] at fin
  exact fin
end SWEEP3
