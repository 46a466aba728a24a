/-! COLLECT -/
set_option maxRecDepth 16384 in
theorem bool_of (P : Nat → Prop) : ∃ b : Nat → Bool, ∀ k, (b k = true ↔ P k) := ⟨fun k => @decide (P k) (Classical.propDecidable _), fun k => @decide_eq_true_iff _ (Classical.propDecidable _)⟩
section COL
variable {sx : Nat × (Nat → Int32)} {h : px_H} {q : Nat} {S : yS} {V : Nat → Int32} {mk hd : Nat → Bool} {Q : px_O → px_H → Prop}
set_option maxRecDepth 16384 in
theorem ts_mono (t : Nat) : ∀ d, yR (tsS S mk t) ≤ yR (tsS S mk (t + d)) ∧ ∀ i, i < yR (tsS S mk t) → yJ (tsS S mk (t + d)) i = yJ (tsS S mk t) i
  | 0 => ⟨Nat.le_refl _, fun _ _ => rfl⟩
  | d + 1 => by
    obtain ⟨a, b⟩ := ts_mono t d
    show yR (tsS S mk t) ≤ yR (tsS S mk (t + d + 1)) ∧ ∀ i, i < yR (tsS S mk t) → yJ (tsS S mk (t + d + 1)) i = yJ (tsS S mk t) i
    by_cases e : yT S (t + d) = true
    · have en : tsS S mk (t + d + 1) = yTell (tsS S mk (t + d)) (t + d) (yG S (t + d)) := if_pos e
      rw [en]
      exact ⟨Nat.le_trans a (Nat.le_add_right _ _), fun i hi => (addJ_old (by omega)).trans (b i hi)⟩
    · have en : tsS S mk (t + d + 1) = tsS S mk (t + d) := if_neg e
      rw [en]; exact ⟨a, b⟩
set_option maxRecDepth 16384 in
theorem fin_tags (g : goodC S) (bk : blk S) (hc : cst S ≤ yR S) (hm : mkOK S mk) : ∀ j, j < 8 → yT (ksS S mk hd (yK S)) j = yT S j ∧ (yT S j = true → yG (ksS S mk hd (yK S)) j = yG S j) := by
  obtain ⟨K1, K2, K3, K4, K5, K6, K7⟩ := ks_all (hd := hd) g bk hc hm (yK S) (Nat.le_refl _)
  obtain ⟨t1, t2, t3, t4, t5, t6, t7⟩ := ts_all g bk hc hm 8 (Nat.le_refl _)
  intro j hj
  have e : yT (ksS S mk hd (yK S)) j = yT (tsS S mk 8) j ∧ yG (ksS S mk hd (yK S)) j = yG (tsS S mk 8) j := ⟨by show (ksS S mk hd (yK S)).2.2.2.1 j = _; rw [K3], by show (ksS S mk hd (yK S)).2.2.2.2 j = _; rw [K3]⟩
  rw [e.1, e.2]; exact t5 j hj
set_option maxRecDepth 16384 in
theorem fin_lay (g : goodC S) (bk : blk S) (hc : cst S ≤ yR S) (hm : mkOK S mk) : layR (ksS S mk hd (yK S)) (fun t => yR (tsS S mk t)) := by
  obtain ⟨K1, K2, K3, K4, K5, K6, K7⟩ := ks_all (hd := hd) g bk hc hm (yK S) (Nat.le_refl _)
  obtain ⟨t1, t2, t3, t4, t5, t6, t7⟩ := ts_all g bk hc hm 8 (Nat.le_refl _)
  obtain ⟨p1, p2, p3, p4⟩ := ks_pos (S := S) (mk := mk) (hd := hd) (yK S)
  obtain ⟨b1, b2, b3⟩ := bs_pos (S := S) (mk := mk) (yB S)
  rw [t3] at p1 p2 p4
  have eB : yB (ksS S mk hd (yK S)) = yB (bsS S mk (yB S)) := by show (ksS S mk hd (yK S)).2.1.1 = _; rw [K2]
  have eP : yP (ksS S mk hd (yK S)) = yP (bsS S mk (yB S)) := by show (ksS S mk hd (yK S)).2.1.2.2.1 = _; rw [K2]
  have eL : yL (ksS S mk hd (yK S)) = yL (bsS S mk (yB S)) := by show (ksS S mk hd (yK S)).2.1.2.2.2 = _; rw [K2]
  have bkF := (rch_blk K1).1
  have ft := fin_tags (hd := hd) g bk hc hm
  refine ⟨fun j hj i hi => ?_, ?_, fun t ht e => ?_, fun t ht e => ?_, fun j hj i hi => ?_, ?_, fun t ht => ?_⟩
  · have := (bkF.1 j hj).2.2 i hi
    rw [← this, eP, eL, b1 j (by rw [← eB]; exact hj), Nat.add_sub_cancel]
  · show yR (bsS S mk (yB S)) = _
    rw [eL, eB]; exact b2
  · rw [(ft t ht).1] at e
    have en : tsS S mk (t + 1) = yTell (tsS S mk t) t (yG S t) := if_pos e
    refine ⟨by show yR (tsS S mk (t + 1)) = yR (tsS S mk t) + 15; rw [en]; rfl, fun i hi => ?_⟩
    have m8 := ts_mono (S := S) (mk := mk) (t + 1) (8 - (t + 1))
    rw [show t + 1 + (8 - (t + 1)) = 8 by omega] at m8
    have eR : yR (tsS S mk (t + 1)) = yR (tsS S mk t) + 15 := by rw [en]; rfl
    show yJ (ksS S mk hd (yK S)) (yR (tsS S mk t) + i) = _
    rw [p3 _ (by omega), m8.2 _ (by omega), en, (ft t ht).2 e]
    show (addJ (tsS S mk t) 15 (recB 2 9 (tagB t (yG S t)))).2.1 (yR (tsS S mk t) + i) = _
    rw [addJ_new (Nat.le_add_right _ _), Nat.add_sub_cancel_left]
  · rw [(ft t ht).1] at e
    show yR (tsS S mk (t + 1)) = yR (tsS S mk t)
    have en : tsS S mk (t + 1) = tsS S mk t := if_neg e
    rw [en]
  · exact p4 j (Nat.zero_le _) hj i hi
  · exact p1
  · have m0 := (ts_mono (S := S) (mk := mk) 0 t).1
    rw [Nat.zero_add] at m0
    have m8 := (ts_mono (S := S) (mk := mk) t (8 - t)).1
    rw [show t + (8 - t) = 8 by omega] at m8
    exact ⟨m0, m8⟩
set_option maxRecDepth 16384 in
theorem m_collect (hS : shape h) (h6 : h.2[619]? = some (.inl (11, modF V))) (hq : q < 2) (ok : yOK S) (ry : RY h q S) (iX : ∀ t, t < 4 → invX h t) (hmk : ∀ k, k < yB S → (mk k = true ↔ nd h q S (yD S k))) (hh : ∀ k, k < yK S → (hd k = true ↔ hasD (bsS S mk (yB S)) (yE S k)))
    (hQ : ∀ h', RY h' q (finS S mk hd) → (∀ q2 S2, q2 < 2 → q2 ≠ q → WFy S2 → RY h q2 S2 → RY h' q2 S2) → frm (fun r => mtA r ∨ r = 635 ∨ r = 636 ∨ 621 ≤ r ∧ r ≤ 634) h h' → shape h' → (∃ V1, h'.2[619]? = some (.inl (11, modF V1)) ∧ ∀ k, k ≠ 17 → k ≠ 36 → k ≠ 38 → V1 k = px_up V 0 0 k) → Q (.inl (some (.int (nI (yB S) - nI (yB (finS S mk hd)))))) h') :
    px_Wp sx 242 0 [some (.ref 619), some (.int (nI q)), none, none] [] h Q := by
  have g := yOK_good ok
  obtain ⟨bk, hc⟩ := ok_blk ok
  have hl := hS.1
  have iq : px_in (nI q) 2 = true := px_inb hq (by decide)
  have cq : (nI q).toNatClampNeg = q := nI_clamp (by omega)
  have q0 : ¬ nI q < 0 := nI_pos (by omega)
  have q1 : ¬ (1 : Int32) < nI q := nI_nlt (a := 1) (by omega) (by decide)
  have n1 : ∀ x : Int32, px_nar 1 x = x := fun _ => rfl
  have hm : mkOK S mk := fun t ht e k hk ek => ⟨(hmk k hk).mpr (.inl ⟨t, ht, e, .inl ek⟩), fun nl ns pos na nv o i hi k' hk' ek' => (hmk k' hk').mpr (.inl ⟨t, ht, e, .inr ⟨k, hk, ek, nl, ns, pos, na, nv, o, i, hi, ek'⟩⟩)⟩
  simp only [pc242_0, pc242_0n, pc242_1, pc242_2, pc242_5, pc242_8, pc242_9, pc242_12, pc242_13, pc242_14, pc242_15, pc242_18, pc242_21, pc242_22, pc242_23, pc242_23n, pc242_24, pc242_25, pc149_0, pc149_1, pc149_2, pc149_3, pc149_6, pc144_0, pc144_1, pc144_2, pc144_5, pc144_6, pc144_7, pc144_10, pc144_11, pc144_14, pc144_15, pc145_0, pc145_0n, pc145_1, pc145_2, pc145_5, pc145_6, pc145_9, pc145_10, pc145_13, pc145_14, pc145_17, pc145_18, pc145_21, pc145_22, pc145_25, pc145_26, pc145_29, pc145_29n, pc145_30, pc145_33, pc145_36, pc145_37, pc145_40, pc145_41, px_op_some, px_kv_ap, px_ki_ap, px_kl_ap, px_kn_ap, px_kh_ap, px_op_none, px_K_some, px_K_none, px_K_thr, px_kill, ↓reduceIte, if_true, if_false, true_and, and_true, px_gf, px_pf, px_ai, px_aj, px_aa, px_wi, px_wj, px_wa, px_an, px_cls, yr_0, yr_1, tr_0, tr_1, tr_2, tr_3, px_rf, of_2, of_4, in_02, in_12, in_04, in_14, in_24, in_34, Nat.reduceLeDiff, in_01, lgc_self, Int32.reduceToNatClampNeg, wr_at, al_at, px_wr_len, px_al_len, px_wr_1, px_al_1, tg_0, tg_1, tg_2, tg_3, tg_12, tg_15, tg_17, tg_18, tg_i1, tg_b0, tg_b3, px_fit, Nat.reduceEqDiff, Nat.reduceLT, Nat.reduceAdd, Option.some.injEq, up_at, px_wr_wr, i32_le, Int32.reduceLE, Int32.reduceLT, mf_len, nar_0, nar_1, px_KH_some, px_KH_none, px_KH_thr, List.length_cons, List.length_nil, List.getElem?_cons_zero, List.getElem?_cons_succ, List.set_cons_zero, List.set_cons_succ, ↓reduceIte, Nat.lt_irrefl, ne_0_1, ne_0_2, ne_0_3, ne_0_4, ne_0_5, ne_1_0, ne_1_2, ne_1_3, ne_1_4, ne_1_5, ne_2_0, ne_2_1, ne_2_3, ne_2_4, ne_2_5, ne_3_0, ne_3_1, ne_3_2, ne_3_4, ne_3_5, ne_4_0, ne_4_1, ne_4_2, ne_4_3, ne_4_5, ne_5_0, ne_5_1, ne_5_2, ne_5_3, ne_5_4, hd_256_12, hd_256_16, hd_257_12, hd_258_12, hd_259_12, hd_260_12, hd_261_12, hd_261_13, hd_261_16, hd_262_12, hd_262_13, hd_262_16, hd_263_12, hd_263_13, hd_264_12, hd_264_13, hd_264_14, hd_265_12, hd_265_13, hd_265_14, hd_266_12, hd_267_12, hd_267_13, hd_267_14, hd_268_12, hd_269_12, hd_269_14, hd_270_12, hd_271_12, hd_272_12, hd_273_12, hd_273_13, hd_273_15, hd_274_12, hd_274_15, hd_275_12, hd_275_15, hd_276_12, nI_p1, nI_p2, nI_p3, nI_p4, nI_p5, not_true_eq_false, not_false_eq_true, and_self, mf_0, mf_1, mf_2, mf_3, mf_4, mf_5, mf_6, mf_7, mf_8, mf_9, mf_10, mf_11, mf_12, mf_13, mf_14, mf_15, mf_16, mf_17, mf_18, mf_19, mf_20, mf_21, mf_22, mf_23, mf_24, mf_25, mf_26, mf_27, mf_28, mf_29, mf_30, mf_31, mf_32, mf_33, mf_34, mf_35, mf_36, mf_37, mf_38, mf_39, mf_40, mf_41, mf_42, mf_43, mf_44, mf_45, mf_46, mf_47, mf_48, mf_49, mf_50, mf_51, mf_52, mf_53, mf_54, mf_55, mf_56, mf_57, mf_58, mf_59, mf_60, mf_61, mfs_0, mfs_2, mfs_17, mfs_20, mfs_26, mfs_32, mfs_34, mfs_36, mfs_38, mfs_43, mfs_44, mfs_45, mfs_46, mfs_47, iy_0, iy_1, iy_2, iy_3, iy_4, iy_5, iy_6, h6, q0, q1, nar_0, nar_1, shape_1 hS]
  have z6 : (px_wr h 619 (.inl (11, modF (px_up V 0 0)))).2[619]? = some (.inl (11, modF (px_up V 0 0))) := by rw [wr_at, if_pos rfl, if_pos (by omega)]
  have s0 : shape (px_wr h 619 (.inl (11, modF (px_up V 0 0)))) := shape_wr hS rfl
  have ne0 : ∀ {r : Nat}, r ≠ 619 → (px_wr h 619 (.inl (11, modF (px_up V 0 0)))).2[r]? = h.2[r]? := fun e => by rw [wr_at, if_neg (fun x => e x.symm)]
  have f0 : frm (fun r => r = 619) h (px_wr h 619 (.inl (11, modF (px_up V 0 0)))) := frm_wr (frm_refl _ _) rfl
  generalize px_wr h 619 (.inl (11, modF (px_up V 0 0))) = h0 at *
  have ry0 : RY h0 q S := RY_frm ry (fun r a b => ne0 (by omega))
  have iX0 : ∀ t, t < 4 → invX h0 t := fun t ht => invX_frm (iX t ht) (fun r a b => ne0 (by omega)) (fun r a b => ne0 (by omega))
  have nd0 : ∀ x, nd h0 q S x ↔ nd h q S x := fun x => nd_frm (fun r a b => ne0 (by omega))
  refine m_dropBlobs (V := px_up V 0 0) s0 z6 hq ok ry0 iX0 (fun k hk => (hmk k hk).trans (nd0 _).symm) (fun h1 rb1 ot1 fr1 s1 v1 => ?_)
  obtain ⟨V1, v11, v12⟩ := v1
  simp only [px_K_some, pc242_28, pc242_29, pc242_29n, pc242_30, pc242_31, px_op_some, px_kv_ap, px_ki_ap, px_kl_ap, px_kn_ap, px_kh_ap, px_op_none, px_K_some, px_K_none, px_K_thr, px_kill, ↓reduceIte, if_true, if_false, true_and, and_true, px_gf, px_pf, px_ai, px_aj, px_aa, px_wi, px_wj, px_wa, px_an, px_cls, yr_0, yr_1, tr_0, tr_1, tr_2, tr_3, px_rf, of_2, of_4, in_02, in_12, in_04, in_14, in_24, in_34, Nat.reduceLeDiff, in_01, lgc_self, Int32.reduceToNatClampNeg, wr_at, al_at, px_wr_len, px_al_len, px_wr_1, px_al_1, tg_0, tg_1, tg_2, tg_3, tg_12, tg_15, tg_17, tg_18, tg_i1, tg_b0, tg_b3, px_fit, Nat.reduceEqDiff, Nat.reduceLT, Nat.reduceAdd, Option.some.injEq, up_at, px_wr_wr, i32_le, Int32.reduceLE, Int32.reduceLT, mf_len, nar_0, nar_1, px_KH_some, px_KH_none, px_KH_thr, List.length_cons, List.length_nil, List.getElem?_cons_zero, List.getElem?_cons_succ, List.set_cons_zero, List.set_cons_succ, ↓reduceIte, Nat.lt_irrefl, ne_0_1, ne_0_2, ne_0_3, ne_0_4, ne_0_5, ne_1_0, ne_1_2, ne_1_3, ne_1_4, ne_1_5, ne_2_0, ne_2_1, ne_2_3, ne_2_4, ne_2_5, ne_3_0, ne_3_1, ne_3_2, ne_3_4, ne_3_5, ne_4_0, ne_4_1, ne_4_2, ne_4_3, ne_4_5, ne_5_0, ne_5_1, ne_5_2, ne_5_3, ne_5_4, hd_256_12, hd_256_16, hd_257_12, hd_258_12, hd_259_12, hd_260_12, hd_261_12, hd_261_13, hd_261_16, hd_262_12, hd_262_13, hd_262_16, hd_263_12, hd_263_13, hd_264_12, hd_264_13, hd_264_14, hd_265_12, hd_265_13, hd_265_14, hd_266_12, hd_267_12, hd_267_13, hd_267_14, hd_268_12, hd_269_12, hd_269_14, hd_270_12, hd_271_12, hd_272_12, hd_273_12, hd_273_13, hd_273_15, hd_274_12, hd_274_15, hd_275_12, hd_275_15, hd_276_12, nI_p1, nI_p2, nI_p3, nI_p4, nI_p5, not_true_eq_false, not_false_eq_true, and_self, mf_0, mf_1, mf_2, mf_3, mf_4, mf_5, mf_6, mf_7, mf_8, mf_9, mf_10, mf_11, mf_12, mf_13, mf_14, mf_15, mf_16, mf_17, mf_18, mf_19, mf_20, mf_21, mf_22, mf_23, mf_24, mf_25, mf_26, mf_27, mf_28, mf_29, mf_30, mf_31, mf_32, mf_33, mf_34, mf_35, mf_36, mf_37, mf_38, mf_39, mf_40, mf_41, mf_42, mf_43, mf_44, mf_45, mf_46, mf_47, mf_48, mf_49, mf_50, mf_51, mf_52, mf_53, mf_54, mf_55, mf_56, mf_57, mf_58, mf_59, mf_60, mf_61, mfs_0, mfs_2, mfs_17, mfs_20, mfs_26, mfs_32, mfs_34, mfs_36, mfs_38, mfs_43, mfs_44, mfs_45, mfs_46, mfs_47, iy_0, iy_1, iy_2, iy_3, iy_4, iy_5, iy_6, v11, px_kill]
  refine m_dropKeys (hd := hd) s1 v11 hq g bk hc hm hh rb1 (fun h2 rb2 ot2 fr2 s2 => ?_)
  have z619 := (fr2.2.2 619 (by omega)).trans v11
  obtain ⟨K1, K2, K3, K4, K5, K6, K7⟩ := ks_all (hd := hd) g bk hc hm (yK S) (Nat.le_refl _)
  have gF := rch_good K1
  have tm := ts_more (S := S) (mk := mk) (rch_good (bs_all (mk := mk) g bk hc (yB S) (Nat.le_refl _)).1).1 8
  have kp := ks_pos (S := S) (mk := mk) (hd := hd) (yK S)
  have ft := fin_tags (hd := hd) g bk hc hm
  have rbF : RYb h2 q (ksS S mk hd (yK S)) := RYb_congr rb2 (rch_good (bs_all (mk := mk) g bk hc (yB S) (Nat.le_refl _)).1).1.2.2.2.2.2.1 K2 rfl ft (Nat.le_trans tm.2.2.1 (by rw [kp.1]; exact Nat.le_add_right _ _)) (fun i hi => (kp.2.2.1 i (Nat.lt_of_lt_of_le hi tm.2.2.1)).trans (tm.2.2.2 i hi))
  have hl2 := s2.1
  simp only [px_K_none, pc242_34, pc242_34n, pc242_35, pc242_38, pc242_39, pc242_40, pc242_41, pc242_42, px_op_some, px_kv_ap, px_ki_ap, px_kl_ap, px_kn_ap, px_kh_ap, px_op_none, px_K_some, px_K_none, px_K_thr, px_kill, ↓reduceIte, if_true, if_false, true_and, and_true, px_gf, px_pf, px_ai, px_aj, px_aa, px_wi, px_wj, px_wa, px_an, px_cls, yr_0, yr_1, tr_0, tr_1, tr_2, tr_3, px_rf, of_2, of_4, in_02, in_12, in_04, in_14, in_24, in_34, Nat.reduceLeDiff, in_01, lgc_self, Int32.reduceToNatClampNeg, wr_at, al_at, px_wr_len, px_al_len, px_wr_1, px_al_1, tg_0, tg_1, tg_2, tg_3, tg_12, tg_15, tg_17, tg_18, tg_i1, tg_b0, tg_b3, px_fit, Nat.reduceEqDiff, Nat.reduceLT, Nat.reduceAdd, Option.some.injEq, up_at, px_wr_wr, i32_le, Int32.reduceLE, Int32.reduceLT, mf_len, nar_0, nar_1, px_KH_some, px_KH_none, px_KH_thr, List.length_cons, List.length_nil, List.getElem?_cons_zero, List.getElem?_cons_succ, List.set_cons_zero, List.set_cons_succ, ↓reduceIte, Nat.lt_irrefl, ne_0_1, ne_0_2, ne_0_3, ne_0_4, ne_0_5, ne_1_0, ne_1_2, ne_1_3, ne_1_4, ne_1_5, ne_2_0, ne_2_1, ne_2_3, ne_2_4, ne_2_5, ne_3_0, ne_3_1, ne_3_2, ne_3_4, ne_3_5, ne_4_0, ne_4_1, ne_4_2, ne_4_3, ne_4_5, ne_5_0, ne_5_1, ne_5_2, ne_5_3, ne_5_4, hd_256_12, hd_256_16, hd_257_12, hd_258_12, hd_259_12, hd_260_12, hd_261_12, hd_261_13, hd_261_16, hd_262_12, hd_262_13, hd_262_16, hd_263_12, hd_263_13, hd_264_12, hd_264_13, hd_264_14, hd_265_12, hd_265_13, hd_265_14, hd_266_12, hd_267_12, hd_267_13, hd_267_14, hd_268_12, hd_269_12, hd_269_14, hd_270_12, hd_271_12, hd_272_12, hd_273_12, hd_273_13, hd_273_15, hd_274_12, hd_274_15, hd_275_12, hd_275_15, hd_276_12, nI_p1, nI_p2, nI_p3, nI_p4, nI_p5, not_true_eq_false, not_false_eq_true, and_self, mf_0, mf_1, mf_2, mf_3, mf_4, mf_5, mf_6, mf_7, mf_8, mf_9, mf_10, mf_11, mf_12, mf_13, mf_14, mf_15, mf_16, mf_17, mf_18, mf_19, mf_20, mf_21, mf_22, mf_23, mf_24, mf_25, mf_26, mf_27, mf_28, mf_29, mf_30, mf_31, mf_32, mf_33, mf_34, mf_35, mf_36, mf_37, mf_38, mf_39, mf_40, mf_41, mf_42, mf_43, mf_44, mf_45, mf_46, mf_47, mf_48, mf_49, mf_50, mf_51, mf_52, mf_53, mf_54, mf_55, mf_56, mf_57, mf_58, mf_59, mf_60, mf_61, mfs_0, mfs_2, mfs_17, mfs_20, mfs_26, mfs_32, mfs_34, mfs_36, mfs_38, mfs_43, mfs_44, mfs_45, mfs_46, mfs_47, iy_0, iy_1, iy_2, iy_3, iy_4, iy_5, iy_6, z619, mf_15, at_633 s2, iq, cq, n1, tg_i1, px_kill]
  have z33 : (px_wr h2 633 (.inr (1, 2, .inl (px_up (iA h2 633) q 0)))).2[633]? = some (.inr (1, 2, .inl (px_up (iA h2 633) q 0))) := by rw [wr_at, if_pos rfl, if_pos (by omega)]
  have ne3 : ∀ {r : Nat}, r ≠ 633 → (px_wr h2 633 (.inr (1, 2, .inl (px_up (iA h2 633) q 0)))).2[r]? = h2.2[r]? := fun e => by rw [wr_at, if_neg (fun x => e x.symm)]
  have s3 : shape (px_wr h2 633 (.inr (1, 2, .inl (px_up (iA h2 633) q 0)))) := shape_ia s2 (at_633 s2)
  have f3 : frm (fun r => r = 633) h2 (px_wr h2 633 (.inr (1, 2, .inl (px_up (iA h2 633) q 0)))) := frm_wr (frm_refl _ _) rfl
  generalize px_wr h2 633 (.inr (1, 2, .inl (px_up (iA h2 633) q 0))) = h3 at *
  have rb3 : RYb h3 q (ksS S mk hd (yK S)) := RYb_frm rbF (fun r a b => ne3 (by omega))
  have ly := fin_lay (hd := hd) g bk hc hm
  have e619 := (ne3 (r := 619) (by decide)).trans z619
  have e33 : iA h3 633 = px_up (iA h2 633) q 0 := iA_of z33
  have w0 : wrJ h3 h3 q V1 (ksS S mk hd (yK S)) (sumL (yL (ksS S mk hd (yK S))) 0) := ⟨frm_refl _ _, s3, ⟨V1, e619, fun _ _ => rfl⟩, _, _, at_632 s3, z33, up_same _ _ _, fun i hi => absurd hi (Nat.not_lt_zero i), fun _ _ => rfl, fun i hi => by rw [e33]⟩
  refine m_jb_l (V := V1) hq gF.1 (fun k hk => (gF.2.2.1 k hk).1) ly rb3 (fun h4 w4 => ?_) _ 0 (Nat.zero_add _) h3 w0
  simp only [pc242_71, pc242_72, px_kill]
  refine m_jt_l (V := V1) hq gF.1 ly rb3 (fun h5 w5 => ?_) 8 0 rfl h4 w4
  simp only [pc242_130, pc242_131, px_kill]
  refine m_jk_l (V := V1) hq gF.1 ly rb3 (fun h6' w6 => ?_) _ 0 (Nat.zero_add _) h5 w5
  obtain ⟨fr6, s6, ⟨V6, v61, v62⟩, J, W, y2, y3, yw, y4, y5, y6⟩ := w6
  have hl6 := s6.1
  simp only [pc242_189, pc242_189n, pc242_190, pc242_193, pc242_194, pc242_194n, pc242_195, pc242_198, pc242_199, pc242_200, pc242_201, pc242_202, px_op_some, px_kv_ap, px_ki_ap, px_kl_ap, px_kn_ap, px_kh_ap, px_op_none, px_K_some, px_K_none, px_K_thr, px_kill, ↓reduceIte, if_true, if_false, true_and, and_true, px_gf, px_pf, px_ai, px_aj, px_aa, px_wi, px_wj, px_wa, px_an, px_cls, yr_0, yr_1, tr_0, tr_1, tr_2, tr_3, px_rf, of_2, of_4, in_02, in_12, in_04, in_14, in_24, in_34, Nat.reduceLeDiff, in_01, lgc_self, Int32.reduceToNatClampNeg, wr_at, al_at, px_wr_len, px_al_len, px_wr_1, px_al_1, tg_0, tg_1, tg_2, tg_3, tg_12, tg_15, tg_17, tg_18, tg_i1, tg_b0, tg_b3, px_fit, Nat.reduceEqDiff, Nat.reduceLT, Nat.reduceAdd, Option.some.injEq, up_at, px_wr_wr, i32_le, Int32.reduceLE, Int32.reduceLT, mf_len, nar_0, nar_1, px_KH_some, px_KH_none, px_KH_thr, List.length_cons, List.length_nil, List.getElem?_cons_zero, List.getElem?_cons_succ, List.set_cons_zero, List.set_cons_succ, ↓reduceIte, Nat.lt_irrefl, ne_0_1, ne_0_2, ne_0_3, ne_0_4, ne_0_5, ne_1_0, ne_1_2, ne_1_3, ne_1_4, ne_1_5, ne_2_0, ne_2_1, ne_2_3, ne_2_4, ne_2_5, ne_3_0, ne_3_1, ne_3_2, ne_3_4, ne_3_5, ne_4_0, ne_4_1, ne_4_2, ne_4_3, ne_4_5, ne_5_0, ne_5_1, ne_5_2, ne_5_3, ne_5_4, hd_256_12, hd_256_16, hd_257_12, hd_258_12, hd_259_12, hd_260_12, hd_261_12, hd_261_13, hd_261_16, hd_262_12, hd_262_13, hd_262_16, hd_263_12, hd_263_13, hd_264_12, hd_264_13, hd_264_14, hd_265_12, hd_265_13, hd_265_14, hd_266_12, hd_267_12, hd_267_13, hd_267_14, hd_268_12, hd_269_12, hd_269_14, hd_270_12, hd_271_12, hd_272_12, hd_273_12, hd_273_13, hd_273_15, hd_274_12, hd_274_15, hd_275_12, hd_275_15, hd_276_12, nI_p1, nI_p2, nI_p3, nI_p4, nI_p5, not_true_eq_false, not_false_eq_true, and_self, mf_0, mf_1, mf_2, mf_3, mf_4, mf_5, mf_6, mf_7, mf_8, mf_9, mf_10, mf_11, mf_12, mf_13, mf_14, mf_15, mf_16, mf_17, mf_18, mf_19, mf_20, mf_21, mf_22, mf_23, mf_24, mf_25, mf_26, mf_27, mf_28, mf_29, mf_30, mf_31, mf_32, mf_33, mf_34, mf_35, mf_36, mf_37, mf_38, mf_39, mf_40, mf_41, mf_42, mf_43, mf_44, mf_45, mf_46, mf_47, mf_48, mf_49, mf_50, mf_51, mf_52, mf_53, mf_54, mf_55, mf_56, mf_57, mf_58, mf_59, mf_60, mf_61, mfs_0, mfs_2, mfs_17, mfs_20, mfs_26, mfs_32, mfs_34, mfs_36, mfs_38, mfs_43, mfs_44, mfs_45, mfs_46, mfs_47, iy_0, iy_1, iy_2, iy_3, iy_4, iy_5, iy_6, v61, mf_15, mf_16, y3, yw, at_634 s6, iq, cq, n1, tg_i1, px_kill]
  have eB : yB (bsS S mk (yB S)) = yB (finS S mk hd) := by show _ = (ksS S mk hd (yK S)).2.1.1; rw [K2]
  rw [eB]
  have z34 : (px_wr h6' 634 (.inr (1, 2, .inl (px_up (iA h6' 634) q (nI (yR (ksS S mk hd (yK S)))))))).2[634]? = some (.inr (1, 2, .inl (px_up (iA h6' 634) q (nI (yR (ksS S mk hd (yK S))))))) := by rw [wr_at, if_pos rfl, if_pos (by omega)]
  have ne7 : ∀ {r : Nat}, r ≠ 634 → (px_wr h6' 634 (.inr (1, 2, .inl (px_up (iA h6' 634) q (nI (yR (ksS S mk hd (yK S)))))))).2[r]? = h6'.2[r]? := fun e => by rw [wr_at, if_neg (fun x => e x.symm)]
  have s7 : shape (px_wr h6' 634 (.inr (1, 2, .inl (px_up (iA h6' 634) q (nI (yR (ksS S mk hd (yK S)))))))) := shape_ia s6 (at_634 s6)
  have f7 : frm (fun r => r = 634) h6' (px_wr h6' 634 (.inr (1, 2, .inl (px_up (iA h6' 634) q (nI (yR (ksS S mk hd (yK S)))))))) := frm_wr (frm_refl _ _) rfl
  generalize px_wr h6' 634 (.inr (1, 2, .inl (px_up (iA h6' 634) q (nI (yR (ksS S mk hd (yK S))))))) = h7 at *
  have rb7 : RYb h7 q (ksS S mk hd (yK S)) := RYb_frm rb3 (fun r a b => (ne7 (by omega)).trans (fr6.2.2 r (by omega)))
  have r32 : h0.2[632]? = h.2[632]? := ne0 (by decide)
  have k32 : ∀ r, r = 632 ∨ r = 634 → h6'.2[r]? = h6'.2[r]? := fun _ _ => rfl
  have up3 : ∀ r, r = 632 ∨ r = 633 ∨ r = 634 → h2.2[r]? = h.2[r]? := fun r hr => ((fr2.2.2 r (by omega)).trans (fr1.2.2 r (by unfold mtA; omega))).trans (ne0 (by omega))
  refine hQ h7 ⟨⟨J, (ne7 (by decide)).trans y2, y4⟩, ⟨W, (ne7 (by decide)).trans y3, yw⟩, ⟨_, z34, up_same _ _ _⟩, rb7⟩ (fun q2 S2 hq2 hne w2 c9 => ?_) ?_ s7 ⟨V6, (ne7 (by decide)).trans v61, fun k a b c => by rw [v62 k a, v12 k b c]⟩
  · obtain ⟨⟨J0, k1, k2⟩, ⟨W0, l1, l2⟩, ⟨C0, m1, m2⟩, rest⟩ := c9
    have r1 := w2.1
    have rb0 : RYb h0 q2 S2 := RYb_frm rest (fun r a b => ne0 (by omega))
    have rbn := RYb_frm (ot2 q2 S2 hq2 hne w2 (ot1 q2 S2 hq2 hne w2 rb0)) (h' := h7) (fun r a b => ((ne7 (by omega)).trans (fr6.2.2 r (by omega))).trans (ne3 (by omega)))
    have j3 : iA h3 632 = J0 := iA_of (((ne3 (by decide)).trans (up3 632 (.inl rfl))).trans k1)
    have w3 : iA h2 633 = W0 := iA_of ((up3 633 (.inr (.inl rfl))).trans l1)
    have c3 : iA h6' 634 = C0 := iA_of ((((fr6.2.2 634 (by omega)).trans (ne3 (by decide))).trans (up3 634 (.inr (.inr rfl)))).trans m1)
    refine ⟨⟨J, (ne7 (by decide)).trans y2, fun j hj => ?_⟩, ⟨W, (ne7 (by decide)).trans y3, ?_⟩, ⟨_, z34, ?_⟩, rbn⟩
    · rw [y5 _ (by omega), j3]; exact k2 j hj
    · rw [y6 q2 hne, e33, up_ne hne, w3]; exact l2
    · rw [up_ne hne, c3]; exact m2
  · refine frm_trans (frm_mono f0 (fun r x => .inl (.inl x))) (frm_trans (frm_mono fr1 (fun r x => ?_)) (frm_trans (frm_mono fr2 (fun r x => ?_)) (frm_trans (frm_mono f3 (fun r x => ?_)) (frm_trans (frm_mono fr6 (fun r x => ?_)) (frm_mono f7 (fun r x => ?_))))))
    · rcases x with x | x | x
      · exact .inl x
      · exact .inr (.inl x)
      · exact .inr (.inr (.inr (by omega)))
    · exact .inr (.inr (.inr (by omega)))
    · exact .inr (.inr (.inr (by omega)))
    · rcases x with x | x | x | x
      · exact .inl (.inl x)
      · exact .inr (.inr (.inl x))
      · exact .inr (.inr (.inr (by omega)))
      · exact .inr (.inr (.inr (by omega)))
    · exact .inr (.inr (.inr (by omega)))
end COL
