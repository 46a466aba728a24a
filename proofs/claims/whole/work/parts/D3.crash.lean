/-! CRASH, the reference's: the whole -/
section MCRW
variable {sx : Nat × (Nat → Int32)} {h : px_H} {q N : Nat} {hs : Nat → yS} {S : yS} {V : Nat → Int32} {Q : px_O → px_H → Prop}
set_option maxRecDepth 16384 in
theorem zOf_no {c n : Nat} {sp : Int32} (h : sp < 0 ∨ nI n ≤ sp) : zOf c n sp = 50000 := by
  unfold zOf
  rw [if_neg (fun w => ?_)]
  rcases h with h | h
  · exact Int32.lt_irrefl (Int32.lt_of_lt_of_le h w.1)
  · exact Int32.lt_irrefl (Int32.lt_of_lt_of_le w.2 h)
set_option maxRecDepth 16384 in
theorem zOf_yes {c n k : Nat} (hk : k < n) (hn : n ≤ 40000) : zOf c n (nI k) = c + k := by
  unfold zOf; rw [if_pos ⟨nI_le (a := 0) (by omega) (by omega), nI_lt hk (by omega)⟩, nI_clamp (by omega)]
set_option maxRecDepth 16384 in
theorem m_crash_t {k n : Nat} {J' l6 : Nat → Int32} {sp x6 : Int32} {o6 : Option Value} (hS : shape h) (hq : q < 2) (hh : hist hs N) (hk : k ≤ N) (eS : S = sC (hs N) (yR (hs k))) (hn : yC S + n ≤ yR S) (h6 : h.2[619]? = some (.inl (11, modF V))) {z : Nat}
    (hJ : h.2[632]? = some (.inr (1, 80000, .inl J'))) (hbv : ∀ j, j < yC S + n → J' (40000 * q + j) = nI (trn (jN (hs N)) z j))
    (hQ : ∀ i h', stopR hs N (yC S + n) z i → RY h' q (sC (hs i) (yR (hs i))) → (∀ q2 S2, q2 < 2 → q2 ≠ q → WFy S2 → RY h q2 S2 → RY h' q2 S2) → frm (fun r => rbA r ∨ r = 633 ∨ r = 634 ∨ r = 655) h h' → shape h' → (∀ t, t < 4 → iA h' 655 t = 0) → (∃ V', h'.2[619]? = some (.inl (11, modF V')) ∧ vSame V V') → Q (.inl (some (.int (nI (yR (hs i)))))) h') :
    px_Wp sx 237 120 [some (.ref 619), some (.int (nI q)), some (.int (nI n)), some (.int sp), some (.int 1), some (.int (nI (yC S + n))), o6] [] h Q := by
  have hc6 : px_cls h 619 = some 11 := by unfold px_cls; rw [h6]
  have hRe : yR (hs N) = yR S := by rw [eS]; rfl
  have iq : px_in (nI q) 2 = true := px_inb hq (by decide)
  have cq : (nI q).toNatClampNeg = q := nI_clamp (by omega)
  have n1 : ∀ x : Int32, px_nar 1 x = x := fun _ => rfl
  have n3 : px_nar 3 0 = 0 := by decide
  simp only [pc237_120, pc237_120n, pc237_121, pc237_124, pc237_125, pc237_125n, pc237_126, pc237_127, pc237_129, px_op_some, px_kv_ap, px_ki_ap, px_kl_ap, px_kn_ap, px_kh_ap, px_op_none, px_K_some, px_K_none, px_K_thr, px_kill, ↓reduceIte, if_true, if_false, true_and, and_true, px_gf, px_pf, px_ai, px_aj, px_aa, px_wi, px_wj, px_wa, px_an, px_cls, h6, mf_15, hc6]
  refine m_readJournal (J := J') (z := z) hh hq hS h6 (by omega) hJ hbv (fun i h1 st rd => ?_)
  obtain ⟨r1, r2, r3, r4, V1, r5, r6⟩ := rd
  have s1 := r4 hS
  have hl1 := s1.1
  have nr : ∀ r, ¬ rbA r → h1.2[r]? = h.2[r]? := fun r hr => r3.2.2 r hr
  have a33 : h1.2[633]? = some (.inr (1, 2, .inl (iA h 633))) := (nr 633 (by unfold rbA; omega)).trans (at_633 hS)
  have a34 : h1.2[634]? = some (.inr (1, 2, .inl (iA h 634))) := (nr 634 (by unfold rbA; omega)).trans (at_634 hS)
  have a55 : h1.2[655]? = some (.inr (3, 4, .inl (iA h 655))) := (nr 655 (by unfold rbA; omega)).trans (at_655 hS)
  have i0 : px_in (0 : Int32) 4 = true := by decide
  have i1 : px_in (1 : Int32) 4 = true := by decide
  have i2 : px_in (2 : Int32) 4 = true := by decide
  have i3 : px_in (3 : Int32) 4 = true := by decide
  simp only [px_K_some, pc237_132, pc237_133, pc237_133n, pc237_134, pc237_137, pc237_138, pc237_138n, pc237_139, pc237_142, pc237_143, pc237_144, pc237_145, pc237_146, pc237_148, pc237_150, pc237_151, pc237_154, pc237_154n, pc237_155, pc237_158, pc237_160, pc237_161, pc237_162, pc237_165, pc237_168, pc237_168n, pc237_169, pc237_172, pc237_173, pc237_174, px_op_some, px_kv_ap, px_ki_ap, px_kl_ap, px_kn_ap, px_kh_ap, px_op_none, px_K_some, px_K_none, px_K_thr, px_kill, ↓reduceIte, if_true, if_false, true_and, and_true, px_gf, px_pf, px_ai, px_aj, px_aa, px_wi, px_wj, px_wa, px_an, px_cls, yr_0, yr_1, tr_0, tr_1, tr_2, tr_3, px_rf, of_2, of_4, in_02, in_12, in_04, in_14, in_24, in_34, Nat.reduceLeDiff, in_01, lgc_self, Int32.reduceToNatClampNeg, wr_at, al_at, px_wr_len, px_al_len, px_wr_1, px_al_1, tg_0, tg_1, tg_2, tg_3, tg_12, tg_15, tg_17, tg_18, tg_i1, tg_b0, tg_b3, px_fit, Nat.reduceEqDiff, Nat.reduceLT, Nat.reduceAdd, Option.some.injEq, up_at, px_wr_wr, i32_le, Int32.reduceLE, Int32.reduceLT, mf_len, nar_0, nar_1, px_KH_some, px_KH_none, px_KH_thr, List.length_cons, List.length_nil, List.getElem?_cons_zero, List.getElem?_cons_succ, List.set_cons_zero, List.set_cons_succ, ↓reduceIte, Nat.lt_irrefl, ne_0_1, ne_0_2, ne_0_3, ne_0_4, ne_0_5, ne_1_0, ne_1_2, ne_1_3, ne_1_4, ne_1_5, ne_2_0, ne_2_1, ne_2_3, ne_2_4, ne_2_5, ne_3_0, ne_3_1, ne_3_2, ne_3_4, ne_3_5, ne_4_0, ne_4_1, ne_4_2, ne_4_3, ne_4_5, ne_5_0, ne_5_1, ne_5_2, ne_5_3, ne_5_4, hd_256_12, hd_256_16, hd_257_12, hd_258_12, hd_259_12, hd_260_12, hd_261_12, hd_261_13, hd_261_16, hd_262_12, hd_262_13, hd_262_16, hd_263_12, hd_263_13, hd_264_12, hd_264_13, hd_264_14, hd_265_12, hd_265_13, hd_265_14, hd_266_12, hd_267_12, hd_267_13, hd_267_14, hd_268_12, hd_269_12, hd_269_14, hd_270_12, hd_271_12, hd_272_12, hd_273_12, hd_273_13, hd_273_15, hd_274_12, hd_274_15, hd_275_12, hd_275_15, hd_276_12, nI_p1, nI_p2, nI_p3, nI_p4, nI_p5, not_true_eq_false, not_false_eq_true, and_self, mf_0, mf_1, mf_2, mf_3, mf_4, mf_5, mf_6, mf_7, mf_8, mf_9, mf_10, mf_11, mf_12, mf_13, mf_14, mf_15, mf_16, mf_17, mf_18, mf_19, mf_20, mf_21, mf_22, mf_23, mf_24, mf_25, mf_26, mf_27, mf_28, mf_29, mf_30, mf_31, mf_32, mf_33, mf_34, mf_35, mf_36, mf_37, mf_38, mf_39, mf_40, mf_41, mf_42, mf_43, mf_44, mf_45, mf_46, mf_47, mf_48, mf_49, mf_50, mf_51, mf_52, mf_53, mf_54, mf_55, mf_56, mf_57, mf_58, mf_59, mf_60, mf_61, mfs_0, mfs_2, mfs_17, mfs_20, mfs_26, mfs_32, mfs_34, mfs_36, mfs_38, mfs_43, mfs_44, mfs_45, mfs_46, mfs_47, iy_0, iy_1, iy_2, iy_3, iy_4, iy_5, iy_6, tg_i1, tg_b3, px_kill, r5, a33, a34, a55, mf_15, mf_16, mf_49, iq, cq, n1, n3, i0, i1, i2, i3, up_same, shape_1 s1, Int32.reduceAdd]
  generalize hw3 : px_up (px_up (px_up (px_up (iA h 655) 0 0) 1 0) 2 0) 3 0 = o4
  have ho4 : ∀ t, t < 4 → o4 t = 0 := fun t ht => by
    rw [← hw3]
    have : t = 0 ∨ t = 1 ∨ t = 2 ∨ t = 3 := by omega
    rcases this with rfl | rfl | rfl | rfl <;> rfl
  generalize hH : px_wr (px_wr (px_wr h1 633 (.inr (1, 2, .inl (px_up (iA h 633) q (nI (yR (hs i))))))) 634 (.inr (1, 2, .inl (px_up (iA h 634) q (nI (yR (hs i))))))) 655 (.inr (3, 4, .inl o4)) = H
  have z33 : H.2[633]? = some (.inr (1, 2, .inl (px_up (iA h 633) q (nI (yR (hs i)))))) := by rw [← hH, wr_at, if_neg (by decide), wr_at, if_neg (by decide), wr_at, if_pos rfl, if_pos (by omega)]
  have z34 : H.2[634]? = some (.inr (1, 2, .inl (px_up (iA h 634) q (nI (yR (hs i)))))) := by rw [← hH, wr_at, if_neg (by decide), wr_at, if_pos rfl, if_pos (by rw [px_wr_len]; omega)]
  have z55 : H.2[655]? = some (.inr (3, 4, .inl o4)) := by rw [← hH, wr_at, if_pos rfl, if_pos (by simp only [px_wr_len]; omega)]
  have zr : ∀ r, r ≠ 633 → r ≠ 634 → r ≠ 655 → H.2[r]? = h1.2[r]? := fun r a b c => by rw [← hH, wr_at, if_neg (fun e => c e.symm), wr_at, if_neg (fun e => b e.symm), wr_at, if_neg (fun e => a e.symm)]
  have z32 : H.2[632]? = some (.inr (1, 80000, .inl J')) := ((zr 632 (by decide) (by decide) (by decide)).trans (nr 632 (by unfold rbA; omega))).trans hJ
  have ol := ok_le hh i st.1 st.2.1
  have le := hist_le hh (N - i) i (by have := st.1; omega)
  rw [show i + (N - i) = N by have := st.1; omega] at le
  refine hQ i H st ⟨⟨J', z32, fun j hj => ?_⟩, ⟨_, z33, up_same _ _ _⟩, ⟨_, z34, up_same _ _ _⟩, RYb_frm r1 (fun r a b => zr r (by omega) (by omega) (by omega))⟩ (fun q2 S2 hq2 hne w2 c9 => ?_) ?_ ?_ (fun t ht => by rw [iA_of z55]; exact ho4 t ht) ⟨V1, (zr 619 (by decide) (by decide) (by decide)).trans r5, r6⟩
  · have hj' : j < yR (hs i) := hj
    rw [hbv j (by omega), trn_ne (by omega), ← (jN_ok (hist_good hh N (Nat.le_refl _)).1 (j := j) (by omega)).1]
    exact le.2 j hj'
  · obtain ⟨⟨J0, a1, a2⟩, ⟨W0, b1, b2⟩, ⟨C0, c1, c2⟩, rest⟩ := c9
    cases hJ.symm.trans a1
    cases (at_633 hS).symm.trans b1
    cases (at_634 hS).symm.trans c1
    exact ⟨⟨J', z32, a2⟩, ⟨_, z33, by rw [up_ne hne]; exact b2⟩, ⟨_, z34, by rw [up_ne hne]; exact c2⟩, RYb_frm (r2 q2 S2 hq2 hne w2 rest) (fun r a b => zr r (by omega) (by omega) (by omega))⟩
  · rw [← hH]
    exact frm_wr (frm_wr (frm_wr (frm_mono r3 (fun r x => .inl x)) (.inr (.inl rfl))) (.inr (.inr (.inl rfl)))) (.inr (.inr (.inr rfl)))
  · rw [← hH]
    refine shape_wr (shape_wr (shape_wr s1 ?_) ?_) ?_ <;> rfl
end MCRW
