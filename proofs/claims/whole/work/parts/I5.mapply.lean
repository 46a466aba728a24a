/-! TREES, the reference's: an item applied -/
set_option maxRecDepth 16384 in
theorem cutP_cut {p : Nat → Nat} {k m : Nat} (h : k ≤ m) : cutP (cutP p m) k = cutP p k := by
  funext j
  unfold cutP
  by_cases x : j < k
  · rw [if_pos x, if_pos (by omega), if_pos x]
  · rw [if_neg x, if_neg x]
/-! what has something below it is a directory of the tree -/
set_option maxRecDepth 16384 in
theorem below_in {n : Nat} {E : Nat → aE} (h : tOK n E) {p : Nat → Nat} {l : Nat} (hp : pth p l) : ∀ m j, j < n → eL (E j) ≤ m → blw p l (eP (E j)) → ∃ i, i < n ∧ eP (E i) = p ∧ eK (E i) = 1 := by
  intro m
  induction m with
  | zero =>
    intro j hj hm _
    have := (h.2.1 j hj).1.1
    omega
  | succ m ih =>
    intro j hj hm b
    have pj := (h.2.1 j hj).1
    have lj : l < eL (E j) := by
      apply Classical.byContradiction
      intro z
      have := pj.2.2.2.1 l (by omega)
      rw [b.2] at this; exact absurd this (by decide)
    have l1 := hp.1
    have ge : l ≤ homeL (eP (E j)) (eL (E j)) := by
      apply Classical.byContradiction
      intro z
      exact home_no _ l (by omega) lj b.2
    have h0 : homeL (eP (E j)) (eL (E j)) ≠ 0 := by omega
    obtain ⟨c1, c2, c3, c4⟩ := home_blw pj h0
    obtain ⟨k, k1, k2, k3⟩ := h.2.2.2 j hj h0
    by_cases x : homeL (eP (E j)) (eL (E j)) = l
    · refine ⟨k, k1, ?_, k3⟩
      rw [k2, x]
      funext i
      by_cases y : i < l
      · rw [cutP_lt y]; exact b.1 i y
      · rw [cutP_ge (by omega), hp.2.2.2.1 i (by omega)]
    · have lk : eL (E k) = homeL (eP (E j)) (eL (E j)) := pth_len (h.2.1 k k1).1 (by rw [k2]; exact c4)
      refine ih k k1 (by omega) ⟨fun i hi => ?_, ?_⟩
      · rw [k2, cutP_lt (by omega)]; exact b.1 i hi
      · rw [k2, cutP_lt (by omega)]; exact b.2
set_option maxRecDepth 16384 in
theorem none_below {n : Nat} {E : Nat → aE} (h : tOK n E) {p : Nat → Nat} {l : Nat} (hp : pth p l) (no : ∀ i, i < n → eP (E i) = p → ¬ eK (E i) = 1) {j : Nat} (hj : j < n) : ¬ blw p l (eP (E j)) := fun b => by
  obtain ⟨i, i1, i2, i3⟩ := below_in h hp _ j hj (Nat.le_refl _) b
  exact no i i1 i2 i3
def abv (p : Nat → Nat) (l : Nat) : Int32 := if homeL p l = 0 then -1 else nI (homeL p l)
section MAPP
variable {sx : Nat × (Nat → Int32)} {h : px_H} {n l k m s : Nat} {V : Nat → Int32} {D : Nat → Prop} {T : Nat → aE} {p : Nat → Nat} {c row : Nat → Int32} {Q : px_O → px_H → Prop}
set_option maxRecDepth 16384 in
theorem m_above_l {A NA a : Nat} {f : Nat → Int32} (hA : h.2[A]? = some (.inr (1, NA, .inl f))) (hNA : NA ≤ 100000) (ha : a + l ≤ NA) (hp : pth p l) (hf : ∀ j, j < l → f (a + j) = nI (p j)) (hQ : Q (.inl (some (.int (abv p l)))) h) :
    ∀ k, k ≤ l → homeL p l = homeL p k → px_Wp sx 184 4 [some (.ref A), some (.int (nI a)), some (.int (nI l)), some (.int (idm k))] [] h Q := by
  have l35 := hp.2.1
  intro k
  induction k with
  | zero =>
    intro hk e
    have neg : (-1 : Int32) < 0 := by decide
    have ev : abv p l = -1 := if_pos (by rw [e]; rfl)
    rw [ev] at hQ
    simp only [idm, pc184_4, pc184_5, pc184_24, pc184_25, neg, if_true]
    exact hQ
  | succ k ih =>
    intro hk e
    have pos : ¬ nI k < 0 := nI_pos (by omega)
    have ia : px_in (nI (a + k)) NA = true := px_inb (by omega) (by omega)
    have ca : (nI (a + k)).toNatClampNeg = a + k := nI_clamp (by omega)
    have fk := hf k (by omega)
    have bk := pth_pos hp (show k < l by omega)
    simp only [idm]
    rw [pc184_4]
    by_cases x : p k = 47
    · have e47 : nI (p k) = 47 := by rw [x]; rfl
      have hk0 : k ≠ 0 := fun z => by subst z; exact hp.2.2.2.2.1 x
      have hh : homeL p l = k := by rw [e]; unfold homeL; rw [if_pos x]
      have ev : abv p l = nI k := by unfold abv; rw [hh, if_neg hk0]
      rw [ev] at hQ
      simp only [pc184_5, pc184_8, pc184_8n, pc184_9, pc184_10, pc184_11, pc184_12, pc184_13, pc184_15, pc184_24, pc184_25, px_op_some, px_kv_ap, px_ki_ap, px_kl_ap, px_kn_ap, px_kh_ap, px_op_none, px_K_some, px_K_none, px_K_thr, px_kill, ↓reduceIte, if_true, if_false, true_and, and_true, yr_0, yr_1, tr_0, tr_1, tr_2, tr_3, px_rf, of_2, of_4, in_02, in_12, in_04, in_14, in_24, in_34, Nat.reduceLeDiff, in_01, lgc_self, Int32.reduceToNatClampNeg, wr_at, al_at, px_wr_len, px_al_len, px_wr_1, px_al_1, tg_0, tg_1, tg_2, tg_3, tg_12, tg_15, tg_17, tg_18, tg_i1, tg_b0, tg_b3, px_fit, Nat.reduceEqDiff, Nat.reduceLT, Nat.reduceAdd, Option.some.injEq, up_at, px_wr_wr, i32_le, Int32.reduceLE, Int32.reduceLT, mf_len, nar_0, nar_1, px_KH_some, px_KH_none, px_KH_thr, List.length_cons, List.length_nil, List.getElem?_cons_zero, List.getElem?_cons_succ, List.set_cons_zero, List.set_cons_succ, ↓reduceIte, Nat.lt_irrefl, ne_0_1, ne_0_2, ne_0_3, ne_0_4, ne_0_5, ne_1_0, ne_1_2, ne_1_3, ne_1_4, ne_1_5, ne_2_0, ne_2_1, ne_2_3, ne_2_4, ne_2_5, ne_3_0, ne_3_1, ne_3_2, ne_3_4, ne_3_5, ne_4_0, ne_4_1, ne_4_2, ne_4_3, ne_4_5, ne_5_0, ne_5_1, ne_5_2, ne_5_3, ne_5_4, hd_256_12, hd_256_16, hd_257_12, hd_258_12, hd_259_12, hd_260_12, hd_261_12, hd_261_13, hd_261_16, hd_262_12, hd_262_13, hd_262_16, hd_263_12, hd_263_13, hd_264_12, hd_264_13, hd_264_14, hd_265_12, hd_265_13, hd_265_14, hd_266_12, hd_267_12, hd_267_13, hd_267_14, hd_268_12, hd_269_12, hd_269_14, hd_270_12, hd_271_12, hd_272_12, hd_273_12, hd_273_13, hd_273_15, hd_274_12, hd_274_15, hd_275_12, hd_275_15, hd_276_12, nI_p1, nI_p2, nI_p3, nI_p4, nI_p5, not_true_eq_false, not_false_eq_true, and_self, mf_0, mf_1, mf_2, mf_3, mf_4, mf_5, mf_6, mf_7, mf_8, mf_9, mf_10, mf_11, mf_12, mf_13, mf_14, mf_15, mf_16, mf_17, mf_18, mf_19, mf_20, mf_21, mf_22, mf_23, mf_24, mf_25, mf_26, mf_27, mf_28, mf_29, mf_30, mf_31, mf_32, mf_33, mf_34, mf_35, mf_36, mf_37, mf_38, mf_39, mf_40, mf_41, mf_42, mf_43, mf_44, mf_45, mf_46, mf_47, mf_48, mf_49, mf_50, mf_51, mf_52, mf_53, mf_54, mf_55, mf_56, mf_57, mf_58, mf_59, mf_60, mf_61, mfs_0, mfs_2, mfs_17, mfs_20, mfs_26, mfs_32, mfs_34, mfs_36, mfs_38, mfs_43, mfs_44, mfs_45, mfs_46, mfs_47, iy_0, iy_1, iy_2, iy_3, iy_4, iy_5, iy_6, px_ai, hA, pos, nI_add, ia, ca, fk, e47, tg_i1]
      exact hQ
    · have e47 : (nI (p k) = 47) = False := eq_false (fun z => x ((nI_inj (b := 47) (by omega) (by decide)).mp z))
      simp only [pc184_5, pc184_8, pc184_8n, pc184_9, pc184_10, pc184_11, pc184_12, pc184_13, pc184_15, pc184_18, pc184_21, px_op_some, px_kv_ap, px_ki_ap, px_kl_ap, px_kn_ap, px_kh_ap, px_op_none, px_K_some, px_K_none, px_K_thr, px_kill, ↓reduceIte, if_true, if_false, true_and, and_true, yr_0, yr_1, tr_0, tr_1, tr_2, tr_3, px_rf, of_2, of_4, in_02, in_12, in_04, in_14, in_24, in_34, Nat.reduceLeDiff, in_01, lgc_self, Int32.reduceToNatClampNeg, wr_at, al_at, px_wr_len, px_al_len, px_wr_1, px_al_1, tg_0, tg_1, tg_2, tg_3, tg_12, tg_15, tg_17, tg_18, tg_i1, tg_b0, tg_b3, px_fit, Nat.reduceEqDiff, Nat.reduceLT, Nat.reduceAdd, Option.some.injEq, up_at, px_wr_wr, i32_le, Int32.reduceLE, Int32.reduceLT, mf_len, nar_0, nar_1, px_KH_some, px_KH_none, px_KH_thr, List.length_cons, List.length_nil, List.getElem?_cons_zero, List.getElem?_cons_succ, List.set_cons_zero, List.set_cons_succ, ↓reduceIte, Nat.lt_irrefl, ne_0_1, ne_0_2, ne_0_3, ne_0_4, ne_0_5, ne_1_0, ne_1_2, ne_1_3, ne_1_4, ne_1_5, ne_2_0, ne_2_1, ne_2_3, ne_2_4, ne_2_5, ne_3_0, ne_3_1, ne_3_2, ne_3_4, ne_3_5, ne_4_0, ne_4_1, ne_4_2, ne_4_3, ne_4_5, ne_5_0, ne_5_1, ne_5_2, ne_5_3, ne_5_4, hd_256_12, hd_256_16, hd_257_12, hd_258_12, hd_259_12, hd_260_12, hd_261_12, hd_261_13, hd_261_16, hd_262_12, hd_262_13, hd_262_16, hd_263_12, hd_263_13, hd_264_12, hd_264_13, hd_264_14, hd_265_12, hd_265_13, hd_265_14, hd_266_12, hd_267_12, hd_267_13, hd_267_14, hd_268_12, hd_269_12, hd_269_14, hd_270_12, hd_271_12, hd_272_12, hd_273_12, hd_273_13, hd_273_15, hd_274_12, hd_274_15, hd_275_12, hd_275_15, hd_276_12, nI_p1, nI_p2, nI_p3, nI_p4, nI_p5, not_true_eq_false, not_false_eq_true, and_self, mf_0, mf_1, mf_2, mf_3, mf_4, mf_5, mf_6, mf_7, mf_8, mf_9, mf_10, mf_11, mf_12, mf_13, mf_14, mf_15, mf_16, mf_17, mf_18, mf_19, mf_20, mf_21, mf_22, mf_23, mf_24, mf_25, mf_26, mf_27, mf_28, mf_29, mf_30, mf_31, mf_32, mf_33, mf_34, mf_35, mf_36, mf_37, mf_38, mf_39, mf_40, mf_41, mf_42, mf_43, mf_44, mf_45, mf_46, mf_47, mf_48, mf_49, mf_50, mf_51, mf_52, mf_53, mf_54, mf_55, mf_56, mf_57, mf_58, mf_59, mf_60, mf_61, mfs_0, mfs_2, mfs_17, mfs_20, mfs_26, mfs_32, mfs_34, mfs_36, mfs_38, mfs_43, mfs_44, mfs_45, mfs_46, mfs_47, iy_0, iy_1, iy_2, iy_3, iy_4, iy_5, iy_6, px_ai, hA, pos, nI_add, ia, ca, fk, e47, tg_i1, px_kill, idm_add]
      exact ih (by omega) (by rw [e]; show homeL p (k + 1) = homeL p k; rw [homeL, if_neg x])
set_option maxRecDepth 16384 in
theorem m_above {A NA a : Nat} {f : Nat → Int32} (hA : h.2[A]? = some (.inr (1, NA, .inl f))) (hNA : NA ≤ 100000) (ha : a + l ≤ NA) (hp : pth p l) (hf : ∀ j, j < l → f (a + j) = nI (p j)) (hQ : Q (.inl (some (.int (abv p l)))) h) :
    px_Wp sx 184 0 [some (.ref A), some (.int (nI a)), some (.int (nI l)), none] [] h Q := by
  simp only [pc184_0, pc184_1, pc184_2, pc184_3, px_op_some, px_kv_ap, px_ki_ap, px_kl_ap, px_kn_ap, px_kh_ap, px_op_none, px_K_some, px_K_none, px_K_thr, px_kill, ↓reduceIte, if_true, if_false, true_and, and_true, px_kill, idm_sub]
  exact m_above_l hA hNA ha hp hf hQ l (Nat.le_refl _) rfl
set_option maxRecDepth 16384 in
theorem m_hasPlace (h6 : h.2[619]? = some (.inl (11, modF V))) (hv : V 20 = nI n) (hv2 : V 32 = nI l) (hn : n ≤ 81) (w : mtE h D T) (hD : ∀ i, i < n → D i) (srt : ∀ i j, i < j → j < n → plt (eP (T i)) (eP (T j))) (pt : mpt h p l) (hp : pth p l)
    (hQ : ∀ x, says x (homed n T p l) → Q (.inl (some (.int x))) h) :
    px_Wp sx 183 0 [some (.ref 619), none, none] [] h Q := by
  have hcls : px_cls h 619 = some 11 := by unfold px_cls; rw [h6]
  have l35 := hp.2.1
  have pt' := pt
  obtain ⟨g, g1, g2⟩ := pt'
  simp only [pc183_0, pc183_0n, pc183_1, pc183_4, pc183_5, pc183_5n, pc183_6, pc183_9, px_op_some, px_kv_ap, px_ki_ap, px_kl_ap, px_kn_ap, px_kh_ap, px_op_none, px_K_some, px_K_none, px_K_thr, px_kill, ↓reduceIte, if_true, if_false, true_and, and_true, px_gf, h6, mf_32, mf_33, hv2]
  refine m_above (a := 0) g1 (by decide) (by omega) hp (fun j hj => by rw [Nat.zero_add]; exact g2 j hj) ?_
  unfold abv
  by_cases x : homeL p l = 0
  · have neg : (-1 : Int32) < 0 := by decide
    have neg' : ¬ (0 : Int32) ≤ -1 := by decide
    rw [if_pos x]
    simp only [px_K_some, pc183_12, pc183_13, pc183_14, pc183_17, pc183_18, pc183_21, pc183_21n, pc183_22, pc183_23, pc183_26, pc183_27, pc183_28, pc183_45, pc183_46, pc183_49, pc183_50, px_op_some, px_kv_ap, px_ki_ap, px_kl_ap, px_kn_ap, px_kh_ap, px_op_none, px_K_some, px_K_none, px_K_thr, px_kill, ↓reduceIte, if_true, if_false, true_and, and_true, yr_0, yr_1, tr_0, tr_1, tr_2, tr_3, px_rf, of_2, of_4, in_02, in_12, in_04, in_14, in_24, in_34, Nat.reduceLeDiff, in_01, lgc_self, Int32.reduceToNatClampNeg, wr_at, al_at, px_wr_len, px_al_len, px_wr_1, px_al_1, tg_0, tg_1, tg_2, tg_3, tg_12, tg_15, tg_17, tg_18, tg_i1, tg_b0, tg_b3, px_fit, Nat.reduceEqDiff, Nat.reduceLT, Nat.reduceAdd, Option.some.injEq, up_at, px_wr_wr, i32_le, Int32.reduceLE, Int32.reduceLT, mf_len, nar_0, nar_1, px_KH_some, px_KH_none, px_KH_thr, List.length_cons, List.length_nil, List.getElem?_cons_zero, List.getElem?_cons_succ, List.set_cons_zero, List.set_cons_succ, ↓reduceIte, Nat.lt_irrefl, ne_0_1, ne_0_2, ne_0_3, ne_0_4, ne_0_5, ne_1_0, ne_1_2, ne_1_3, ne_1_4, ne_1_5, ne_2_0, ne_2_1, ne_2_3, ne_2_4, ne_2_5, ne_3_0, ne_3_1, ne_3_2, ne_3_4, ne_3_5, ne_4_0, ne_4_1, ne_4_2, ne_4_3, ne_4_5, ne_5_0, ne_5_1, ne_5_2, ne_5_3, ne_5_4, hd_256_12, hd_256_16, hd_257_12, hd_258_12, hd_259_12, hd_260_12, hd_261_12, hd_261_13, hd_261_16, hd_262_12, hd_262_13, hd_262_16, hd_263_12, hd_263_13, hd_264_12, hd_264_13, hd_264_14, hd_265_12, hd_265_13, hd_265_14, hd_266_12, hd_267_12, hd_267_13, hd_267_14, hd_268_12, hd_269_12, hd_269_14, hd_270_12, hd_271_12, hd_272_12, hd_273_12, hd_273_13, hd_273_15, hd_274_12, hd_274_15, hd_275_12, hd_275_15, hd_276_12, nI_p1, nI_p2, nI_p3, nI_p4, nI_p5, not_true_eq_false, not_false_eq_true, and_self, mf_0, mf_1, mf_2, mf_3, mf_4, mf_5, mf_6, mf_7, mf_8, mf_9, mf_10, mf_11, mf_12, mf_13, mf_14, mf_15, mf_16, mf_17, mf_18, mf_19, mf_20, mf_21, mf_22, mf_23, mf_24, mf_25, mf_26, mf_27, mf_28, mf_29, mf_30, mf_31, mf_32, mf_33, mf_34, mf_35, mf_36, mf_37, mf_38, mf_39, mf_40, mf_41, mf_42, mf_43, mf_44, mf_45, mf_46, mf_47, mf_48, mf_49, mf_50, mf_51, mf_52, mf_53, mf_54, mf_55, mf_56, mf_57, mf_58, mf_59, mf_60, mf_61, mfs_0, mfs_2, mfs_17, mfs_20, mfs_26, mfs_32, mfs_34, mfs_36, mfs_38, mfs_43, mfs_44, mfs_45, mfs_46, mfs_47, iy_0, iy_1, iy_2, iy_3, iy_4, iy_5, iy_6, neg, neg', px_kill, nar_1]
    exact hQ 1 (.inl ⟨rfl, .inl x⟩)
  · have hm := (home_lt (p := p) l).1
    have pos : ¬ nI (homeL p l) < 0 := nI_pos (by omega)
    have pos' : 0 ≤ nI (homeL p l) := nI_pos' (by omega)
    rw [if_neg x]
    simp only [px_K_some, pc183_12, pc183_13, pc183_14, pc183_21, pc183_21n, pc183_22, pc183_23, px_op_some, px_kv_ap, px_ki_ap, px_kl_ap, px_kn_ap, px_kh_ap, px_op_none, px_K_some, px_K_none, px_K_thr, px_kill, ↓reduceIte, if_true, if_false, true_and, and_true, pos', hcls, px_kill]
    refine m_entryOf h6 hv hn w hD pt (pth_rng hp) (by omega) hm (fun y hy => ?_)
    rcases hy with ⟨i, i1, i2, rfl⟩ | ⟨i1, rfl⟩
    · obtain ⟨P, LN, K, Z, C, ⟨a1, a2, a3, a4, a5⟩, w2⟩ := w
      obtain ⟨i82, ok, r1, r2, r3, r4, r5⟩ := w2 i (hD i i1)
      have ii : px_in (nI i) 82 = true := px_inb (by omega) (by decide)
      have ci : (nI i).toNatClampNeg = i := nI_clamp (by omega)
      have pi : ¬ nI i < 0 := nI_pos (by omega)
      rcases ok.2 with ⟨kd, -⟩ | ⟨kd, -⟩
      · have nk : nI (eK (T i)) = 1 := by rw [kd]; rfl
        simp only [px_K_some, pc183_26, pc183_27, pc183_28, pc183_31, pc183_32, pc183_35, pc183_35n, pc183_36, pc183_39, pc183_40, pc183_41, pc183_42, pc183_45, pc183_46, pc183_49, pc183_50, px_op_some, px_kv_ap, px_ki_ap, px_kl_ap, px_kn_ap, px_kh_ap, px_op_none, px_K_some, px_K_none, px_K_thr, px_kill, ↓reduceIte, if_true, if_false, true_and, and_true, yr_0, yr_1, tr_0, tr_1, tr_2, tr_3, px_rf, of_2, of_4, in_02, in_12, in_04, in_14, in_24, in_34, Nat.reduceLeDiff, in_01, lgc_self, Int32.reduceToNatClampNeg, wr_at, al_at, px_wr_len, px_al_len, px_wr_1, px_al_1, tg_0, tg_1, tg_2, tg_3, tg_12, tg_15, tg_17, tg_18, tg_i1, tg_b0, tg_b3, px_fit, Nat.reduceEqDiff, Nat.reduceLT, Nat.reduceAdd, Option.some.injEq, up_at, px_wr_wr, i32_le, Int32.reduceLE, Int32.reduceLT, mf_len, nar_0, nar_1, px_KH_some, px_KH_none, px_KH_thr, List.length_cons, List.length_nil, List.getElem?_cons_zero, List.getElem?_cons_succ, List.set_cons_zero, List.set_cons_succ, ↓reduceIte, Nat.lt_irrefl, ne_0_1, ne_0_2, ne_0_3, ne_0_4, ne_0_5, ne_1_0, ne_1_2, ne_1_3, ne_1_4, ne_1_5, ne_2_0, ne_2_1, ne_2_3, ne_2_4, ne_2_5, ne_3_0, ne_3_1, ne_3_2, ne_3_4, ne_3_5, ne_4_0, ne_4_1, ne_4_2, ne_4_3, ne_4_5, ne_5_0, ne_5_1, ne_5_2, ne_5_3, ne_5_4, hd_256_12, hd_256_16, hd_257_12, hd_258_12, hd_259_12, hd_260_12, hd_261_12, hd_261_13, hd_261_16, hd_262_12, hd_262_13, hd_262_16, hd_263_12, hd_263_13, hd_264_12, hd_264_13, hd_264_14, hd_265_12, hd_265_13, hd_265_14, hd_266_12, hd_267_12, hd_267_13, hd_267_14, hd_268_12, hd_269_12, hd_269_14, hd_270_12, hd_271_12, hd_272_12, hd_273_12, hd_273_13, hd_273_15, hd_274_12, hd_274_15, hd_275_12, hd_275_15, hd_276_12, nI_p1, nI_p2, nI_p3, nI_p4, nI_p5, not_true_eq_false, not_false_eq_true, and_self, mf_0, mf_1, mf_2, mf_3, mf_4, mf_5, mf_6, mf_7, mf_8, mf_9, mf_10, mf_11, mf_12, mf_13, mf_14, mf_15, mf_16, mf_17, mf_18, mf_19, mf_20, mf_21, mf_22, mf_23, mf_24, mf_25, mf_26, mf_27, mf_28, mf_29, mf_30, mf_31, mf_32, mf_33, mf_34, mf_35, mf_36, mf_37, mf_38, mf_39, mf_40, mf_41, mf_42, mf_43, mf_44, mf_45, mf_46, mf_47, mf_48, mf_49, mf_50, mf_51, mf_52, mf_53, mf_54, mf_55, mf_56, mf_57, mf_58, mf_59, mf_60, mf_61, mfs_0, mfs_2, mfs_17, mfs_20, mfs_26, mfs_32, mfs_34, mfs_36, mfs_38, mfs_43, mfs_44, mfs_45, mfs_46, mfs_47, iy_0, iy_1, iy_2, iy_3, iy_4, iy_5, iy_6, px_gf, px_ai, h6, mf_23, a3, pos, pi, ii, ci, r2, nk, tg_i1, px_kill, nar_1]
        exact hQ 1 (.inl ⟨rfl, .inr ⟨i, i1, i2, kd⟩⟩)
      · have nk : nI (eK (T i)) = 2 := by rw [kd]; rfl
        simp only [px_K_some, pc183_26, pc183_27, pc183_28, pc183_31, pc183_32, pc183_35, pc183_35n, pc183_36, pc183_39, pc183_40, pc183_41, pc183_42, pc183_49, pc183_50, px_op_some, px_kv_ap, px_ki_ap, px_kl_ap, px_kn_ap, px_kh_ap, px_op_none, px_K_some, px_K_none, px_K_thr, px_kill, ↓reduceIte, if_true, if_false, true_and, and_true, yr_0, yr_1, tr_0, tr_1, tr_2, tr_3, px_rf, of_2, of_4, in_02, in_12, in_04, in_14, in_24, in_34, Nat.reduceLeDiff, in_01, lgc_self, Int32.reduceToNatClampNeg, wr_at, al_at, px_wr_len, px_al_len, px_wr_1, px_al_1, tg_0, tg_1, tg_2, tg_3, tg_12, tg_15, tg_17, tg_18, tg_i1, tg_b0, tg_b3, px_fit, Nat.reduceEqDiff, Nat.reduceLT, Nat.reduceAdd, Option.some.injEq, up_at, px_wr_wr, i32_le, Int32.reduceLE, Int32.reduceLT, mf_len, nar_0, nar_1, px_KH_some, px_KH_none, px_KH_thr, List.length_cons, List.length_nil, List.getElem?_cons_zero, List.getElem?_cons_succ, List.set_cons_zero, List.set_cons_succ, ↓reduceIte, Nat.lt_irrefl, ne_0_1, ne_0_2, ne_0_3, ne_0_4, ne_0_5, ne_1_0, ne_1_2, ne_1_3, ne_1_4, ne_1_5, ne_2_0, ne_2_1, ne_2_3, ne_2_4, ne_2_5, ne_3_0, ne_3_1, ne_3_2, ne_3_4, ne_3_5, ne_4_0, ne_4_1, ne_4_2, ne_4_3, ne_4_5, ne_5_0, ne_5_1, ne_5_2, ne_5_3, ne_5_4, hd_256_12, hd_256_16, hd_257_12, hd_258_12, hd_259_12, hd_260_12, hd_261_12, hd_261_13, hd_261_16, hd_262_12, hd_262_13, hd_262_16, hd_263_12, hd_263_13, hd_264_12, hd_264_13, hd_264_14, hd_265_12, hd_265_13, hd_265_14, hd_266_12, hd_267_12, hd_267_13, hd_267_14, hd_268_12, hd_269_12, hd_269_14, hd_270_12, hd_271_12, hd_272_12, hd_273_12, hd_273_13, hd_273_15, hd_274_12, hd_274_15, hd_275_12, hd_275_15, hd_276_12, nI_p1, nI_p2, nI_p3, nI_p4, nI_p5, not_true_eq_false, not_false_eq_true, and_self, mf_0, mf_1, mf_2, mf_3, mf_4, mf_5, mf_6, mf_7, mf_8, mf_9, mf_10, mf_11, mf_12, mf_13, mf_14, mf_15, mf_16, mf_17, mf_18, mf_19, mf_20, mf_21, mf_22, mf_23, mf_24, mf_25, mf_26, mf_27, mf_28, mf_29, mf_30, mf_31, mf_32, mf_33, mf_34, mf_35, mf_36, mf_37, mf_38, mf_39, mf_40, mf_41, mf_42, mf_43, mf_44, mf_45, mf_46, mf_47, mf_48, mf_49, mf_50, mf_51, mf_52, mf_53, mf_54, mf_55, mf_56, mf_57, mf_58, mf_59, mf_60, mf_61, mfs_0, mfs_2, mfs_17, mfs_20, mfs_26, mfs_32, mfs_34, mfs_36, mfs_38, mfs_43, mfs_44, mfs_45, mfs_46, mfs_47, iy_0, iy_1, iy_2, iy_3, iy_4, iy_5, iy_6, px_gf, px_ai, h6, mf_23, a3, pos, pi, ii, ci, r2, nk, tg_i1, px_kill, nar_0]
        refine hQ 0 (.inr ⟨rfl, fun z => ?_⟩)
        rcases z with z | ⟨j, j1, j2, j3⟩
        · exact x z
        · have : j = i := by
            rcases Nat.lt_trichotomy j i with x | x | x
            · have := srt j i x i1; rw [j2, i2] at this; exact absurd this (plt_irr _)
            · exact x
            · have := srt i j x j1; rw [j2, i2] at this; exact absurd this (plt_irr _)
          subst this
          omega
    · have neg : (-1 : Int32) < 0 := by decide
      simp only [px_K_some, pc183_26, pc183_27, pc183_28, pc183_31, pc183_32, pc183_49, pc183_50, px_op_some, px_kv_ap, px_ki_ap, px_kl_ap, px_kn_ap, px_kh_ap, px_op_none, px_K_some, px_K_none, px_K_thr, px_kill, ↓reduceIte, if_true, if_false, true_and, and_true, yr_0, yr_1, tr_0, tr_1, tr_2, tr_3, px_rf, of_2, of_4, in_02, in_12, in_04, in_14, in_24, in_34, Nat.reduceLeDiff, in_01, lgc_self, Int32.reduceToNatClampNeg, wr_at, al_at, px_wr_len, px_al_len, px_wr_1, px_al_1, tg_0, tg_1, tg_2, tg_3, tg_12, tg_15, tg_17, tg_18, tg_i1, tg_b0, tg_b3, px_fit, Nat.reduceEqDiff, Nat.reduceLT, Nat.reduceAdd, Option.some.injEq, up_at, px_wr_wr, i32_le, Int32.reduceLE, Int32.reduceLT, mf_len, nar_0, nar_1, px_KH_some, px_KH_none, px_KH_thr, List.length_cons, List.length_nil, List.getElem?_cons_zero, List.getElem?_cons_succ, List.set_cons_zero, List.set_cons_succ, ↓reduceIte, Nat.lt_irrefl, ne_0_1, ne_0_2, ne_0_3, ne_0_4, ne_0_5, ne_1_0, ne_1_2, ne_1_3, ne_1_4, ne_1_5, ne_2_0, ne_2_1, ne_2_3, ne_2_4, ne_2_5, ne_3_0, ne_3_1, ne_3_2, ne_3_4, ne_3_5, ne_4_0, ne_4_1, ne_4_2, ne_4_3, ne_4_5, ne_5_0, ne_5_1, ne_5_2, ne_5_3, ne_5_4, hd_256_12, hd_256_16, hd_257_12, hd_258_12, hd_259_12, hd_260_12, hd_261_12, hd_261_13, hd_261_16, hd_262_12, hd_262_13, hd_262_16, hd_263_12, hd_263_13, hd_264_12, hd_264_13, hd_264_14, hd_265_12, hd_265_13, hd_265_14, hd_266_12, hd_267_12, hd_267_13, hd_267_14, hd_268_12, hd_269_12, hd_269_14, hd_270_12, hd_271_12, hd_272_12, hd_273_12, hd_273_13, hd_273_15, hd_274_12, hd_274_15, hd_275_12, hd_275_15, hd_276_12, nI_p1, nI_p2, nI_p3, nI_p4, nI_p5, not_true_eq_false, not_false_eq_true, and_self, mf_0, mf_1, mf_2, mf_3, mf_4, mf_5, mf_6, mf_7, mf_8, mf_9, mf_10, mf_11, mf_12, mf_13, mf_14, mf_15, mf_16, mf_17, mf_18, mf_19, mf_20, mf_21, mf_22, mf_23, mf_24, mf_25, mf_26, mf_27, mf_28, mf_29, mf_30, mf_31, mf_32, mf_33, mf_34, mf_35, mf_36, mf_37, mf_38, mf_39, mf_40, mf_41, mf_42, mf_43, mf_44, mf_45, mf_46, mf_47, mf_48, mf_49, mf_50, mf_51, mf_52, mf_53, mf_54, mf_55, mf_56, mf_57, mf_58, mf_59, mf_60, mf_61, mfs_0, mfs_2, mfs_17, mfs_20, mfs_26, mfs_32, mfs_34, mfs_36, mfs_38, mfs_43, mfs_44, mfs_45, mfs_46, mfs_47, iy_0, iy_1, iy_2, iy_3, iy_4, iy_5, iy_6, pos, neg, px_kill, nar_0]
      refine hQ 0 (.inr ⟨rfl, fun z => ?_⟩)
      rcases z with z | ⟨j, j1, j2, -⟩
      · exact x z
      · exact i1 j j1 j2
/-- an item can be done -/
def doesR (n : Nat) (T : Nat → aE) (k l : Nat) (p : Nat → Nat) : Prop :=
  (k = 3 ∧ ∃ i, i < n ∧ eP (T i) = p) ∨ (k = 4 ∧ ∃ i, i < n ∧ eP (T i) = p ∧ eK (T i) = 1) ∨ (k = 1 ∨ k = 2) ∧ homed n T p l ∧ ((∃ i, i < n ∧ eP (T i) = p) ∨ n < 80)
set_option maxRecDepth 16384 in
theorem m_does (h6 : h.2[619]? = some (.inl (11, modF V))) (hv : V 20 = nI n) (hv2 : V 32 = nI l) (hn : n ≤ 80) (w : mtE h D T) (hD : ∀ i, i < n → D i) (srt : ∀ i j, i < j → j < n → plt (eP (T i)) (eP (T j))) (pt : mpt h p l) (hp : pth p l) (hk1 : 1 ≤ k) (hk4 : k ≤ 4)
    (hQ : ∀ x, says x (doesR n T k l p) → Q (.inl (some (.int x))) h) :
    px_Wp sx 181 0 [some (.ref 619), some (.int (nI k)), none] [] h Q := by
  have hcls : px_cls h 619 = some 11 := by unfold px_cls; rw [h6]
  have l35 := hp.2.1
  have neg : (-1 : Int32) < 0 := by decide
  have neg' : ¬ (0 : Int32) ≤ -1 := by decide
  have uq : ∀ {i j : Nat}, i < n → j < n → eP (T i) = p → eP (T j) = p → i = j := fun {i j} i1 j1 i2 j2 => by
    rcases Nat.lt_trichotomy i j with x | x | x
    · have := srt i j x j1; rw [i2, j2] at this; exact absurd this (plt_irr _)
    · exact x
    · have := srt j i x i1; rw [i2, j2] at this; exact absurd this (plt_irr _)
  simp only [pc181_0, pc181_0n, pc181_1, pc181_1n, pc181_2, pc181_5, px_op_some, px_kv_ap, px_ki_ap, px_kl_ap, px_kn_ap, px_kh_ap, px_op_none, px_K_some, px_K_none, px_K_thr, px_kill, ↓reduceIte, if_true, if_false, true_and, and_true, px_gf, h6, mf_32, hv2, hcls]
  refine m_entryOf h6 hv (by omega) w hD pt (pth_rng hp) (by omega) (Nat.le_refl _) (fun y hy => ?_)
  rw [cutP_all hp] at hy
  have hk : (k = 1 ∨ k = 2) ∨ k = 3 ∨ k = 4 := by omega
  rcases hk with hk | rfl | rfl
  · have kn3 : (nI k = 3) = False := eq_false (by rcases hk with rfl | rfl <;> decide)
    have kn4 : (nI k = 4) = False := eq_false (by rcases hk with rfl | rfl <;> decide)
    simp only [px_K_some, pc181_8, pc181_9, pc181_10, pc181_11, pc181_14, pc181_15, pc181_16, pc181_44, pc181_44n, pc181_45, px_op_some, px_kv_ap, px_ki_ap, px_kl_ap, px_kn_ap, px_kh_ap, px_op_none, px_K_some, px_K_none, px_K_thr, px_kill, ↓reduceIte, if_true, if_false, true_and, and_true, yr_0, yr_1, tr_0, tr_1, tr_2, tr_3, px_rf, of_2, of_4, in_02, in_12, in_04, in_14, in_24, in_34, Nat.reduceLeDiff, in_01, lgc_self, Int32.reduceToNatClampNeg, wr_at, al_at, px_wr_len, px_al_len, px_wr_1, px_al_1, tg_0, tg_1, tg_2, tg_3, tg_12, tg_15, tg_17, tg_18, tg_i1, tg_b0, tg_b3, px_fit, Nat.reduceEqDiff, Nat.reduceLT, Nat.reduceAdd, Option.some.injEq, up_at, px_wr_wr, i32_le, Int32.reduceLE, Int32.reduceLT, mf_len, nar_0, nar_1, px_KH_some, px_KH_none, px_KH_thr, List.length_cons, List.length_nil, List.getElem?_cons_zero, List.getElem?_cons_succ, List.set_cons_zero, List.set_cons_succ, ↓reduceIte, Nat.lt_irrefl, ne_0_1, ne_0_2, ne_0_3, ne_0_4, ne_0_5, ne_1_0, ne_1_2, ne_1_3, ne_1_4, ne_1_5, ne_2_0, ne_2_1, ne_2_3, ne_2_4, ne_2_5, ne_3_0, ne_3_1, ne_3_2, ne_3_4, ne_3_5, ne_4_0, ne_4_1, ne_4_2, ne_4_3, ne_4_5, ne_5_0, ne_5_1, ne_5_2, ne_5_3, ne_5_4, hd_256_12, hd_256_16, hd_257_12, hd_258_12, hd_259_12, hd_260_12, hd_261_12, hd_261_13, hd_261_16, hd_262_12, hd_262_13, hd_262_16, hd_263_12, hd_263_13, hd_264_12, hd_264_13, hd_264_14, hd_265_12, hd_265_13, hd_265_14, hd_266_12, hd_267_12, hd_267_13, hd_267_14, hd_268_12, hd_269_12, hd_269_14, hd_270_12, hd_271_12, hd_272_12, hd_273_12, hd_273_13, hd_273_15, hd_274_12, hd_274_15, hd_275_12, hd_275_15, hd_276_12, nI_p1, nI_p2, nI_p3, nI_p4, nI_p5, not_true_eq_false, not_false_eq_true, and_self, mf_0, mf_1, mf_2, mf_3, mf_4, mf_5, mf_6, mf_7, mf_8, mf_9, mf_10, mf_11, mf_12, mf_13, mf_14, mf_15, mf_16, mf_17, mf_18, mf_19, mf_20, mf_21, mf_22, mf_23, mf_24, mf_25, mf_26, mf_27, mf_28, mf_29, mf_30, mf_31, mf_32, mf_33, mf_34, mf_35, mf_36, mf_37, mf_38, mf_39, mf_40, mf_41, mf_42, mf_43, mf_44, mf_45, mf_46, mf_47, mf_48, mf_49, mf_50, mf_51, mf_52, mf_53, mf_54, mf_55, mf_56, mf_57, mf_58, mf_59, mf_60, mf_61, mfs_0, mfs_2, mfs_17, mfs_20, mfs_26, mfs_32, mfs_34, mfs_36, mfs_38, mfs_43, mfs_44, mfs_45, mfs_46, mfs_47, iy_0, iy_1, iy_2, iy_3, iy_4, iy_5, iy_6, kn3, kn4, hcls, px_kill]
    refine m_hasPlace h6 hv hv2 (by omega) w hD srt pt hp (fun x hx => ?_)
    rcases hx with ⟨rfl, hx⟩ | ⟨rfl, hx⟩
    · rcases hy with ⟨i, i1, i2, rfl⟩ | ⟨i1, rfl⟩
      · have pi : 0 ≤ nI i := nI_pos' (by omega)
        simp only [px_K_some, pc181_48, pc181_51, pc181_52, pc181_64, pc181_65, pc181_68, pc181_69, px_op_some, px_kv_ap, px_ki_ap, px_kl_ap, px_kn_ap, px_kh_ap, px_op_none, px_K_some, px_K_none, px_K_thr, px_kill, ↓reduceIte, if_true, if_false, true_and, and_true, yr_0, yr_1, tr_0, tr_1, tr_2, tr_3, px_rf, of_2, of_4, in_02, in_12, in_04, in_14, in_24, in_34, Nat.reduceLeDiff, in_01, lgc_self, Int32.reduceToNatClampNeg, wr_at, al_at, px_wr_len, px_al_len, px_wr_1, px_al_1, tg_0, tg_1, tg_2, tg_3, tg_12, tg_15, tg_17, tg_18, tg_i1, tg_b0, tg_b3, px_fit, Nat.reduceEqDiff, Nat.reduceLT, Nat.reduceAdd, Option.some.injEq, up_at, px_wr_wr, i32_le, Int32.reduceLE, Int32.reduceLT, mf_len, nar_0, nar_1, px_KH_some, px_KH_none, px_KH_thr, List.length_cons, List.length_nil, List.getElem?_cons_zero, List.getElem?_cons_succ, List.set_cons_zero, List.set_cons_succ, ↓reduceIte, Nat.lt_irrefl, ne_0_1, ne_0_2, ne_0_3, ne_0_4, ne_0_5, ne_1_0, ne_1_2, ne_1_3, ne_1_4, ne_1_5, ne_2_0, ne_2_1, ne_2_3, ne_2_4, ne_2_5, ne_3_0, ne_3_1, ne_3_2, ne_3_4, ne_3_5, ne_4_0, ne_4_1, ne_4_2, ne_4_3, ne_4_5, ne_5_0, ne_5_1, ne_5_2, ne_5_3, ne_5_4, hd_256_12, hd_256_16, hd_257_12, hd_258_12, hd_259_12, hd_260_12, hd_261_12, hd_261_13, hd_261_16, hd_262_12, hd_262_13, hd_262_16, hd_263_12, hd_263_13, hd_264_12, hd_264_13, hd_264_14, hd_265_12, hd_265_13, hd_265_14, hd_266_12, hd_267_12, hd_267_13, hd_267_14, hd_268_12, hd_269_12, hd_269_14, hd_270_12, hd_271_12, hd_272_12, hd_273_12, hd_273_13, hd_273_15, hd_274_12, hd_274_15, hd_275_12, hd_275_15, hd_276_12, nI_p1, nI_p2, nI_p3, nI_p4, nI_p5, not_true_eq_false, not_false_eq_true, and_self, mf_0, mf_1, mf_2, mf_3, mf_4, mf_5, mf_6, mf_7, mf_8, mf_9, mf_10, mf_11, mf_12, mf_13, mf_14, mf_15, mf_16, mf_17, mf_18, mf_19, mf_20, mf_21, mf_22, mf_23, mf_24, mf_25, mf_26, mf_27, mf_28, mf_29, mf_30, mf_31, mf_32, mf_33, mf_34, mf_35, mf_36, mf_37, mf_38, mf_39, mf_40, mf_41, mf_42, mf_43, mf_44, mf_45, mf_46, mf_47, mf_48, mf_49, mf_50, mf_51, mf_52, mf_53, mf_54, mf_55, mf_56, mf_57, mf_58, mf_59, mf_60, mf_61, mfs_0, mfs_2, mfs_17, mfs_20, mfs_26, mfs_32, mfs_34, mfs_36, mfs_38, mfs_43, mfs_44, mfs_45, mfs_46, mfs_47, iy_0, iy_1, iy_2, iy_3, iy_4, iy_5, iy_6, pi, nar_1]
        exact hQ 1 (.inl ⟨rfl, .inr (.inr ⟨hk, hx, .inl ⟨i, i1, i2⟩⟩)⟩)
      · by_cases z : n < 80
        · have ge : ¬ (80 : Int32) ≤ nI n := nI_ge (b := 80) z (by decide)
          simp only [px_K_some, pc181_48, pc181_51, pc181_52, pc181_55, pc181_55n, pc181_56, pc181_59, pc181_61, pc181_64, pc181_65, pc181_68, pc181_69, px_op_some, px_kv_ap, px_ki_ap, px_kl_ap, px_kn_ap, px_kh_ap, px_op_none, px_K_some, px_K_none, px_K_thr, px_kill, ↓reduceIte, if_true, if_false, true_and, and_true, yr_0, yr_1, tr_0, tr_1, tr_2, tr_3, px_rf, of_2, of_4, in_02, in_12, in_04, in_14, in_24, in_34, Nat.reduceLeDiff, in_01, lgc_self, Int32.reduceToNatClampNeg, wr_at, al_at, px_wr_len, px_al_len, px_wr_1, px_al_1, tg_0, tg_1, tg_2, tg_3, tg_12, tg_15, tg_17, tg_18, tg_i1, tg_b0, tg_b3, px_fit, Nat.reduceEqDiff, Nat.reduceLT, Nat.reduceAdd, Option.some.injEq, up_at, px_wr_wr, i32_le, Int32.reduceLE, Int32.reduceLT, mf_len, nar_0, nar_1, px_KH_some, px_KH_none, px_KH_thr, List.length_cons, List.length_nil, List.getElem?_cons_zero, List.getElem?_cons_succ, List.set_cons_zero, List.set_cons_succ, ↓reduceIte, Nat.lt_irrefl, ne_0_1, ne_0_2, ne_0_3, ne_0_4, ne_0_5, ne_1_0, ne_1_2, ne_1_3, ne_1_4, ne_1_5, ne_2_0, ne_2_1, ne_2_3, ne_2_4, ne_2_5, ne_3_0, ne_3_1, ne_3_2, ne_3_4, ne_3_5, ne_4_0, ne_4_1, ne_4_2, ne_4_3, ne_4_5, ne_5_0, ne_5_1, ne_5_2, ne_5_3, ne_5_4, hd_256_12, hd_256_16, hd_257_12, hd_258_12, hd_259_12, hd_260_12, hd_261_12, hd_261_13, hd_261_16, hd_262_12, hd_262_13, hd_262_16, hd_263_12, hd_263_13, hd_264_12, hd_264_13, hd_264_14, hd_265_12, hd_265_13, hd_265_14, hd_266_12, hd_267_12, hd_267_13, hd_267_14, hd_268_12, hd_269_12, hd_269_14, hd_270_12, hd_271_12, hd_272_12, hd_273_12, hd_273_13, hd_273_15, hd_274_12, hd_274_15, hd_275_12, hd_275_15, hd_276_12, nI_p1, nI_p2, nI_p3, nI_p4, nI_p5, not_true_eq_false, not_false_eq_true, and_self, mf_0, mf_1, mf_2, mf_3, mf_4, mf_5, mf_6, mf_7, mf_8, mf_9, mf_10, mf_11, mf_12, mf_13, mf_14, mf_15, mf_16, mf_17, mf_18, mf_19, mf_20, mf_21, mf_22, mf_23, mf_24, mf_25, mf_26, mf_27, mf_28, mf_29, mf_30, mf_31, mf_32, mf_33, mf_34, mf_35, mf_36, mf_37, mf_38, mf_39, mf_40, mf_41, mf_42, mf_43, mf_44, mf_45, mf_46, mf_47, mf_48, mf_49, mf_50, mf_51, mf_52, mf_53, mf_54, mf_55, mf_56, mf_57, mf_58, mf_59, mf_60, mf_61, mfs_0, mfs_2, mfs_17, mfs_20, mfs_26, mfs_32, mfs_34, mfs_36, mfs_38, mfs_43, mfs_44, mfs_45, mfs_46, mfs_47, iy_0, iy_1, iy_2, iy_3, iy_4, iy_5, iy_6, px_gf, h6, mf_20, hv, neg', ge, nar_1]
          exact hQ 1 (.inl ⟨rfl, .inr (.inr ⟨hk, hx, .inr z⟩)⟩)
        · have ge : (80 : Int32) ≤ nI n := nI_le (a := 80) (by omega) (by omega)
          simp only [px_K_some, pc181_48, pc181_51, pc181_52, pc181_55, pc181_55n, pc181_56, pc181_59, pc181_61, pc181_68, pc181_69, px_op_some, px_kv_ap, px_ki_ap, px_kl_ap, px_kn_ap, px_kh_ap, px_op_none, px_K_some, px_K_none, px_K_thr, px_kill, ↓reduceIte, if_true, if_false, true_and, and_true, yr_0, yr_1, tr_0, tr_1, tr_2, tr_3, px_rf, of_2, of_4, in_02, in_12, in_04, in_14, in_24, in_34, Nat.reduceLeDiff, in_01, lgc_self, Int32.reduceToNatClampNeg, wr_at, al_at, px_wr_len, px_al_len, px_wr_1, px_al_1, tg_0, tg_1, tg_2, tg_3, tg_12, tg_15, tg_17, tg_18, tg_i1, tg_b0, tg_b3, px_fit, Nat.reduceEqDiff, Nat.reduceLT, Nat.reduceAdd, Option.some.injEq, up_at, px_wr_wr, i32_le, Int32.reduceLE, Int32.reduceLT, mf_len, nar_0, nar_1, px_KH_some, px_KH_none, px_KH_thr, List.length_cons, List.length_nil, List.getElem?_cons_zero, List.getElem?_cons_succ, List.set_cons_zero, List.set_cons_succ, ↓reduceIte, Nat.lt_irrefl, ne_0_1, ne_0_2, ne_0_3, ne_0_4, ne_0_5, ne_1_0, ne_1_2, ne_1_3, ne_1_4, ne_1_5, ne_2_0, ne_2_1, ne_2_3, ne_2_4, ne_2_5, ne_3_0, ne_3_1, ne_3_2, ne_3_4, ne_3_5, ne_4_0, ne_4_1, ne_4_2, ne_4_3, ne_4_5, ne_5_0, ne_5_1, ne_5_2, ne_5_3, ne_5_4, hd_256_12, hd_256_16, hd_257_12, hd_258_12, hd_259_12, hd_260_12, hd_261_12, hd_261_13, hd_261_16, hd_262_12, hd_262_13, hd_262_16, hd_263_12, hd_263_13, hd_264_12, hd_264_13, hd_264_14, hd_265_12, hd_265_13, hd_265_14, hd_266_12, hd_267_12, hd_267_13, hd_267_14, hd_268_12, hd_269_12, hd_269_14, hd_270_12, hd_271_12, hd_272_12, hd_273_12, hd_273_13, hd_273_15, hd_274_12, hd_274_15, hd_275_12, hd_275_15, hd_276_12, nI_p1, nI_p2, nI_p3, nI_p4, nI_p5, not_true_eq_false, not_false_eq_true, and_self, mf_0, mf_1, mf_2, mf_3, mf_4, mf_5, mf_6, mf_7, mf_8, mf_9, mf_10, mf_11, mf_12, mf_13, mf_14, mf_15, mf_16, mf_17, mf_18, mf_19, mf_20, mf_21, mf_22, mf_23, mf_24, mf_25, mf_26, mf_27, mf_28, mf_29, mf_30, mf_31, mf_32, mf_33, mf_34, mf_35, mf_36, mf_37, mf_38, mf_39, mf_40, mf_41, mf_42, mf_43, mf_44, mf_45, mf_46, mf_47, mf_48, mf_49, mf_50, mf_51, mf_52, mf_53, mf_54, mf_55, mf_56, mf_57, mf_58, mf_59, mf_60, mf_61, mfs_0, mfs_2, mfs_17, mfs_20, mfs_26, mfs_32, mfs_34, mfs_36, mfs_38, mfs_43, mfs_44, mfs_45, mfs_46, mfs_47, iy_0, iy_1, iy_2, iy_3, iy_4, iy_5, iy_6, px_gf, h6, mf_20, hv, neg', ge, nar_0]
          refine hQ 0 (.inr ⟨rfl, fun d => ?_⟩)
          rcases d with ⟨d, -⟩ | ⟨d, -⟩ | ⟨-, -, ⟨i, d1, d2⟩ | d⟩
          · omega
          · omega
          · exact i1 i d1 d2
          · exact z d
    · simp only [px_K_some, pc181_48, pc181_68, pc181_69, px_op_some, px_kv_ap, px_ki_ap, px_kl_ap, px_kn_ap, px_kh_ap, px_op_none, px_K_some, px_K_none, px_K_thr, px_kill, ↓reduceIte, if_true, if_false, true_and, and_true, yr_0, yr_1, tr_0, tr_1, tr_2, tr_3, px_rf, of_2, of_4, in_02, in_12, in_04, in_14, in_24, in_34, Nat.reduceLeDiff, in_01, lgc_self, Int32.reduceToNatClampNeg, wr_at, al_at, px_wr_len, px_al_len, px_wr_1, px_al_1, tg_0, tg_1, tg_2, tg_3, tg_12, tg_15, tg_17, tg_18, tg_i1, tg_b0, tg_b3, px_fit, Nat.reduceEqDiff, Nat.reduceLT, Nat.reduceAdd, Option.some.injEq, up_at, px_wr_wr, i32_le, Int32.reduceLE, Int32.reduceLT, mf_len, nar_0, nar_1, px_KH_some, px_KH_none, px_KH_thr, List.length_cons, List.length_nil, List.getElem?_cons_zero, List.getElem?_cons_succ, List.set_cons_zero, List.set_cons_succ, ↓reduceIte, Nat.lt_irrefl, ne_0_1, ne_0_2, ne_0_3, ne_0_4, ne_0_5, ne_1_0, ne_1_2, ne_1_3, ne_1_4, ne_1_5, ne_2_0, ne_2_1, ne_2_3, ne_2_4, ne_2_5, ne_3_0, ne_3_1, ne_3_2, ne_3_4, ne_3_5, ne_4_0, ne_4_1, ne_4_2, ne_4_3, ne_4_5, ne_5_0, ne_5_1, ne_5_2, ne_5_3, ne_5_4, hd_256_12, hd_256_16, hd_257_12, hd_258_12, hd_259_12, hd_260_12, hd_261_12, hd_261_13, hd_261_16, hd_262_12, hd_262_13, hd_262_16, hd_263_12, hd_263_13, hd_264_12, hd_264_13, hd_264_14, hd_265_12, hd_265_13, hd_265_14, hd_266_12, hd_267_12, hd_267_13, hd_267_14, hd_268_12, hd_269_12, hd_269_14, hd_270_12, hd_271_12, hd_272_12, hd_273_12, hd_273_13, hd_273_15, hd_274_12, hd_274_15, hd_275_12, hd_275_15, hd_276_12, nI_p1, nI_p2, nI_p3, nI_p4, nI_p5, not_true_eq_false, not_false_eq_true, and_self, mf_0, mf_1, mf_2, mf_3, mf_4, mf_5, mf_6, mf_7, mf_8, mf_9, mf_10, mf_11, mf_12, mf_13, mf_14, mf_15, mf_16, mf_17, mf_18, mf_19, mf_20, mf_21, mf_22, mf_23, mf_24, mf_25, mf_26, mf_27, mf_28, mf_29, mf_30, mf_31, mf_32, mf_33, mf_34, mf_35, mf_36, mf_37, mf_38, mf_39, mf_40, mf_41, mf_42, mf_43, mf_44, mf_45, mf_46, mf_47, mf_48, mf_49, mf_50, mf_51, mf_52, mf_53, mf_54, mf_55, mf_56, mf_57, mf_58, mf_59, mf_60, mf_61, mfs_0, mfs_2, mfs_17, mfs_20, mfs_26, mfs_32, mfs_34, mfs_36, mfs_38, mfs_43, mfs_44, mfs_45, mfs_46, mfs_47, iy_0, iy_1, iy_2, iy_3, iy_4, iy_5, iy_6, nar_0]
      refine hQ 0 (.inr ⟨rfl, fun d => ?_⟩)
      rcases d with ⟨d, -⟩ | ⟨d, -⟩ | ⟨-, d, -⟩
      · omega
      · omega
      · exact hx d
  · have n3 : nI 3 = 3 := rfl
    rcases hy with ⟨i, i1, i2, rfl⟩ | ⟨i1, rfl⟩
    · have pi : ¬ nI i < 0 := nI_pos (by omega)
      simp only [px_K_some, pc181_8, pc181_9, pc181_10, pc181_11, pc181_14, pc181_15, pc181_16, pc181_19, pc181_20, pc181_23, pc181_24, pc181_25, pc181_38, pc181_39, pc181_42, pc181_43, px_op_some, px_kv_ap, px_ki_ap, px_kl_ap, px_kn_ap, px_kh_ap, px_op_none, px_K_some, px_K_none, px_K_thr, px_kill, ↓reduceIte, if_true, if_false, true_and, and_true, yr_0, yr_1, tr_0, tr_1, tr_2, tr_3, px_rf, of_2, of_4, in_02, in_12, in_04, in_14, in_24, in_34, Nat.reduceLeDiff, in_01, lgc_self, Int32.reduceToNatClampNeg, wr_at, al_at, px_wr_len, px_al_len, px_wr_1, px_al_1, tg_0, tg_1, tg_2, tg_3, tg_12, tg_15, tg_17, tg_18, tg_i1, tg_b0, tg_b3, px_fit, Nat.reduceEqDiff, Nat.reduceLT, Nat.reduceAdd, Option.some.injEq, up_at, px_wr_wr, i32_le, Int32.reduceLE, Int32.reduceLT, mf_len, nar_0, nar_1, px_KH_some, px_KH_none, px_KH_thr, List.length_cons, List.length_nil, List.getElem?_cons_zero, List.getElem?_cons_succ, List.set_cons_zero, List.set_cons_succ, ↓reduceIte, Nat.lt_irrefl, ne_0_1, ne_0_2, ne_0_3, ne_0_4, ne_0_5, ne_1_0, ne_1_2, ne_1_3, ne_1_4, ne_1_5, ne_2_0, ne_2_1, ne_2_3, ne_2_4, ne_2_5, ne_3_0, ne_3_1, ne_3_2, ne_3_4, ne_3_5, ne_4_0, ne_4_1, ne_4_2, ne_4_3, ne_4_5, ne_5_0, ne_5_1, ne_5_2, ne_5_3, ne_5_4, hd_256_12, hd_256_16, hd_257_12, hd_258_12, hd_259_12, hd_260_12, hd_261_12, hd_261_13, hd_261_16, hd_262_12, hd_262_13, hd_262_16, hd_263_12, hd_263_13, hd_264_12, hd_264_13, hd_264_14, hd_265_12, hd_265_13, hd_265_14, hd_266_12, hd_267_12, hd_267_13, hd_267_14, hd_268_12, hd_269_12, hd_269_14, hd_270_12, hd_271_12, hd_272_12, hd_273_12, hd_273_13, hd_273_15, hd_274_12, hd_274_15, hd_275_12, hd_275_15, hd_276_12, nI_p1, nI_p2, nI_p3, nI_p4, nI_p5, not_true_eq_false, not_false_eq_true, and_self, mf_0, mf_1, mf_2, mf_3, mf_4, mf_5, mf_6, mf_7, mf_8, mf_9, mf_10, mf_11, mf_12, mf_13, mf_14, mf_15, mf_16, mf_17, mf_18, mf_19, mf_20, mf_21, mf_22, mf_23, mf_24, mf_25, mf_26, mf_27, mf_28, mf_29, mf_30, mf_31, mf_32, mf_33, mf_34, mf_35, mf_36, mf_37, mf_38, mf_39, mf_40, mf_41, mf_42, mf_43, mf_44, mf_45, mf_46, mf_47, mf_48, mf_49, mf_50, mf_51, mf_52, mf_53, mf_54, mf_55, mf_56, mf_57, mf_58, mf_59, mf_60, mf_61, mfs_0, mfs_2, mfs_17, mfs_20, mfs_26, mfs_32, mfs_34, mfs_36, mfs_38, mfs_43, mfs_44, mfs_45, mfs_46, mfs_47, iy_0, iy_1, iy_2, iy_3, iy_4, iy_5, iy_6, n3, pi, px_kill, nar_1]
      exact hQ 1 (.inl ⟨rfl, .inl ⟨rfl, i, i1, i2⟩⟩)
    · simp only [px_K_some, pc181_8, pc181_9, pc181_10, pc181_11, pc181_14, pc181_15, pc181_16, pc181_19, pc181_20, pc181_42, pc181_43, px_op_some, px_kv_ap, px_ki_ap, px_kl_ap, px_kn_ap, px_kh_ap, px_op_none, px_K_some, px_K_none, px_K_thr, px_kill, ↓reduceIte, if_true, if_false, true_and, and_true, yr_0, yr_1, tr_0, tr_1, tr_2, tr_3, px_rf, of_2, of_4, in_02, in_12, in_04, in_14, in_24, in_34, Nat.reduceLeDiff, in_01, lgc_self, Int32.reduceToNatClampNeg, wr_at, al_at, px_wr_len, px_al_len, px_wr_1, px_al_1, tg_0, tg_1, tg_2, tg_3, tg_12, tg_15, tg_17, tg_18, tg_i1, tg_b0, tg_b3, px_fit, Nat.reduceEqDiff, Nat.reduceLT, Nat.reduceAdd, Option.some.injEq, up_at, px_wr_wr, i32_le, Int32.reduceLE, Int32.reduceLT, mf_len, nar_0, nar_1, px_KH_some, px_KH_none, px_KH_thr, List.length_cons, List.length_nil, List.getElem?_cons_zero, List.getElem?_cons_succ, List.set_cons_zero, List.set_cons_succ, ↓reduceIte, Nat.lt_irrefl, ne_0_1, ne_0_2, ne_0_3, ne_0_4, ne_0_5, ne_1_0, ne_1_2, ne_1_3, ne_1_4, ne_1_5, ne_2_0, ne_2_1, ne_2_3, ne_2_4, ne_2_5, ne_3_0, ne_3_1, ne_3_2, ne_3_4, ne_3_5, ne_4_0, ne_4_1, ne_4_2, ne_4_3, ne_4_5, ne_5_0, ne_5_1, ne_5_2, ne_5_3, ne_5_4, hd_256_12, hd_256_16, hd_257_12, hd_258_12, hd_259_12, hd_260_12, hd_261_12, hd_261_13, hd_261_16, hd_262_12, hd_262_13, hd_262_16, hd_263_12, hd_263_13, hd_264_12, hd_264_13, hd_264_14, hd_265_12, hd_265_13, hd_265_14, hd_266_12, hd_267_12, hd_267_13, hd_267_14, hd_268_12, hd_269_12, hd_269_14, hd_270_12, hd_271_12, hd_272_12, hd_273_12, hd_273_13, hd_273_15, hd_274_12, hd_274_15, hd_275_12, hd_275_15, hd_276_12, nI_p1, nI_p2, nI_p3, nI_p4, nI_p5, not_true_eq_false, not_false_eq_true, and_self, mf_0, mf_1, mf_2, mf_3, mf_4, mf_5, mf_6, mf_7, mf_8, mf_9, mf_10, mf_11, mf_12, mf_13, mf_14, mf_15, mf_16, mf_17, mf_18, mf_19, mf_20, mf_21, mf_22, mf_23, mf_24, mf_25, mf_26, mf_27, mf_28, mf_29, mf_30, mf_31, mf_32, mf_33, mf_34, mf_35, mf_36, mf_37, mf_38, mf_39, mf_40, mf_41, mf_42, mf_43, mf_44, mf_45, mf_46, mf_47, mf_48, mf_49, mf_50, mf_51, mf_52, mf_53, mf_54, mf_55, mf_56, mf_57, mf_58, mf_59, mf_60, mf_61, mfs_0, mfs_2, mfs_17, mfs_20, mfs_26, mfs_32, mfs_34, mfs_36, mfs_38, mfs_43, mfs_44, mfs_45, mfs_46, mfs_47, iy_0, iy_1, iy_2, iy_3, iy_4, iy_5, iy_6, n3, neg, px_kill, nar_0]
      refine hQ 0 (.inr ⟨rfl, fun d => ?_⟩)
      rcases d with ⟨-, i, d1, d2⟩ | ⟨d, -⟩ | ⟨d, -⟩
      · exact i1 i d1 d2
      · omega
      · omega
  · have n4 : nI 4 = 4 := rfl
    rcases hy with ⟨i, i1, i2, rfl⟩ | ⟨i1, rfl⟩
    · obtain ⟨P, LN, K, Z, C, ⟨a1, a2, a3, a4, a5⟩, w2⟩ := w
      obtain ⟨i82, ok, r1, r2, r3, r4, r5⟩ := w2 i (hD i i1)
      have ii : px_in (nI i) 82 = true := px_inb (by omega) (by decide)
      have ci : (nI i).toNatClampNeg = i := nI_clamp (by omega)
      have pi : ¬ nI i < 0 := nI_pos (by omega)
      rcases ok.2 with ⟨kd, -⟩ | ⟨kd, -⟩
      · have nk : nI (eK (T i)) = 1 := by rw [kd]; rfl
        simp only [px_K_some, pc181_8, pc181_9, pc181_10, pc181_11, pc181_14, pc181_15, pc181_16, pc181_19, pc181_20, pc181_23, pc181_24, pc181_25, pc181_28, pc181_28n, pc181_29, pc181_32, pc181_33, pc181_34, pc181_35, pc181_38, pc181_39, pc181_42, pc181_43, px_op_some, px_kv_ap, px_ki_ap, px_kl_ap, px_kn_ap, px_kh_ap, px_op_none, px_K_some, px_K_none, px_K_thr, px_kill, ↓reduceIte, if_true, if_false, true_and, and_true, yr_0, yr_1, tr_0, tr_1, tr_2, tr_3, px_rf, of_2, of_4, in_02, in_12, in_04, in_14, in_24, in_34, Nat.reduceLeDiff, in_01, lgc_self, Int32.reduceToNatClampNeg, wr_at, al_at, px_wr_len, px_al_len, px_wr_1, px_al_1, tg_0, tg_1, tg_2, tg_3, tg_12, tg_15, tg_17, tg_18, tg_i1, tg_b0, tg_b3, px_fit, Nat.reduceEqDiff, Nat.reduceLT, Nat.reduceAdd, Option.some.injEq, up_at, px_wr_wr, i32_le, Int32.reduceLE, Int32.reduceLT, mf_len, nar_0, nar_1, px_KH_some, px_KH_none, px_KH_thr, List.length_cons, List.length_nil, List.getElem?_cons_zero, List.getElem?_cons_succ, List.set_cons_zero, List.set_cons_succ, ↓reduceIte, Nat.lt_irrefl, ne_0_1, ne_0_2, ne_0_3, ne_0_4, ne_0_5, ne_1_0, ne_1_2, ne_1_3, ne_1_4, ne_1_5, ne_2_0, ne_2_1, ne_2_3, ne_2_4, ne_2_5, ne_3_0, ne_3_1, ne_3_2, ne_3_4, ne_3_5, ne_4_0, ne_4_1, ne_4_2, ne_4_3, ne_4_5, ne_5_0, ne_5_1, ne_5_2, ne_5_3, ne_5_4, hd_256_12, hd_256_16, hd_257_12, hd_258_12, hd_259_12, hd_260_12, hd_261_12, hd_261_13, hd_261_16, hd_262_12, hd_262_13, hd_262_16, hd_263_12, hd_263_13, hd_264_12, hd_264_13, hd_264_14, hd_265_12, hd_265_13, hd_265_14, hd_266_12, hd_267_12, hd_267_13, hd_267_14, hd_268_12, hd_269_12, hd_269_14, hd_270_12, hd_271_12, hd_272_12, hd_273_12, hd_273_13, hd_273_15, hd_274_12, hd_274_15, hd_275_12, hd_275_15, hd_276_12, nI_p1, nI_p2, nI_p3, nI_p4, nI_p5, not_true_eq_false, not_false_eq_true, and_self, mf_0, mf_1, mf_2, mf_3, mf_4, mf_5, mf_6, mf_7, mf_8, mf_9, mf_10, mf_11, mf_12, mf_13, mf_14, mf_15, mf_16, mf_17, mf_18, mf_19, mf_20, mf_21, mf_22, mf_23, mf_24, mf_25, mf_26, mf_27, mf_28, mf_29, mf_30, mf_31, mf_32, mf_33, mf_34, mf_35, mf_36, mf_37, mf_38, mf_39, mf_40, mf_41, mf_42, mf_43, mf_44, mf_45, mf_46, mf_47, mf_48, mf_49, mf_50, mf_51, mf_52, mf_53, mf_54, mf_55, mf_56, mf_57, mf_58, mf_59, mf_60, mf_61, mfs_0, mfs_2, mfs_17, mfs_20, mfs_26, mfs_32, mfs_34, mfs_36, mfs_38, mfs_43, mfs_44, mfs_45, mfs_46, mfs_47, iy_0, iy_1, iy_2, iy_3, iy_4, iy_5, iy_6, px_gf, px_ai, h6, mf_23, a3, n4, pi, ii, ci, r2, nk, tg_i1, px_kill, nar_1]
        exact hQ 1 (.inl ⟨rfl, .inr (.inl ⟨rfl, i, i1, i2, kd⟩)⟩)
      · have nk : nI (eK (T i)) = 2 := by rw [kd]; rfl
        simp only [px_K_some, pc181_8, pc181_9, pc181_10, pc181_11, pc181_14, pc181_15, pc181_16, pc181_19, pc181_20, pc181_23, pc181_24, pc181_25, pc181_28, pc181_28n, pc181_29, pc181_32, pc181_33, pc181_34, pc181_35, pc181_38, pc181_39, pc181_42, pc181_43, px_op_some, px_kv_ap, px_ki_ap, px_kl_ap, px_kn_ap, px_kh_ap, px_op_none, px_K_some, px_K_none, px_K_thr, px_kill, ↓reduceIte, if_true, if_false, true_and, and_true, yr_0, yr_1, tr_0, tr_1, tr_2, tr_3, px_rf, of_2, of_4, in_02, in_12, in_04, in_14, in_24, in_34, Nat.reduceLeDiff, in_01, lgc_self, Int32.reduceToNatClampNeg, wr_at, al_at, px_wr_len, px_al_len, px_wr_1, px_al_1, tg_0, tg_1, tg_2, tg_3, tg_12, tg_15, tg_17, tg_18, tg_i1, tg_b0, tg_b3, px_fit, Nat.reduceEqDiff, Nat.reduceLT, Nat.reduceAdd, Option.some.injEq, up_at, px_wr_wr, i32_le, Int32.reduceLE, Int32.reduceLT, mf_len, nar_0, nar_1, px_KH_some, px_KH_none, px_KH_thr, List.length_cons, List.length_nil, List.getElem?_cons_zero, List.getElem?_cons_succ, List.set_cons_zero, List.set_cons_succ, ↓reduceIte, Nat.lt_irrefl, ne_0_1, ne_0_2, ne_0_3, ne_0_4, ne_0_5, ne_1_0, ne_1_2, ne_1_3, ne_1_4, ne_1_5, ne_2_0, ne_2_1, ne_2_3, ne_2_4, ne_2_5, ne_3_0, ne_3_1, ne_3_2, ne_3_4, ne_3_5, ne_4_0, ne_4_1, ne_4_2, ne_4_3, ne_4_5, ne_5_0, ne_5_1, ne_5_2, ne_5_3, ne_5_4, hd_256_12, hd_256_16, hd_257_12, hd_258_12, hd_259_12, hd_260_12, hd_261_12, hd_261_13, hd_261_16, hd_262_12, hd_262_13, hd_262_16, hd_263_12, hd_263_13, hd_264_12, hd_264_13, hd_264_14, hd_265_12, hd_265_13, hd_265_14, hd_266_12, hd_267_12, hd_267_13, hd_267_14, hd_268_12, hd_269_12, hd_269_14, hd_270_12, hd_271_12, hd_272_12, hd_273_12, hd_273_13, hd_273_15, hd_274_12, hd_274_15, hd_275_12, hd_275_15, hd_276_12, nI_p1, nI_p2, nI_p3, nI_p4, nI_p5, not_true_eq_false, not_false_eq_true, and_self, mf_0, mf_1, mf_2, mf_3, mf_4, mf_5, mf_6, mf_7, mf_8, mf_9, mf_10, mf_11, mf_12, mf_13, mf_14, mf_15, mf_16, mf_17, mf_18, mf_19, mf_20, mf_21, mf_22, mf_23, mf_24, mf_25, mf_26, mf_27, mf_28, mf_29, mf_30, mf_31, mf_32, mf_33, mf_34, mf_35, mf_36, mf_37, mf_38, mf_39, mf_40, mf_41, mf_42, mf_43, mf_44, mf_45, mf_46, mf_47, mf_48, mf_49, mf_50, mf_51, mf_52, mf_53, mf_54, mf_55, mf_56, mf_57, mf_58, mf_59, mf_60, mf_61, mfs_0, mfs_2, mfs_17, mfs_20, mfs_26, mfs_32, mfs_34, mfs_36, mfs_38, mfs_43, mfs_44, mfs_45, mfs_46, mfs_47, iy_0, iy_1, iy_2, iy_3, iy_4, iy_5, iy_6, px_gf, px_ai, h6, mf_23, a3, n4, pi, ii, ci, r2, nk, tg_i1, px_kill, nar_0]
        refine hQ 0 (.inr ⟨rfl, fun d => ?_⟩)
        rcases d with ⟨d, -⟩ | ⟨-, j, d1, d2, d3⟩ | ⟨d, -⟩
        · omega
        · have := uq i1 d1 i2 d2
          subst this
          omega
        · omega
    · simp only [px_K_some, pc181_8, pc181_9, pc181_10, pc181_11, pc181_14, pc181_15, pc181_16, pc181_19, pc181_20, pc181_42, pc181_43, px_op_some, px_kv_ap, px_ki_ap, px_kl_ap, px_kn_ap, px_kh_ap, px_op_none, px_K_some, px_K_none, px_K_thr, px_kill, ↓reduceIte, if_true, if_false, true_and, and_true, yr_0, yr_1, tr_0, tr_1, tr_2, tr_3, px_rf, of_2, of_4, in_02, in_12, in_04, in_14, in_24, in_34, Nat.reduceLeDiff, in_01, lgc_self, Int32.reduceToNatClampNeg, wr_at, al_at, px_wr_len, px_al_len, px_wr_1, px_al_1, tg_0, tg_1, tg_2, tg_3, tg_12, tg_15, tg_17, tg_18, tg_i1, tg_b0, tg_b3, px_fit, Nat.reduceEqDiff, Nat.reduceLT, Nat.reduceAdd, Option.some.injEq, up_at, px_wr_wr, i32_le, Int32.reduceLE, Int32.reduceLT, mf_len, nar_0, nar_1, px_KH_some, px_KH_none, px_KH_thr, List.length_cons, List.length_nil, List.getElem?_cons_zero, List.getElem?_cons_succ, List.set_cons_zero, List.set_cons_succ, ↓reduceIte, Nat.lt_irrefl, ne_0_1, ne_0_2, ne_0_3, ne_0_4, ne_0_5, ne_1_0, ne_1_2, ne_1_3, ne_1_4, ne_1_5, ne_2_0, ne_2_1, ne_2_3, ne_2_4, ne_2_5, ne_3_0, ne_3_1, ne_3_2, ne_3_4, ne_3_5, ne_4_0, ne_4_1, ne_4_2, ne_4_3, ne_4_5, ne_5_0, ne_5_1, ne_5_2, ne_5_3, ne_5_4, hd_256_12, hd_256_16, hd_257_12, hd_258_12, hd_259_12, hd_260_12, hd_261_12, hd_261_13, hd_261_16, hd_262_12, hd_262_13, hd_262_16, hd_263_12, hd_263_13, hd_264_12, hd_264_13, hd_264_14, hd_265_12, hd_265_13, hd_265_14, hd_266_12, hd_267_12, hd_267_13, hd_267_14, hd_268_12, hd_269_12, hd_269_14, hd_270_12, hd_271_12, hd_272_12, hd_273_12, hd_273_13, hd_273_15, hd_274_12, hd_274_15, hd_275_12, hd_275_15, hd_276_12, nI_p1, nI_p2, nI_p3, nI_p4, nI_p5, not_true_eq_false, not_false_eq_true, and_self, mf_0, mf_1, mf_2, mf_3, mf_4, mf_5, mf_6, mf_7, mf_8, mf_9, mf_10, mf_11, mf_12, mf_13, mf_14, mf_15, mf_16, mf_17, mf_18, mf_19, mf_20, mf_21, mf_22, mf_23, mf_24, mf_25, mf_26, mf_27, mf_28, mf_29, mf_30, mf_31, mf_32, mf_33, mf_34, mf_35, mf_36, mf_37, mf_38, mf_39, mf_40, mf_41, mf_42, mf_43, mf_44, mf_45, mf_46, mf_47, mf_48, mf_49, mf_50, mf_51, mf_52, mf_53, mf_54, mf_55, mf_56, mf_57, mf_58, mf_59, mf_60, mf_61, mfs_0, mfs_2, mfs_17, mfs_20, mfs_26, mfs_32, mfs_34, mfs_36, mfs_38, mfs_43, mfs_44, mfs_45, mfs_46, mfs_47, iy_0, iy_1, iy_2, iy_3, iy_4, iy_5, iy_6, n4, neg, px_kill, nar_0]
      refine hQ 0 (.inr ⟨rfl, fun d => ?_⟩)
      rcases d with ⟨d, -⟩ | ⟨-, i, d1, d2, -⟩ | ⟨d, -⟩
      · omega
      · exact i1 i d1 d2
      · omega
set_option maxRecDepth 16384 in
theorem m_ap_l {e : Nat} {Z C : Nat → Int32} {l3 : Int32} (hl : 641 < h.2.length) (h6 : h.2[619]? = some (.inl (11, modF V))) (hr : h.2[636]? = some (.inr (1, 40100, .inl row))) (h8 : h.2[640]? = some (.inr (1, 82, .inl Z))) (he : e < 82) (hZ : Z e = nI m) (hm : m ≤ 1000) (hs : s + m ≤ 40100)
    (hQ : ∀ C', (∀ j, j < m → C' (1001 * e + j) = row (s + j)) → (∀ i, i < 1001 * e ∨ 1001 * e + m ≤ i → C' i = C i) → Q (.inl none) (px_wr h 641 (.inr (1, 82082, .inl C')))) :
    ∀ d i, i + d = m → ∀ Ck, (∀ j, j < i → Ck (1001 * e + j) = row (s + j)) → (∀ j, j < 1001 * e ∨ 1001 * e + i ≤ j → Ck j = C j) → px_Wp sx 180 89 [some (.ref 619), some (.int (nI k)), some (.int (nI s)), some (.int l3), some (.int (nI e)), some (.int (nI i))] [] (px_wr h 641 (.inr (1, 82082, .inl Ck))) Q := by
  have i8 : px_in (nI e) 82 = true := px_inb he (by decide)
  have c8 : (nI e).toNatClampNeg = e := nI_clamp (by omega)
  have z7 : ∀ x : px_C, (px_wr h 641 x).2[641]? = some x := fun x => by rw [wr_at, if_pos rfl, if_pos hl]
  have z6 : ∀ x : px_C, (px_wr h 641 x).2[619]? = some (.inl (11, modF V)) := fun x => by rw [wr_at, if_neg (by decide)]; exact h6
  have z8 : ∀ x : px_C, (px_wr h 641 x).2[640]? = some (.inr (1, 82, .inl Z)) := fun x => by rw [wr_at, if_neg (by decide)]; exact h8
  have z9 : ∀ x : px_C, (px_wr h 641 x).2[636]? = some (.inr (1, 40100, .inl row)) := fun x => by rw [wr_at, if_neg (by decide)]; exact hr
  have n1 : ∀ x : Int32, px_nar 1 x = x := fun _ => rfl
  intro d
  induction d with
  | zero =>
    intro i hi Ck w1 w2
    have hi : i = m := by omega
    subst hi
    simp only [pc180_89, pc180_91, pc180_91n, pc180_92, pc180_95, pc180_97, pc180_98, pc180_130, px_op_some, px_kv_ap, px_ki_ap, px_kl_ap, px_kn_ap, px_kh_ap, px_op_none, px_K_some, px_K_none, px_K_thr, px_kill, ↓reduceIte, if_true, if_false, true_and, and_true, px_gf, px_ai, tg_i1, z6, z8, mf_24, i8, c8, hZ, and_self, if_pos (Int32.le_refl _)]
    exact hQ Ck w1 w2
  | succ d ih =>
    intro i hi Ck w1 w2
    have ge : ¬ nI m ≤ nI i := nI_ge (by omega) (by omega)
    have it : px_in (nI (1001 * e + i)) 82082 = true := px_inb (by omega) (by decide)
    have ct : (nI (1001 * e + i)).toNatClampNeg = 1001 * e + i := nI_clamp (by omega)
    have is_ : px_in (nI (s + i)) 40100 = true := px_inb (by omega) (by decide)
    have cs : (nI (s + i)).toNatClampNeg = s + i := nI_clamp (by omega)
    rw [pc180_89]
    simp only [pc180_91, pc180_91n, pc180_92, pc180_95, pc180_97, pc180_98, pc180_101, pc180_101n, pc180_102, pc180_105, pc180_108, pc180_110, pc180_111, pc180_113, pc180_114, pc180_114n, pc180_115, pc180_118, pc180_119, pc180_121, pc180_122, pc180_123, pc180_124, pc180_127, px_op_some, px_kv_ap, px_ki_ap, px_kl_ap, px_kn_ap, px_kh_ap, px_op_none, px_K_some, px_K_none, px_K_thr, px_kill, ↓reduceIte, if_true, if_false, true_and, and_true, px_gf, px_ai, px_wi, tg_i1, z6, z7, z8, z9, mf_19, mf_24, mf_25, i8, c8, hZ, ge, mul_1001, nI_add, it, ct, is_, cs, n1, and_self, px_wr_wr, px_kill, nI_1]
    refine ih (i + 1) (by omega) _ (fun j hj => ?_) (fun j hj => ?_)
    · by_cases x : j = i
      · subst x; exact up_same _ _ _
      · rw [up_ne (by omega)]; exact w1 j (by omega)
    · rw [up_ne (by omega)]; exact w2 j (by omega)
set_option maxRecDepth 16384 in
theorem m_ap_t {e : Nat} (h6 : h.2[619]? = some (.inl (11, modF V))) (hr : h.2[636]? = some (.inr (1, 40100, .inl row))) (w : mtE h D T) (he : D e) (el : eL (T e) = l) (ep : eP (T e) = p) (hk : k = 1 ∨ k = 2) (hm : m ≤ 1000) (hs : s + m ≤ 40100) (hc : k = 2 → ∀ j, j < m → row (s + j) = c j)
    (hQ : ∀ h', mtE h' D (px_up T e (iE k l p m c)) → frm mEA h h' → (shape h → shape h') → Q (.inl none) h') :
    px_Wp sx 180 59 [some (.ref 619), some (.int (nI k)), some (.int (nI s)), some (.int (nI m)), none, none] [.int (nI e)] h Q := by
  obtain ⟨P, LN, K, Z, C, ⟨a1, a2, a3, a4, a5⟩, w2⟩ := w
  obtain ⟨e82, ok, r1, r2, r3, r4, r5⟩ := w2 e he
  have n1 : ∀ x : Int32, px_nar 1 x = x := fun _ => rfl
  have ie : px_in (nI e) 82 = true := px_inb e82 (by decide)
  have ce : (nI e).toNatClampNeg = e := nI_clamp (by omega)
  have L9 : 639 < h.2.length := (List.getElem?_eq_some_iff.mp a3).1
  have L10 : 640 < h.2.length := (List.getElem?_eq_some_iff.mp a4).1
  have L11 : 641 < h.2.length := (List.getElem?_eq_some_iff.mp a5).1
  have key : ∀ m', m' ≤ 1000 → s + m' ≤ 40100 → (iE k l p m c).2.2.1 = k → (iE k l p m c).2.2.2.1 = m' → (∀ j, j < m' → row (s + j) = (iE k l p m c).2.2.2.2 j) → ∀ h1 : px_H, h1.2[619]? = some (.inl (11, modF V)) → h1.2[636]? = some (.inr (1, 40100, .inl row)) → h1.2[637]? = some (.inr (1, 2952, .inl P)) → h1.2[638]? = some (.inr (1, 82, .inl LN)) → h1.2[639]? = some (.inr (1, 82, .inl (px_up K e (nI k)))) → h1.2[640]? = some (.inr (1, 82, .inl (px_up Z e (nI m')))) → h1.2[641]? = some (.inr (1, 82082, .inl C)) → frm mEA h h1 → (shape h → shape h1) →
      px_Wp sx 180 89 [some (.ref 619), some (.int (nI k)), some (.int (nI s)), some (.int (nI m)), some (.int (nI e)), some (.int 0)] [] h1 Q := by
    intro m' m1 m2 kk km kc h1 b6 br b7 b8 b9 b10 b11 fr1 sh1
    have M11 : 641 < h1.2.length := (List.getElem?_eq_some_iff.mp b11).1
    have e0 : px_wr h1 641 (.inr (1, 82082, .inl C)) = h1 := wr_id b11
    have pl : eP (iE k l p m c) = p ∧ eL (iE k l p m c) = l := by unfold iE; split <;> exact ⟨rfl, rfl⟩
    have okI : eOK (iE k l p m c) := by
      refine ⟨by rw [pl.1, pl.2, ← ep, ← el]; exact ok.1, ?_⟩
      rcases hk with rfl | rfl
      · exact .inl ⟨rfl, rfl⟩
      · exact .inr ⟨rfl, hm⟩
    have go := m_ap_l (sx := sx) (h := h1) (k := k) (m := m') (s := s) (e := e) (C := C) (l3 := nI m) (Q := Q) M11 b6 br b10 e82 (up_same _ _ _) m1 m2 (fun C' p1 p2 => by
      refine hQ _ ⟨P, LN, px_up K e (nI k), px_up Z e (nI m'), C', ⟨?_, ?_, ?_, ?_, ?_⟩, fun i hi => ?_⟩ (frm_wr fr1 ⟨by decide, by decide⟩) (fun s => shape_ia (sh1 s) b11)
      · rw [wr_at, if_neg (by decide)]; exact b7
      · rw [wr_at, if_neg (by decide)]; exact b8
      · rw [wr_at, if_neg (by decide)]; exact b9
      · rw [wr_at, if_neg (by decide)]; exact b10
      · rw [wr_at, if_pos rfl, if_pos M11]
      · by_cases x : i = e
        · subst x
          rw [up_same]
          refine ⟨e82, okI, by rw [pl.2, ← el]; exact r1, by rw [up_same]; exact congrArg nI kk.symm, by rw [up_same]; exact congrArg nI km.symm, fun j hj => ?_, fun j hj => ?_⟩
          · rw [pl.2, ← el] at hj; rw [pl.1, ← ep]; exact r4 j hj
          · have hj' : j < m' := by rw [← km]; exact hj
            rw [p1 j hj']; exact kc j hj'
        · obtain ⟨i82, oki, s1, s2, s3, s4, s5⟩ := w2 i hi
          have i1000 := eN_le oki
          rw [up_ne x]
          exact ⟨i82, oki, s1, by rw [up_ne x]; exact s2, by rw [up_ne x]; exact s3, s4, fun j hj => by rw [p2 _ (by omega)]; exact s5 j hj⟩) m' 0 (by omega) C (fun j hj => absurd hj (Nat.not_lt_zero j)) (fun i _ => rfl)
    rw [e0] at go
    exact go
  have fin : ∀ x : Int32, ∀ m', x = nI m' → m' ≤ 1000 → s + m' ≤ 40100 → (iE k l p m c).2.2.1 = k → (iE k l p m c).2.2.2.1 = m' → (∀ j, j < m' → row (s + j) = (iE k l p m c).2.2.2.2 j) →
      px_Wp sx 180 89 [some (.ref 619), some (.int (nI k)), some (.int (nI s)), some (.int (nI m)), some (.int (nI e)), some (.int 0)] [] (px_wr (px_wr h 639 (.inr (1, 82, .inl (px_up K e (nI k))))) 640 (.inr (1, 82, .inl (px_up Z e x)))) Q := by
    intro x m' hx m1 m2 kk km kc
    subst hx
    refine key m' m1 m2 kk km kc _ ?_ ?_ ?_ ?_ ?_ ?_ ?_ (frm_wr (frm_wr (frm_refl _ _) ⟨by decide, by decide⟩) ⟨by decide, by decide⟩) (fun s => shape_ia (shape_ia s a3) (by rw [wr_at, if_neg (by decide)]; exact a4))
    · rw [wr_at, if_neg (by decide), wr_at, if_neg (by decide)]; exact h6
    · rw [wr_at, if_neg (by decide), wr_at, if_neg (by decide)]; exact hr
    · rw [wr_at, if_neg (by decide), wr_at, if_neg (by decide)]; exact a1
    · rw [wr_at, if_neg (by decide), wr_at, if_neg (by decide)]; exact a2
    · rw [wr_at, if_neg (by decide), wr_at, if_pos rfl, if_pos L9]
    · rw [wr_at, if_pos rfl, if_pos (by rw [px_wr_len]; exact L10)]
    · rw [wr_at, if_neg (by decide), wr_at, if_neg (by decide)]; exact a5
  rcases hk with rfl | rfl
  · have k1 : nI 1 = 1 := rfl
    have g := fin 0 0 rfl (by omega) (by omega) rfl rfl (fun j hj => absurd hj (Nat.not_lt_zero j))
    rw [k1] at g ⊢
    simp only [pc180_59, pc180_61, pc180_61n, pc180_62, pc180_65, pc180_67, pc180_68, pc180_69, pc180_69n, pc180_70, pc180_73, pc180_75, pc180_76, pc180_77, pc180_84, pc180_85, pc180_86, pc180_87, px_op_some, px_kv_ap, px_ki_ap, px_kl_ap, px_kn_ap, px_kh_ap, px_op_none, px_K_some, px_K_none, px_K_thr, px_kill, ↓reduceIte, if_true, if_false, true_and, and_true, px_gf, px_ai, px_wi, yr_0, yr_1, tr_0, tr_1, tr_2, tr_3, px_rf, of_2, of_4, in_02, in_12, in_04, in_14, in_24, in_34, Nat.reduceLeDiff, in_01, lgc_self, Int32.reduceToNatClampNeg, wr_at, al_at, px_wr_len, px_al_len, px_wr_1, px_al_1, tg_0, tg_1, tg_2, tg_3, tg_12, tg_15, tg_17, tg_18, tg_i1, tg_b0, tg_b3, px_fit, Nat.reduceEqDiff, Nat.reduceLT, Nat.reduceAdd, Option.some.injEq, up_at, px_wr_wr, i32_le, Int32.reduceLE, Int32.reduceLT, mf_len, nar_0, nar_1, px_KH_some, px_KH_none, px_KH_thr, List.length_cons, List.length_nil, List.getElem?_cons_zero, List.getElem?_cons_succ, List.set_cons_zero, List.set_cons_succ, ↓reduceIte, Nat.lt_irrefl, ne_0_1, ne_0_2, ne_0_3, ne_0_4, ne_0_5, ne_1_0, ne_1_2, ne_1_3, ne_1_4, ne_1_5, ne_2_0, ne_2_1, ne_2_3, ne_2_4, ne_2_5, ne_3_0, ne_3_1, ne_3_2, ne_3_4, ne_3_5, ne_4_0, ne_4_1, ne_4_2, ne_4_3, ne_4_5, ne_5_0, ne_5_1, ne_5_2, ne_5_3, ne_5_4, hd_256_12, hd_256_16, hd_257_12, hd_258_12, hd_259_12, hd_260_12, hd_261_12, hd_261_13, hd_261_16, hd_262_12, hd_262_13, hd_262_16, hd_263_12, hd_263_13, hd_264_12, hd_264_13, hd_264_14, hd_265_12, hd_265_13, hd_265_14, hd_266_12, hd_267_12, hd_267_13, hd_267_14, hd_268_12, hd_269_12, hd_269_14, hd_270_12, hd_271_12, hd_272_12, hd_273_12, hd_273_13, hd_273_15, hd_274_12, hd_274_15, hd_275_12, hd_275_15, hd_276_12, nI_p1, nI_p2, nI_p3, nI_p4, nI_p5, not_true_eq_false, not_false_eq_true, and_self, mf_0, mf_1, mf_2, mf_3, mf_4, mf_5, mf_6, mf_7, mf_8, mf_9, mf_10, mf_11, mf_12, mf_13, mf_14, mf_15, mf_16, mf_17, mf_18, mf_19, mf_20, mf_21, mf_22, mf_23, mf_24, mf_25, mf_26, mf_27, mf_28, mf_29, mf_30, mf_31, mf_32, mf_33, mf_34, mf_35, mf_36, mf_37, mf_38, mf_39, mf_40, mf_41, mf_42, mf_43, mf_44, mf_45, mf_46, mf_47, mf_48, mf_49, mf_50, mf_51, mf_52, mf_53, mf_54, mf_55, mf_56, mf_57, mf_58, mf_59, mf_60, mf_61, mfs_0, mfs_2, mfs_17, mfs_20, mfs_26, mfs_32, mfs_34, mfs_36, mfs_38, mfs_43, mfs_44, mfs_45, mfs_46, mfs_47, iy_0, iy_1, iy_2, iy_3, iy_4, iy_5, iy_6, h6, mf_23, mf_24, a3, a4, ie, ce, n1, px_kill]
    exact g
  · have k2 : nI 2 = 2 := rfl
    have g := fin (nI m) m rfl hm hs rfl rfl (hc rfl)
    rw [k2] at g ⊢
    simp only [pc180_59, pc180_61, pc180_61n, pc180_62, pc180_65, pc180_67, pc180_68, pc180_69, pc180_69n, pc180_70, pc180_73, pc180_75, pc180_76, pc180_77, pc180_80, pc180_81, pc180_84, pc180_85, pc180_86, pc180_87, px_op_some, px_kv_ap, px_ki_ap, px_kl_ap, px_kn_ap, px_kh_ap, px_op_none, px_K_some, px_K_none, px_K_thr, px_kill, ↓reduceIte, if_true, if_false, true_and, and_true, px_gf, px_ai, px_wi, yr_0, yr_1, tr_0, tr_1, tr_2, tr_3, px_rf, of_2, of_4, in_02, in_12, in_04, in_14, in_24, in_34, Nat.reduceLeDiff, in_01, lgc_self, Int32.reduceToNatClampNeg, wr_at, al_at, px_wr_len, px_al_len, px_wr_1, px_al_1, tg_0, tg_1, tg_2, tg_3, tg_12, tg_15, tg_17, tg_18, tg_i1, tg_b0, tg_b3, px_fit, Nat.reduceEqDiff, Nat.reduceLT, Nat.reduceAdd, Option.some.injEq, up_at, px_wr_wr, i32_le, Int32.reduceLE, Int32.reduceLT, mf_len, nar_0, nar_1, px_KH_some, px_KH_none, px_KH_thr, List.length_cons, List.length_nil, List.getElem?_cons_zero, List.getElem?_cons_succ, List.set_cons_zero, List.set_cons_succ, ↓reduceIte, Nat.lt_irrefl, ne_0_1, ne_0_2, ne_0_3, ne_0_4, ne_0_5, ne_1_0, ne_1_2, ne_1_3, ne_1_4, ne_1_5, ne_2_0, ne_2_1, ne_2_3, ne_2_4, ne_2_5, ne_3_0, ne_3_1, ne_3_2, ne_3_4, ne_3_5, ne_4_0, ne_4_1, ne_4_2, ne_4_3, ne_4_5, ne_5_0, ne_5_1, ne_5_2, ne_5_3, ne_5_4, hd_256_12, hd_256_16, hd_257_12, hd_258_12, hd_259_12, hd_260_12, hd_261_12, hd_261_13, hd_261_16, hd_262_12, hd_262_13, hd_262_16, hd_263_12, hd_263_13, hd_264_12, hd_264_13, hd_264_14, hd_265_12, hd_265_13, hd_265_14, hd_266_12, hd_267_12, hd_267_13, hd_267_14, hd_268_12, hd_269_12, hd_269_14, hd_270_12, hd_271_12, hd_272_12, hd_273_12, hd_273_13, hd_273_15, hd_274_12, hd_274_15, hd_275_12, hd_275_15, hd_276_12, nI_p1, nI_p2, nI_p3, nI_p4, nI_p5, not_true_eq_false, not_false_eq_true, and_self, mf_0, mf_1, mf_2, mf_3, mf_4, mf_5, mf_6, mf_7, mf_8, mf_9, mf_10, mf_11, mf_12, mf_13, mf_14, mf_15, mf_16, mf_17, mf_18, mf_19, mf_20, mf_21, mf_22, mf_23, mf_24, mf_25, mf_26, mf_27, mf_28, mf_29, mf_30, mf_31, mf_32, mf_33, mf_34, mf_35, mf_36, mf_37, mf_38, mf_39, mf_40, mf_41, mf_42, mf_43, mf_44, mf_45, mf_46, mf_47, mf_48, mf_49, mf_50, mf_51, mf_52, mf_53, mf_54, mf_55, mf_56, mf_57, mf_58, mf_59, mf_60, mf_61, mfs_0, mfs_2, mfs_17, mfs_20, mfs_26, mfs_32, mfs_34, mfs_36, mfs_38, mfs_43, mfs_44, mfs_45, mfs_46, mfs_47, iy_0, iy_1, iy_2, iy_3, iy_4, iy_5, iy_6, h6, mf_23, mf_24, a3, a4, ie, ce, n1, px_kill]
    exact g
end MAPP
