/-! ENTRIES, the class's: paths -/
set_option maxRecDepth 16384 in
theorem nI_sgn {a b : Nat} (ha : a < 1000) (hb : b < 1000) : (a < b → nI a - nI b < 0) ∧ (b < a → 0 < nI a - nI b) := by
  have e : (nI a - nI b).toInt = (a : Int) - (b : Int) := by
    rw [Int32.toInt_sub, nI_toInt (by omega), nI_toInt (by omega), Int.bmod_eq_of_le (by omega) (by omega)]
  constructor
  · intro h
    rw [Int32.lt_iff_toInt_lt, e]; show (a : Int) - b < 0; omega
  · intro h
    rw [Int32.lt_iff_toInt_lt, e]; show (0 : Int) < (a : Int) - b; omega
set_option maxRecDepth 16384 in
theorem nI_sub0 (a : Nat) : nI a - nI a = 0 := Int32.sub_self _
/-- the path of the entry at O -/
def enP (h : px_H) (O l : Nat) (p : Nat → Nat) : Prop := (∃ kd src st cn, h.2[O]? = some (.inl (2, [.ref (O + 1), .int (nI l), .int kd, src, .int st, .int cn]))) ∧ (∃ g, h.2[O + 1]? = some (.inr (0, 35, .inl g)) ∧ ∀ j, j < l → g j = nI (p j)) ∧ l ≤ 35
/-- x says how p stands to q -/
def ordR (x : Int32) (p q : Nat → Nat) : Prop := (x = 0 ∧ p = q) ∨ (x < 0 ∧ plt p q) ∨ (0 < x ∧ plt q p)
section CENT
variable {sx : Nat × (Nat → Int32)} {h : px_H} {O O' l l' m : Nat} {p q : Nat → Nat} {Q : px_O → px_H → Prop}
set_option maxRecDepth 16384 in
theorem c_order_l (a : enP h O l p) (b : enP h O' l' q) (hm : m ≤ l') (hp : (∀ j, j < l → 1 ≤ p j ∧ p j ≤ 122) ∧ ∀ j, l ≤ j → p j = 0) (hq : ∀ j, j < m → 1 ≤ q j ∧ q j ≤ 122)
    (hQ : ∀ x, ordR x p (cutP q m) → Q (.inl (some (.int x))) h) :
    ∀ n i, i + n = l → (∀ j, j < i → p j = q j) → i ≤ m → px_Wp sx 44 2 [some (.ref O), some (.ref O'), some (.int (nI m)), some (.int (nI i))] [] h Q := by
  obtain ⟨⟨kd, src, st, cn, a1⟩, ⟨g, a2, a3⟩, a4⟩ := a
  obtain ⟨⟨kd', src', st', cn', b1⟩, ⟨g', b2, b3⟩, b4⟩ := b
  have fin : ∀ i, (∀ j, j < i → p j = q j) → i ≤ m → i ≤ l → (i = l ∨ i = m) → px_Wp sx 44 50 [some (.ref O), some (.ref O'), some (.int (nI m)), some (.int (nI i))] [] h Q := fun i hi him hil he => by
    simp only [pc44_50, pc44_50n, pc44_51, pc44_54, pc44_55, pc44_56, px_op_some, px_kv_ap, px_ki_ap, px_kl_ap, px_kn_ap, px_kh_ap, px_op_none, px_K_some, px_K_none, px_K_thr, px_kill, ↓reduceIte, if_true, if_false, true_and, and_true, px_gf, px_pf, px_ai, px_aj, px_aa, px_wi, px_wj, px_wa, px_an, px_cls, List.getElem?_cons_zero, List.getElem?_cons_succ, px_op_some, px_kv_ap, px_ki_ap, px_kl_ap, px_kn_ap, px_kh_ap, a1]
    refine hQ _ ?_
    rcases Nat.lt_trichotomy l m with z | z | z
    · refine .inr (.inl ⟨(nI_sgn (by omega) (by omega)).1 z, l, fun j hj => by rw [cutP_lt (by omega)]; exact hi j (by omega), ?_⟩)
      rw [hp.2 l (Nat.le_refl _), cutP_lt z]; have := hq l z; omega
    · subst z
      refine .inl ⟨nI_sub0 _, funext fun j => ?_⟩
      by_cases e : j < l
      · rw [cutP_lt e]; exact hi j (by omega)
      · rw [cutP_ge (by omega), hp.2 j (by omega)]
    · refine .inr (.inr ⟨(nI_sgn (by omega) (by omega)).2 z, m, fun j hj => by rw [cutP_lt hj]; exact (hi j (by omega)).symm, ?_⟩)
      rw [cutP_ge (Nat.le_refl _)]; have := hp.1 m z; omega
  intro n
  induction n with
  | zero =>
    intro i hn hi him
    have e : i = l := by omega
    subst e
    rw [pc44_2]
    simp only [pc44_3, pc44_3n, pc44_4, pc44_7, px_op_some, px_kv_ap, px_ki_ap, px_kl_ap, px_kn_ap, px_kh_ap, px_op_none, px_K_some, px_K_none, px_K_thr, px_kill, ↓reduceIte, if_true, if_false, true_and, and_true, px_gf, px_pf, px_ai, px_aj, px_aa, px_wi, px_wj, px_wa, px_an, px_cls, List.getElem?_cons_zero, List.getElem?_cons_succ, px_op_some, px_kv_ap, px_ki_ap, px_kl_ap, px_kn_ap, px_kh_ap, a1, if_pos (Int32.le_refl _)]
    exact fin i hi him (Nat.le_refl _) (.inl rfl)
  | succ n ih =>
    intro i hn hi him
    have g1 : ¬ nI l ≤ nI i := nI_ge (by omega) (by omega)
    rw [pc44_2]
    by_cases e : i = m
    · subst e
      simp only [pc44_3, pc44_3n, pc44_4, pc44_7, pc44_10, pc44_11, pc44_12, px_op_some, px_kv_ap, px_ki_ap, px_kl_ap, px_kn_ap, px_kh_ap, px_op_none, px_K_some, px_K_none, px_K_thr, px_kill, ↓reduceIte, if_true, if_false, true_and, and_true, px_gf, px_pf, px_ai, px_aj, px_aa, px_wi, px_wj, px_wa, px_an, px_cls, yr_0, yr_1, tr_0, tr_1, tr_2, tr_3, px_rf, of_2, of_4, in_02, in_12, in_04, in_14, in_24, in_34, Nat.reduceLeDiff, in_01, lgc_self, Int32.reduceToNatClampNeg, wr_at, al_at, px_wr_len, px_al_len, px_wr_1, px_al_1, tg_0, tg_1, tg_2, tg_3, tg_12, tg_15, tg_17, tg_18, tg_i1, tg_b0, tg_b3, px_fit, Nat.reduceEqDiff, Nat.reduceLT, Nat.reduceAdd, Option.some.injEq, up_at, px_wr_wr, i32_le, Int32.reduceLE, Int32.reduceLT, mf_len, nar_0, nar_1, px_KH_some, px_KH_none, px_KH_thr, List.length_cons, List.length_nil, List.getElem?_cons_zero, List.getElem?_cons_succ, List.set_cons_zero, List.set_cons_succ, ↓reduceIte, Nat.lt_irrefl, ne_0_1, ne_0_2, ne_0_3, ne_0_4, ne_0_5, ne_1_0, ne_1_2, ne_1_3, ne_1_4, ne_1_5, ne_2_0, ne_2_1, ne_2_3, ne_2_4, ne_2_5, ne_3_0, ne_3_1, ne_3_2, ne_3_4, ne_3_5, ne_4_0, ne_4_1, ne_4_2, ne_4_3, ne_4_5, ne_5_0, ne_5_1, ne_5_2, ne_5_3, ne_5_4, hd_256_12, hd_256_16, hd_257_12, hd_258_12, hd_259_12, hd_260_12, hd_261_12, hd_261_13, hd_261_16, hd_262_12, hd_262_13, hd_262_16, hd_263_12, hd_263_13, hd_264_12, hd_264_13, hd_264_14, hd_265_12, hd_265_13, hd_265_14, hd_266_12, hd_267_12, hd_267_13, hd_267_14, hd_268_12, hd_269_12, hd_269_14, hd_270_12, hd_271_12, hd_272_12, hd_273_12, hd_273_13, hd_273_15, hd_274_12, hd_274_15, hd_275_12, hd_275_15, hd_276_12, nI_p1, nI_p2, nI_p3, nI_p4, nI_p5, not_true_eq_false, not_false_eq_true, and_self, mf_0, mf_1, mf_2, mf_3, mf_4, mf_5, mf_6, mf_7, mf_8, mf_9, mf_10, mf_11, mf_12, mf_13, mf_14, mf_15, mf_16, mf_17, mf_18, mf_19, mf_20, mf_21, mf_22, mf_23, mf_24, mf_25, mf_26, mf_27, mf_28, mf_29, mf_30, mf_31, mf_32, mf_33, mf_34, mf_35, mf_36, mf_37, mf_38, mf_39, mf_40, mf_41, mf_42, mf_43, mf_44, mf_45, mf_46, mf_47, mf_48, mf_49, mf_50, mf_51, mf_52, mf_53, mf_54, mf_55, mf_56, mf_57, mf_58, mf_59, mf_60, mf_61, mfs_0, mfs_2, mfs_17, mfs_20, mfs_26, mfs_32, mfs_34, mfs_36, mfs_38, mfs_43, mfs_44, mfs_45, mfs_46, mfs_47, iy_0, iy_1, iy_2, iy_3, iy_4, iy_5, iy_6, a1, g1, Int32.lt_irrefl, not_false_eq_true, if_true]
      exact fin i hi him (by omega) (.inr rfl)
    · have g2 : ¬ nI m ≤ nI i := nI_ge (by omega) (by omega)
      have ii : px_in (nI i) 35 = true := px_inb (by omega) (by decide)
      have ci : (nI i).toNatClampNeg = i := nI_clamp (by omega)
      have e1 := a3 i (by omega)
      have e2 := b3 i (by omega)
      have hpi := hp.1 i (by omega)
      have hqi := hq i (by omega)
      by_cases x : p i = q i
      · have en : nI (p i) = nI (q i) := by rw [x]
        simp only [pc44_3, pc44_3n, pc44_4, pc44_7, pc44_10, pc44_11, pc44_12, pc44_15, pc44_15n, pc44_16, pc44_19, pc44_20, pc44_21, pc44_21n, pc44_22, pc44_25, pc44_26, pc44_27, pc44_30, pc44_30n, pc44_31, pc44_34, pc44_35, pc44_36, pc44_36n, pc44_37, pc44_40, pc44_41, pc44_42, pc44_43, pc44_44, pc44_47, px_op_some, px_kv_ap, px_ki_ap, px_kl_ap, px_kn_ap, px_kh_ap, px_op_none, px_K_some, px_K_none, px_K_thr, px_kill, ↓reduceIte, if_true, if_false, true_and, and_true, px_gf, px_pf, px_ai, px_aj, px_aa, px_wi, px_wj, px_wa, px_an, px_cls, yr_0, yr_1, tr_0, tr_1, tr_2, tr_3, px_rf, of_2, of_4, in_02, in_12, in_04, in_14, in_24, in_34, Nat.reduceLeDiff, in_01, lgc_self, Int32.reduceToNatClampNeg, wr_at, al_at, px_wr_len, px_al_len, px_wr_1, px_al_1, tg_0, tg_1, tg_2, tg_3, tg_12, tg_15, tg_17, tg_18, tg_i1, tg_b0, tg_b3, px_fit, Nat.reduceEqDiff, Nat.reduceLT, Nat.reduceAdd, Option.some.injEq, up_at, px_wr_wr, i32_le, Int32.reduceLE, Int32.reduceLT, mf_len, nar_0, nar_1, px_KH_some, px_KH_none, px_KH_thr, List.length_cons, List.length_nil, List.getElem?_cons_zero, List.getElem?_cons_succ, List.set_cons_zero, List.set_cons_succ, ↓reduceIte, Nat.lt_irrefl, ne_0_1, ne_0_2, ne_0_3, ne_0_4, ne_0_5, ne_1_0, ne_1_2, ne_1_3, ne_1_4, ne_1_5, ne_2_0, ne_2_1, ne_2_3, ne_2_4, ne_2_5, ne_3_0, ne_3_1, ne_3_2, ne_3_4, ne_3_5, ne_4_0, ne_4_1, ne_4_2, ne_4_3, ne_4_5, ne_5_0, ne_5_1, ne_5_2, ne_5_3, ne_5_4, hd_256_12, hd_256_16, hd_257_12, hd_258_12, hd_259_12, hd_260_12, hd_261_12, hd_261_13, hd_261_16, hd_262_12, hd_262_13, hd_262_16, hd_263_12, hd_263_13, hd_264_12, hd_264_13, hd_264_14, hd_265_12, hd_265_13, hd_265_14, hd_266_12, hd_267_12, hd_267_13, hd_267_14, hd_268_12, hd_269_12, hd_269_14, hd_270_12, hd_271_12, hd_272_12, hd_273_12, hd_273_13, hd_273_15, hd_274_12, hd_274_15, hd_275_12, hd_275_15, hd_276_12, nI_p1, nI_p2, nI_p3, nI_p4, nI_p5, not_true_eq_false, not_false_eq_true, and_self, mf_0, mf_1, mf_2, mf_3, mf_4, mf_5, mf_6, mf_7, mf_8, mf_9, mf_10, mf_11, mf_12, mf_13, mf_14, mf_15, mf_16, mf_17, mf_18, mf_19, mf_20, mf_21, mf_22, mf_23, mf_24, mf_25, mf_26, mf_27, mf_28, mf_29, mf_30, mf_31, mf_32, mf_33, mf_34, mf_35, mf_36, mf_37, mf_38, mf_39, mf_40, mf_41, mf_42, mf_43, mf_44, mf_45, mf_46, mf_47, mf_48, mf_49, mf_50, mf_51, mf_52, mf_53, mf_54, mf_55, mf_56, mf_57, mf_58, mf_59, mf_60, mf_61, mfs_0, mfs_2, mfs_17, mfs_20, mfs_26, mfs_32, mfs_34, mfs_36, mfs_38, mfs_43, mfs_44, mfs_45, mfs_46, mfs_47, iy_0, iy_1, iy_2, iy_3, iy_4, iy_5, iy_6, a1, b1, a2, b2, g1, g2, ii, ci, e1, e2, tg_b0, en, px_kill, nI_1]
        refine ih (i + 1) (by omega) (fun j hj => ?_) (by omega)
        by_cases y : j = i
        · subst y; exact x
        · exact hi j (by omega)
      · have en : (nI (p i) = nI (q i)) = False := eq_false (fun w => x ((nI_inj (by omega) (by omega)).mp w))
        simp only [pc44_3, pc44_3n, pc44_4, pc44_7, pc44_10, pc44_11, pc44_12, pc44_15, pc44_15n, pc44_16, pc44_19, pc44_20, pc44_21, pc44_21n, pc44_22, pc44_25, pc44_26, pc44_27, pc44_30, pc44_30n, pc44_31, pc44_34, pc44_35, pc44_36, pc44_36n, pc44_37, pc44_40, pc44_41, pc44_42, pc44_43, px_op_some, px_kv_ap, px_ki_ap, px_kl_ap, px_kn_ap, px_kh_ap, px_op_none, px_K_some, px_K_none, px_K_thr, px_kill, ↓reduceIte, if_true, if_false, true_and, and_true, px_gf, px_pf, px_ai, px_aj, px_aa, px_wi, px_wj, px_wa, px_an, px_cls, yr_0, yr_1, tr_0, tr_1, tr_2, tr_3, px_rf, of_2, of_4, in_02, in_12, in_04, in_14, in_24, in_34, Nat.reduceLeDiff, in_01, lgc_self, Int32.reduceToNatClampNeg, wr_at, al_at, px_wr_len, px_al_len, px_wr_1, px_al_1, tg_0, tg_1, tg_2, tg_3, tg_12, tg_15, tg_17, tg_18, tg_i1, tg_b0, tg_b3, px_fit, Nat.reduceEqDiff, Nat.reduceLT, Nat.reduceAdd, Option.some.injEq, up_at, px_wr_wr, i32_le, Int32.reduceLE, Int32.reduceLT, mf_len, nar_0, nar_1, px_KH_some, px_KH_none, px_KH_thr, List.length_cons, List.length_nil, List.getElem?_cons_zero, List.getElem?_cons_succ, List.set_cons_zero, List.set_cons_succ, ↓reduceIte, Nat.lt_irrefl, ne_0_1, ne_0_2, ne_0_3, ne_0_4, ne_0_5, ne_1_0, ne_1_2, ne_1_3, ne_1_4, ne_1_5, ne_2_0, ne_2_1, ne_2_3, ne_2_4, ne_2_5, ne_3_0, ne_3_1, ne_3_2, ne_3_4, ne_3_5, ne_4_0, ne_4_1, ne_4_2, ne_4_3, ne_4_5, ne_5_0, ne_5_1, ne_5_2, ne_5_3, ne_5_4, hd_256_12, hd_256_16, hd_257_12, hd_258_12, hd_259_12, hd_260_12, hd_261_12, hd_261_13, hd_261_16, hd_262_12, hd_262_13, hd_262_16, hd_263_12, hd_263_13, hd_264_12, hd_264_13, hd_264_14, hd_265_12, hd_265_13, hd_265_14, hd_266_12, hd_267_12, hd_267_13, hd_267_14, hd_268_12, hd_269_12, hd_269_14, hd_270_12, hd_271_12, hd_272_12, hd_273_12, hd_273_13, hd_273_15, hd_274_12, hd_274_15, hd_275_12, hd_275_15, hd_276_12, nI_p1, nI_p2, nI_p3, nI_p4, nI_p5, not_true_eq_false, not_false_eq_true, and_self, mf_0, mf_1, mf_2, mf_3, mf_4, mf_5, mf_6, mf_7, mf_8, mf_9, mf_10, mf_11, mf_12, mf_13, mf_14, mf_15, mf_16, mf_17, mf_18, mf_19, mf_20, mf_21, mf_22, mf_23, mf_24, mf_25, mf_26, mf_27, mf_28, mf_29, mf_30, mf_31, mf_32, mf_33, mf_34, mf_35, mf_36, mf_37, mf_38, mf_39, mf_40, mf_41, mf_42, mf_43, mf_44, mf_45, mf_46, mf_47, mf_48, mf_49, mf_50, mf_51, mf_52, mf_53, mf_54, mf_55, mf_56, mf_57, mf_58, mf_59, mf_60, mf_61, mfs_0, mfs_2, mfs_17, mfs_20, mfs_26, mfs_32, mfs_34, mfs_36, mfs_38, mfs_43, mfs_44, mfs_45, mfs_46, mfs_47, iy_0, iy_1, iy_2, iy_3, iy_4, iy_5, iy_6, a1, b1, a2, b2, g1, g2, ii, ci, e1, e2, tg_b0, en, px_kill]
        refine hQ _ ?_
        rcases Nat.lt_or_gt_of_ne x with z | z
        · exact .inr (.inl ⟨(nI_sgn (by omega) (by omega)).1 z, i, fun j hj => by rw [cutP_lt (by omega)]; exact hi j hj, by rw [cutP_lt (by omega)]; exact z⟩)
        · exact .inr (.inr ⟨(nI_sgn (by omega) (by omega)).2 z, i, fun j hj => by rw [cutP_lt (by omega)]; exact (hi j hj).symm, by rw [cutP_lt (by omega)]; exact z⟩)
set_option maxRecDepth 16384 in
theorem pth_rng (hp : pth p l) : (∀ j, j < l → 1 ≤ p j ∧ p j ≤ 122) ∧ ∀ j, l ≤ j → p j = 0 := ⟨fun j hj => by have := pth_pos hp hj; omega, hp.2.2.2.1⟩
set_option maxRecDepth 16384 in
theorem c_order (a : enP h O l p) (b : enP h O' l' q) (hm : m ≤ l') (hp : pth p l) (hq : pth q l') (hQ : ∀ x, ordR x p (cutP q m) → Q (.inl (some (.int x))) h) :
    px_Wp sx 44 0 [some (.ref O), some (.ref O'), some (.int (nI m)), none] [] h Q := by
  simp only [pc44_0, pc44_1, px_kill]
  exact c_order_l a b hm (pth_rng hp) (fun j hj => (pth_rng hq).1 j (by omega)) hQ l 0 (by omega) (fun j hj => absurd hj (Nat.not_lt_zero j)) (Nat.zero_le _)
set_option maxRecDepth 16384 in
theorem c_home_l (a : enP h O l p) (hp : pth p l) (hQ : Q (.inl (some (.int (nI (homeL p l))))) h) :
    ∀ k, k < l → homeL p l = homeL p (k + 1) → px_Wp sx 46 7 [some (.ref O), some (.int (nI k))] [] h Q := by
  obtain ⟨⟨kd, src, st, cn, a1⟩, ⟨g, a2, a3⟩, a4⟩ := a
  intro k
  induction k with
  | zero =>
    intro hk e
    have h0 : homeL p 1 = 0 := by
      show (if p 0 = 47 then 0 else homeL p 0) = 0
      split <;> rfl
    rw [e, h0] at hQ
    simp only [pc46_7, pc46_8, pc46_30, pc46_31, show nI 0 = 0 from rfl, if_pos (Int32.le_refl (0 : Int32))]
    exact hQ
  | succ k ih =>
    intro hk e
    have g1 : ¬ nI (k + 1) ≤ 0 := fun z => absurd ((nI_leI (a := k + 1) (b := 0) (by omega) (by omega)).mp z) (by omega)
    have ii : px_in (nI (k + 1)) 35 = true := px_inb (by omega) (by decide)
    have ci : (nI (k + 1)).toNatClampNeg = k + 1 := nI_clamp (by omega)
    have e1 := a3 (k + 1) hk
    have hr := pth_pos hp hk
    rw [pc46_7]
    have hh : homeL p (k + 2) = if p (k + 1) = 47 then k + 1 else homeL p (k + 1) := rfl
    by_cases x : p (k + 1) = 47
    · rw [if_pos x] at hh
      rw [e, hh] at hQ
      simp only [pc46_8, pc46_11, pc46_11n, pc46_12, pc46_15, pc46_16, pc46_17, pc46_19, pc46_22, pc46_23, px_op_some, px_kv_ap, px_ki_ap, px_kl_ap, px_kn_ap, px_kh_ap, px_op_none, px_K_some, px_K_none, px_K_thr, px_kill, ↓reduceIte, if_true, if_false, true_and, and_true, px_gf, px_pf, px_ai, px_aj, px_aa, px_wi, px_wj, px_wa, px_an, px_cls, List.getElem?_cons_zero, List.getElem?_cons_succ, px_op_some, px_kv_ap, px_ki_ap, px_kl_ap, px_kn_ap, px_kh_ap, a1, a2, if_neg g1, ii, ci, e1, tg_b0, x, show nI 47 = 47 from rfl, and_self, not_true_eq_false, if_false]
      exact hQ
    · rw [if_neg x] at hh
      have en : (nI (p (k + 1)) = 47) = False := eq_false (fun w => x ((nI_inj (b := 47) (by omega) (by decide)).mp w))
      simp only [pc46_8, pc46_11, pc46_11n, pc46_12, pc46_15, pc46_16, pc46_17, pc46_19, pc46_22, pc46_23, pc46_24, pc46_27, px_op_some, px_kv_ap, px_ki_ap, px_kl_ap, px_kn_ap, px_kh_ap, px_op_none, px_K_some, px_K_none, px_K_thr, px_kill, ↓reduceIte, if_true, if_false, true_and, and_true, px_gf, px_pf, px_ai, px_aj, px_aa, px_wi, px_wj, px_wa, px_an, px_cls, List.getElem?_cons_zero, List.getElem?_cons_succ, px_op_some, px_kv_ap, px_ki_ap, px_kl_ap, px_kn_ap, px_kh_ap, a1, a2, if_neg g1, ii, ci, e1, tg_b0, en, not_false_eq_true, if_true, and_self, px_kill, nI_m1]
      exact ih (by omega) (e.trans hh)
set_option maxRecDepth 16384 in
theorem c_home (a : enP h O l p) (hp : pth p l) (hQ : Q (.inl (some (.int (nI (homeL p l))))) h) : px_Wp sx 46 0 [some (.ref O), none] [] h Q := by
  have a' := a
  obtain ⟨⟨kd, src, st, cn, a1⟩, -, a4⟩ := a
  have h1 := hp.1
  have es : nI l - 1 = nI (l - 1) := nI_sub (a := l) (b := 1) h1
  simp only [pc46_0, pc46_0n, pc46_1, pc46_4, pc46_5, pc46_6, px_op_some, px_kv_ap, px_ki_ap, px_kl_ap, px_kn_ap, px_kh_ap, px_op_none, px_K_some, px_K_none, px_K_thr, px_kill, ↓reduceIte, if_true, if_false, true_and, and_true, px_gf, px_pf, px_ai, px_aj, px_aa, px_wi, px_wj, px_wa, px_an, px_cls, List.getElem?_cons_zero, List.getElem?_cons_succ, px_op_some, px_kv_ap, px_ki_ap, px_kl_ap, px_kn_ap, px_kh_ap, a1, es, px_kill]
  exact c_home_l a' hp hQ (l - 1) (by omega) (by rw [show l - 1 + 1 = l by omega])
set_option maxRecDepth 16384 in
theorem c_below_l (a : enP h O m q) (b : enP h O' l p) (hq : pth q m) (hp : pth p l) (hlm : l < m) (hs : q l = 47) (hQ : ∀ x, says x (blw p l q) → Q (.inl (some (.int x))) h) :
    ∀ n i, i + n = l → (∀ j, j < i → q j = p j) → px_Wp sx 45 29 [some (.ref O), some (.ref O'), some (.int (nI i))] [] h Q := by
  obtain ⟨⟨kd, src, st, cn, a1⟩, ⟨g, a2, a3⟩, a4⟩ := a
  obtain ⟨⟨kd', src', st', cn', b1⟩, ⟨g', b2, b3⟩, b4⟩ := b
  intro n
  induction n with
  | zero =>
    intro i hi hj
    have hi : i = l := by omega
    subst hi
    rw [pc45_29]
    simp only [pc45_30, pc45_30n, pc45_31, pc45_34, pc45_60, pc45_61, px_op_some, px_kv_ap, px_ki_ap, px_kl_ap, px_kn_ap, px_kh_ap, px_op_none, px_K_some, px_K_none, px_K_thr, px_kill, ↓reduceIte, if_true, if_false, true_and, and_true, px_gf, px_pf, px_ai, px_aj, px_aa, px_wi, px_wj, px_wa, px_an, px_cls, List.getElem?_cons_zero, List.getElem?_cons_succ, px_op_some, px_kv_ap, px_ki_ap, px_kl_ap, px_kn_ap, px_kh_ap, b1, if_pos (Int32.le_refl _), nar_1]
    exact hQ 1 (.inl ⟨rfl, hj, hs⟩)
  | succ n ih =>
    intro i hi hj
    have g1 : ¬ nI l ≤ nI i := nI_ge (by omega) (by omega)
    have ii : px_in (nI i) 35 = true := px_inb (by omega) (by decide)
    have ci : (nI i).toNatClampNeg = i := nI_clamp (by omega)
    have e1 := a3 i (by omega)
    have e2 := b3 i (by omega)
    have r1 := pth_pos hq (j := i) (by omega)
    have r2 := pth_pos hp (j := i) (by omega)
    rw [pc45_29]
    by_cases x : q i = p i
    · have en : nI (q i) = nI (p i) := by rw [x]
      simp only [pc45_30, pc45_30n, pc45_31, pc45_34, pc45_37, pc45_37n, pc45_38, pc45_41, pc45_42, pc45_43, pc45_43n, pc45_44, pc45_47, pc45_48, pc45_49, pc45_52, pc45_53, pc45_54, pc45_57, px_op_some, px_kv_ap, px_ki_ap, px_kl_ap, px_kn_ap, px_kh_ap, px_op_none, px_K_some, px_K_none, px_K_thr, px_kill, ↓reduceIte, if_true, if_false, true_and, and_true, px_gf, px_pf, px_ai, px_aj, px_aa, px_wi, px_wj, px_wa, px_an, px_cls, yr_0, yr_1, tr_0, tr_1, tr_2, tr_3, px_rf, of_2, of_4, in_02, in_12, in_04, in_14, in_24, in_34, Nat.reduceLeDiff, in_01, lgc_self, Int32.reduceToNatClampNeg, wr_at, al_at, px_wr_len, px_al_len, px_wr_1, px_al_1, tg_0, tg_1, tg_2, tg_3, tg_12, tg_15, tg_17, tg_18, tg_i1, tg_b0, tg_b3, px_fit, Nat.reduceEqDiff, Nat.reduceLT, Nat.reduceAdd, Option.some.injEq, up_at, px_wr_wr, i32_le, Int32.reduceLE, Int32.reduceLT, mf_len, nar_0, nar_1, px_KH_some, px_KH_none, px_KH_thr, List.length_cons, List.length_nil, List.getElem?_cons_zero, List.getElem?_cons_succ, List.set_cons_zero, List.set_cons_succ, ↓reduceIte, Nat.lt_irrefl, ne_0_1, ne_0_2, ne_0_3, ne_0_4, ne_0_5, ne_1_0, ne_1_2, ne_1_3, ne_1_4, ne_1_5, ne_2_0, ne_2_1, ne_2_3, ne_2_4, ne_2_5, ne_3_0, ne_3_1, ne_3_2, ne_3_4, ne_3_5, ne_4_0, ne_4_1, ne_4_2, ne_4_3, ne_4_5, ne_5_0, ne_5_1, ne_5_2, ne_5_3, ne_5_4, hd_256_12, hd_256_16, hd_257_12, hd_258_12, hd_259_12, hd_260_12, hd_261_12, hd_261_13, hd_261_16, hd_262_12, hd_262_13, hd_262_16, hd_263_12, hd_263_13, hd_264_12, hd_264_13, hd_264_14, hd_265_12, hd_265_13, hd_265_14, hd_266_12, hd_267_12, hd_267_13, hd_267_14, hd_268_12, hd_269_12, hd_269_14, hd_270_12, hd_271_12, hd_272_12, hd_273_12, hd_273_13, hd_273_15, hd_274_12, hd_274_15, hd_275_12, hd_275_15, hd_276_12, nI_p1, nI_p2, nI_p3, nI_p4, nI_p5, not_true_eq_false, not_false_eq_true, and_self, mf_0, mf_1, mf_2, mf_3, mf_4, mf_5, mf_6, mf_7, mf_8, mf_9, mf_10, mf_11, mf_12, mf_13, mf_14, mf_15, mf_16, mf_17, mf_18, mf_19, mf_20, mf_21, mf_22, mf_23, mf_24, mf_25, mf_26, mf_27, mf_28, mf_29, mf_30, mf_31, mf_32, mf_33, mf_34, mf_35, mf_36, mf_37, mf_38, mf_39, mf_40, mf_41, mf_42, mf_43, mf_44, mf_45, mf_46, mf_47, mf_48, mf_49, mf_50, mf_51, mf_52, mf_53, mf_54, mf_55, mf_56, mf_57, mf_58, mf_59, mf_60, mf_61, mfs_0, mfs_2, mfs_17, mfs_20, mfs_26, mfs_32, mfs_34, mfs_36, mfs_38, mfs_43, mfs_44, mfs_45, mfs_46, mfs_47, iy_0, iy_1, iy_2, iy_3, iy_4, iy_5, iy_6, a1, b1, a2, b2, g1, ii, ci, e1, e2, tg_b0, en, px_kill, nI_1]
      refine ih (i + 1) (by omega) (fun j hj' => ?_)
      by_cases y : j = i
      · subst y; exact x
      · exact hj j (by omega)
    · have en : (nI (q i) = nI (p i)) = False := eq_false (fun w => x ((nI_inj (by omega) (by omega)).mp w))
      simp only [pc45_30, pc45_30n, pc45_31, pc45_34, pc45_37, pc45_37n, pc45_38, pc45_41, pc45_42, pc45_43, pc45_43n, pc45_44, pc45_47, pc45_48, pc45_49, pc45_52, pc45_53, px_op_some, px_kv_ap, px_ki_ap, px_kl_ap, px_kn_ap, px_kh_ap, px_op_none, px_K_some, px_K_none, px_K_thr, px_kill, ↓reduceIte, if_true, if_false, true_and, and_true, px_gf, px_pf, px_ai, px_aj, px_aa, px_wi, px_wj, px_wa, px_an, px_cls, yr_0, yr_1, tr_0, tr_1, tr_2, tr_3, px_rf, of_2, of_4, in_02, in_12, in_04, in_14, in_24, in_34, Nat.reduceLeDiff, in_01, lgc_self, Int32.reduceToNatClampNeg, wr_at, al_at, px_wr_len, px_al_len, px_wr_1, px_al_1, tg_0, tg_1, tg_2, tg_3, tg_12, tg_15, tg_17, tg_18, tg_i1, tg_b0, tg_b3, px_fit, Nat.reduceEqDiff, Nat.reduceLT, Nat.reduceAdd, Option.some.injEq, up_at, px_wr_wr, i32_le, Int32.reduceLE, Int32.reduceLT, mf_len, nar_0, nar_1, px_KH_some, px_KH_none, px_KH_thr, List.length_cons, List.length_nil, List.getElem?_cons_zero, List.getElem?_cons_succ, List.set_cons_zero, List.set_cons_succ, ↓reduceIte, Nat.lt_irrefl, ne_0_1, ne_0_2, ne_0_3, ne_0_4, ne_0_5, ne_1_0, ne_1_2, ne_1_3, ne_1_4, ne_1_5, ne_2_0, ne_2_1, ne_2_3, ne_2_4, ne_2_5, ne_3_0, ne_3_1, ne_3_2, ne_3_4, ne_3_5, ne_4_0, ne_4_1, ne_4_2, ne_4_3, ne_4_5, ne_5_0, ne_5_1, ne_5_2, ne_5_3, ne_5_4, hd_256_12, hd_256_16, hd_257_12, hd_258_12, hd_259_12, hd_260_12, hd_261_12, hd_261_13, hd_261_16, hd_262_12, hd_262_13, hd_262_16, hd_263_12, hd_263_13, hd_264_12, hd_264_13, hd_264_14, hd_265_12, hd_265_13, hd_265_14, hd_266_12, hd_267_12, hd_267_13, hd_267_14, hd_268_12, hd_269_12, hd_269_14, hd_270_12, hd_271_12, hd_272_12, hd_273_12, hd_273_13, hd_273_15, hd_274_12, hd_274_15, hd_275_12, hd_275_15, hd_276_12, nI_p1, nI_p2, nI_p3, nI_p4, nI_p5, not_true_eq_false, not_false_eq_true, and_self, mf_0, mf_1, mf_2, mf_3, mf_4, mf_5, mf_6, mf_7, mf_8, mf_9, mf_10, mf_11, mf_12, mf_13, mf_14, mf_15, mf_16, mf_17, mf_18, mf_19, mf_20, mf_21, mf_22, mf_23, mf_24, mf_25, mf_26, mf_27, mf_28, mf_29, mf_30, mf_31, mf_32, mf_33, mf_34, mf_35, mf_36, mf_37, mf_38, mf_39, mf_40, mf_41, mf_42, mf_43, mf_44, mf_45, mf_46, mf_47, mf_48, mf_49, mf_50, mf_51, mf_52, mf_53, mf_54, mf_55, mf_56, mf_57, mf_58, mf_59, mf_60, mf_61, mfs_0, mfs_2, mfs_17, mfs_20, mfs_26, mfs_32, mfs_34, mfs_36, mfs_38, mfs_43, mfs_44, mfs_45, mfs_46, mfs_47, iy_0, iy_1, iy_2, iy_3, iy_4, iy_5, iy_6, a1, b1, a2, b2, g1, ii, ci, e1, e2, tg_b0, en, px_kill, nar_0]
      exact hQ 0 (.inr ⟨rfl, fun w => x (w.1 i (by omega))⟩)
set_option maxRecDepth 16384 in
theorem c_below (a : enP h O m q) (b : enP h O' l p) (hq : pth q m) (hp : pth p l) (hQ : ∀ x, says x (blw p l q) → Q (.inl (some (.int x))) h) :
    px_Wp sx 45 0 [some (.ref O), some (.ref O'), none] [] h Q := by
  have a' := a
  have b' := b
  obtain ⟨⟨kd, src, st, cn, a1⟩, ⟨g, a2, a3⟩, a4⟩ := a
  obtain ⟨⟨kd', src', st', cn', b1⟩, ⟨g', b2, b3⟩, b4⟩ := b
  by_cases lm : l < m
  · have g1 : ¬ nI m ≤ nI l := nI_ge (by omega) (by omega)
    have ii : px_in (nI l) 35 = true := px_inb (by omega) (by decide)
    have ci : (nI l).toNatClampNeg = l := nI_clamp (by omega)
    have e1 := a3 l lm
    have r1 := pth_pos hq lm
    by_cases x : q l = 47
    · simp only [pc45_0, pc45_0n, pc45_1, pc45_4, pc45_4n, pc45_5, pc45_8, pc45_11, pc45_11n, pc45_12, pc45_15, pc45_15n, pc45_16, pc45_19, pc45_20, pc45_22, pc45_25, pc45_26, pc45_27, pc45_28, px_op_some, px_kv_ap, px_ki_ap, px_kl_ap, px_kn_ap, px_kh_ap, px_op_none, px_K_some, px_K_none, px_K_thr, px_kill, ↓reduceIte, if_true, if_false, true_and, and_true, px_gf, px_pf, px_ai, px_aj, px_aa, px_wi, px_wj, px_wa, px_an, px_cls, List.getElem?_cons_zero, List.getElem?_cons_succ, px_op_some, px_kv_ap, px_ki_ap, px_kl_ap, px_kn_ap, px_kh_ap, a1, a2, b1, if_neg g1, ii, ci, e1, x, show nI 47 = 47 from rfl, tg_b0, and_self, if_true, px_kill]
      exact c_below_l a' b' hq hp lm x hQ l 0 (by omega) (fun j hj => absurd hj (Nat.not_lt_zero j))
    · have en : (nI (q l) = 47) = False := eq_false (fun w => x ((nI_inj (b := 47) (by omega) (by decide)).mp w))
      simp only [pc45_0, pc45_0n, pc45_1, pc45_4, pc45_4n, pc45_5, pc45_8, pc45_11, pc45_11n, pc45_12, pc45_15, pc45_15n, pc45_16, pc45_19, pc45_20, pc45_22, pc45_25, pc45_26, px_op_some, px_kv_ap, px_ki_ap, px_kl_ap, px_kn_ap, px_kh_ap, px_op_none, px_K_some, px_K_none, px_K_thr, px_kill, ↓reduceIte, if_true, if_false, true_and, and_true, px_gf, px_pf, px_ai, px_aj, px_aa, px_wi, px_wj, px_wa, px_an, px_cls, List.getElem?_cons_zero, List.getElem?_cons_succ, px_op_some, px_kv_ap, px_ki_ap, px_kl_ap, px_kn_ap, px_kh_ap, a1, a2, b1, if_neg g1, ii, ci, e1, en, tg_b0, and_self, if_false, nar_0]
      exact hQ 0 (.inr ⟨rfl, fun w => x w.2⟩)
  · have g1 : nI m ≤ nI l := nI_le (by omega) (by omega)
    simp only [pc45_0, pc45_0n, pc45_1, pc45_4, pc45_4n, pc45_5, pc45_8, pc45_25, pc45_26, px_op_some, px_kv_ap, px_ki_ap, px_kl_ap, px_kn_ap, px_kh_ap, px_op_none, px_K_some, px_K_none, px_K_thr, px_kill, ↓reduceIte, if_true, if_false, true_and, and_true, px_gf, px_pf, px_ai, px_aj, px_aa, px_wi, px_wj, px_wa, px_an, px_cls, List.getElem?_cons_zero, List.getElem?_cons_succ, px_op_some, px_kv_ap, px_ki_ap, px_kl_ap, px_kn_ap, px_kh_ap, a1, b1, if_pos g1, nar_0]
    refine hQ 0 (.inr ⟨rfl, fun w => ?_⟩)
    have := hq.2.2.2.1 l (by omega)
    rw [w.2] at this; exact absurd this (by decide)
end CENT
