/-! TREES, the reference's: paths held against each other -/
set_option maxRecDepth 16384 in
theorem mul_36 (i : Nat) : 36 * nI i = nI (36 * i) := by
  apply Int32.toBitVec_inj.mp
  show BitVec.ofNat 32 36 * BitVec.ofNat 32 i = BitVec.ofNat 32 (36 * i)
  rw [BitVec.ofNat_mul]
set_option maxRecDepth 16384 in
theorem mul_1001 (i : Nat) : 1001 * nI i = nI (1001 * i) := by
  apply Int32.toBitVec_inj.mp
  show BitVec.ofNat 32 1001 * BitVec.ofNat 32 i = BitVec.ofNat 32 (1001 * i)
  rw [BitVec.ofNat_mul]
/-- l signs, then noughts -/
def sgs (p : Nat → Nat) (l : Nat) : Prop := (∀ j, j < l → 1 ≤ p j ∧ p j ≤ 122) ∧ ∀ j, l ≤ j → p j = 0
set_option maxRecDepth 16384 in
theorem sgs_cut {p : Nat → Nat} {l m : Nat} (h : sgs p l) (hm : m ≤ l) : sgs (cutP p m) m := ⟨fun j hj => by rw [cutP_lt hj]; exact h.1 j (by omega), fun j hj => cutP_ge hj⟩
set_option maxRecDepth 16384 in
theorem ord_at {p q : Nat → Nat} {l m k : Nat} (hp : sgs p l) (hq : sgs q m) (e : ∀ j, j < k → p j = q j) (hkl : k ≤ l) (hkm : k ≤ m) (st : k = l ∨ k = m ∨ p k ≠ q k) : ordR (nI (p k) - nI (q k)) p q := by
  have b1 : p k ≤ 122 := by
    by_cases x : k < l
    · exact (hp.1 k x).2
    · rw [hp.2 k (by omega)]; omega
  have b2 : q k ≤ 122 := by
    by_cases x : k < m
    · exact (hq.1 k x).2
    · rw [hq.2 k (by omega)]; omega
  rcases Nat.lt_trichotomy (p k) (q k) with x | x | x
  · exact .inr (.inl ⟨(nI_sgn (by omega) (by omega)).1 x, k, e, x⟩)
  · have km : ¬ k < m := fun z => by
      have a1 := hq.1 k z
      by_cases w : k < l
      · omega
      · have a2 := hp.2 k (by omega); omega
    have kl : ¬ k < l := fun z => by
      have a1 := hp.1 k z
      have a2 := hq.2 k (by omega)
      omega
    refine .inl ⟨by rw [x]; exact nI_sub0 _, funext fun j => ?_⟩
    by_cases y : j < k
    · exact e j y
    · rw [hp.2 j (by omega), hq.2 j (by omega)]
  · exact .inr (.inr ⟨(nI_sgn (by omega) (by omega)).2 x, k, fun j hj => (e j hj).symm, x⟩)
section MCMP
variable {sx : Nat × (Nat → Int32)} {h : px_H} {A B NA NB a b l m : Nat} {f g : Nat → Int32} {p q : Nat → Nat} {Q : px_O → px_H → Prop}
set_option maxRecDepth 16384 in
theorem m_cmp_l (hA : h.2[A]? = some (.inr (1, NA, .inl f))) (hB : h.2[B]? = some (.inr (1, NB, .inl g))) (hNA : NA ≤ 100000) (hNB : NB ≤ 100000) (ha : a + l ≤ NA) (hb : b + m ≤ NB) (hp : sgs p l) (hq : sgs q m) (e1 : ∀ j, j < l → f (a + j) = nI (p j)) (e2 : ∀ j, j < m → g (b + j) = nI (q j))
    (hQ : ∀ x, ordR x p q → Q (.inl (some (.int x))) h) :
    ∀ n k, k + n = l → (∀ j, j < k → p j = q j) → k ≤ m → px_Wp sx 162 3 [some (.ref 619), some (.ref A), some (.int (nI a)), some (.int (nI l)), some (.ref B), some (.int (nI b)), some (.int (nI m)), some (.int (nI k)), none, none] [] h Q := by
  have fin : ∀ k, (∀ j, j < k → p j = q j) → k ≤ l → k ≤ m → (k = l ∨ k = m ∨ p k ≠ q k) → px_Wp sx 162 39 [some (.ref 619), some (.ref A), some (.int (nI a)), some (.int (nI l)), some (.ref B), some (.int (nI b)), some (.int (nI m)), some (.int (nI k)), none, none] [] h Q := fun k hk hkl hkm st => by
    have o := ord_at hp hq hk hkl hkm st
    by_cases x : k < l
    · have g1 : ¬ nI l ≤ nI k := nI_ge x (by omega)
      have ia : px_in (nI (a + k)) NA = true := px_inb (by omega) (by omega)
      have ca : (nI (a + k)).toNatClampNeg = a + k := nI_clamp (by omega)
      have va := e1 k x
      by_cases y : k < m
      · have g2 : ¬ nI m ≤ nI k := nI_ge y (by omega)
        have ib : px_in (nI (b + k)) NB = true := px_inb (by omega) (by omega)
        have cb : (nI (b + k)).toNatClampNeg = b + k := nI_clamp (by omega)
        have vb := e2 k y
        simp only [pc162_39, pc162_41, pc162_42, pc162_45, pc162_45n, pc162_46, pc162_47, pc162_49, pc162_50, pc162_51, pc162_54, pc162_55, pc162_57, pc162_59, pc162_61, pc162_64, pc162_64n, pc162_66, pc162_68, pc162_70, pc162_71, pc162_72, pc162_75, pc162_76, pc162_78, pc162_80, pc162_82, pc162_83, px_op_some, px_kv_ap, px_ki_ap, px_kl_ap, px_kn_ap, px_kh_ap, px_op_none, px_K_some, px_K_none, px_K_thr, px_kill, ↓reduceIte, if_true, if_false, true_and, and_true, px_ai, hA, hB, g1, g2, nI_add, ia, ca, ib, cb, va, vb, tg_i1, and_self, px_kill]
        exact hQ _ o
      · have g2 : nI m ≤ nI k := nI_le (by omega) (by omega)
        rw [hq.2 k (by omega), nI_0] at o
        simp only [pc162_39, pc162_41, pc162_42, pc162_45, pc162_45n, pc162_46, pc162_47, pc162_49, pc162_50, pc162_51, pc162_54, pc162_55, pc162_57, pc162_59, pc162_61, pc162_64, pc162_64n, pc162_66, pc162_68, pc162_70, pc162_71, pc162_72, pc162_75, pc162_76, pc162_78, pc162_80, pc162_82, pc162_83, px_op_some, px_kv_ap, px_ki_ap, px_kl_ap, px_kn_ap, px_kh_ap, px_op_none, px_K_some, px_K_none, px_K_thr, px_kill, ↓reduceIte, if_true, if_false, true_and, and_true, px_ai, hA, hB, g1, g2, nI_add, ia, ca, va, tg_i1, and_self, px_kill]
        exact hQ _ o
    · have g1 : nI l ≤ nI k := nI_le (by omega) (by omega)
      rw [hp.2 k (by omega), nI_0] at o
      by_cases y : k < m
      · have g2 : ¬ nI m ≤ nI k := nI_ge y (by omega)
        have ib : px_in (nI (b + k)) NB = true := px_inb (by omega) (by omega)
        have cb : (nI (b + k)).toNatClampNeg = b + k := nI_clamp (by omega)
        have vb := e2 k y
        simp only [pc162_39, pc162_41, pc162_42, pc162_45, pc162_45n, pc162_46, pc162_47, pc162_49, pc162_50, pc162_51, pc162_54, pc162_55, pc162_57, pc162_59, pc162_61, pc162_64, pc162_64n, pc162_66, pc162_68, pc162_70, pc162_71, pc162_72, pc162_75, pc162_76, pc162_78, pc162_80, pc162_82, pc162_83, px_op_some, px_kv_ap, px_ki_ap, px_kl_ap, px_kn_ap, px_kh_ap, px_op_none, px_K_some, px_K_none, px_K_thr, px_kill, ↓reduceIte, if_true, if_false, true_and, and_true, px_ai, hA, hB, g1, g2, nI_add, ib, cb, vb, tg_i1, and_self, px_kill]
        exact hQ _ o
      · have g2 : nI m ≤ nI k := nI_le (by omega) (by omega)
        rw [hq.2 k (by omega), nI_0] at o
        simp only [pc162_39, pc162_41, pc162_42, pc162_45, pc162_45n, pc162_46, pc162_47, pc162_49, pc162_50, pc162_51, pc162_54, pc162_55, pc162_57, pc162_59, pc162_61, pc162_64, pc162_64n, pc162_66, pc162_68, pc162_70, pc162_71, pc162_72, pc162_75, pc162_76, pc162_78, pc162_80, pc162_82, pc162_83, px_op_some, px_kv_ap, px_ki_ap, px_kl_ap, px_kn_ap, px_kh_ap, px_op_none, px_K_some, px_K_none, px_K_thr, px_kill, ↓reduceIte, if_true, if_false, true_and, and_true, g1, g2, px_kill]
        exact hQ _ o
  intro n
  induction n with
  | zero =>
    intro k hk hi him
    have e : k = l := by omega
    subst e
    rw [pc162_3]
    simp only [pc162_5, pc162_6, if_pos (Int32.le_refl _)]
    exact fin k hi (Nat.le_refl _) him (.inl rfl)
  | succ n ih =>
    intro k hk hi him
    have g1 : ¬ nI l ≤ nI k := nI_ge (by omega) (by omega)
    rw [pc162_3]
    by_cases e : k = m
    · subst e
      simp only [pc162_5, pc162_6, pc162_9, pc162_11, pc162_13, px_op_some, px_kv_ap, px_ki_ap, px_kl_ap, px_kn_ap, px_kh_ap, px_op_none, px_K_some, px_K_none, px_K_thr, px_kill, ↓reduceIte, if_true, if_false, true_and, and_true, g1, if_pos (Int32.le_refl _)]
      exact fin k hi (by omega) him (.inr (.inl rfl))
    · have g2 : ¬ nI m ≤ nI k := nI_ge (by omega) (by omega)
      have ia : px_in (nI (a + k)) NA = true := px_inb (by omega) (by omega)
      have ca : (nI (a + k)).toNatClampNeg = a + k := nI_clamp (by omega)
      have va := e1 k (by omega)
      have ib : px_in (nI (b + k)) NB = true := px_inb (by omega) (by omega)
      have cb : (nI (b + k)).toNatClampNeg = b + k := nI_clamp (by omega)
      have vb := e2 k (by omega)
      have bp := hp.1 k (by omega)
      have bq := hq.1 k (by omega)
      by_cases x : p k = q k
      · have en : nI (p k) = nI (q k) := by rw [x]
        simp only [pc162_5, pc162_6, pc162_9, pc162_11, pc162_13, pc162_16, pc162_16n, pc162_17, pc162_18, pc162_20, pc162_21, pc162_22, pc162_22n, pc162_24, pc162_26, pc162_28, pc162_29, pc162_30, pc162_33, pc162_36, px_op_some, px_kv_ap, px_ki_ap, px_kl_ap, px_kn_ap, px_kh_ap, px_op_none, px_K_some, px_K_none, px_K_thr, px_kill, ↓reduceIte, if_true, if_false, true_and, and_true, yr_0, yr_1, tr_0, tr_1, tr_2, tr_3, px_rf, of_2, of_4, in_02, in_12, in_04, in_14, in_24, in_34, Nat.reduceLeDiff, in_01, lgc_self, Int32.reduceToNatClampNeg, wr_at, al_at, px_wr_len, px_al_len, px_wr_1, px_al_1, tg_0, tg_1, tg_2, tg_3, tg_12, tg_15, tg_17, tg_18, tg_i1, tg_b0, tg_b3, px_fit, Nat.reduceEqDiff, Nat.reduceLT, Nat.reduceAdd, Option.some.injEq, up_at, px_wr_wr, i32_le, Int32.reduceLE, Int32.reduceLT, mf_len, nar_0, nar_1, px_KH_some, px_KH_none, px_KH_thr, List.length_cons, List.length_nil, List.getElem?_cons_zero, List.getElem?_cons_succ, List.set_cons_zero, List.set_cons_succ, ↓reduceIte, Nat.lt_irrefl, ne_0_1, ne_0_2, ne_0_3, ne_0_4, ne_0_5, ne_1_0, ne_1_2, ne_1_3, ne_1_4, ne_1_5, ne_2_0, ne_2_1, ne_2_3, ne_2_4, ne_2_5, ne_3_0, ne_3_1, ne_3_2, ne_3_4, ne_3_5, ne_4_0, ne_4_1, ne_4_2, ne_4_3, ne_4_5, ne_5_0, ne_5_1, ne_5_2, ne_5_3, ne_5_4, hd_256_12, hd_256_16, hd_257_12, hd_258_12, hd_259_12, hd_260_12, hd_261_12, hd_261_13, hd_261_16, hd_262_12, hd_262_13, hd_262_16, hd_263_12, hd_263_13, hd_264_12, hd_264_13, hd_264_14, hd_265_12, hd_265_13, hd_265_14, hd_266_12, hd_267_12, hd_267_13, hd_267_14, hd_268_12, hd_269_12, hd_269_14, hd_270_12, hd_271_12, hd_272_12, hd_273_12, hd_273_13, hd_273_15, hd_274_12, hd_274_15, hd_275_12, hd_275_15, hd_276_12, nI_p1, nI_p2, nI_p3, nI_p4, nI_p5, not_true_eq_false, not_false_eq_true, and_self, mf_0, mf_1, mf_2, mf_3, mf_4, mf_5, mf_6, mf_7, mf_8, mf_9, mf_10, mf_11, mf_12, mf_13, mf_14, mf_15, mf_16, mf_17, mf_18, mf_19, mf_20, mf_21, mf_22, mf_23, mf_24, mf_25, mf_26, mf_27, mf_28, mf_29, mf_30, mf_31, mf_32, mf_33, mf_34, mf_35, mf_36, mf_37, mf_38, mf_39, mf_40, mf_41, mf_42, mf_43, mf_44, mf_45, mf_46, mf_47, mf_48, mf_49, mf_50, mf_51, mf_52, mf_53, mf_54, mf_55, mf_56, mf_57, mf_58, mf_59, mf_60, mf_61, mfs_0, mfs_2, mfs_17, mfs_20, mfs_26, mfs_32, mfs_34, mfs_36, mfs_38, mfs_43, mfs_44, mfs_45, mfs_46, mfs_47, iy_0, iy_1, iy_2, iy_3, iy_4, iy_5, iy_6, px_ai, hA, hB, g1, g2, nI_add, ia, ca, ib, cb, va, vb, tg_i1, en, px_kill, nI_1]
        refine ih (k + 1) (by omega) (fun j hj => ?_) (by omega)
        by_cases y : j = k
        · subst y; exact x
        · exact hi j (by omega)
      · have en : (nI (p k) = nI (q k)) = False := eq_false (fun w => x ((nI_inj (by omega) (by omega)).mp w))
        simp only [pc162_5, pc162_6, pc162_9, pc162_11, pc162_13, pc162_16, pc162_16n, pc162_17, pc162_18, pc162_20, pc162_21, pc162_22, pc162_22n, pc162_24, pc162_26, pc162_28, pc162_29, pc162_30, px_op_some, px_kv_ap, px_ki_ap, px_kl_ap, px_kn_ap, px_kh_ap, px_op_none, px_K_some, px_K_none, px_K_thr, px_kill, ↓reduceIte, if_true, if_false, true_and, and_true, yr_0, yr_1, tr_0, tr_1, tr_2, tr_3, px_rf, of_2, of_4, in_02, in_12, in_04, in_14, in_24, in_34, Nat.reduceLeDiff, in_01, lgc_self, Int32.reduceToNatClampNeg, wr_at, al_at, px_wr_len, px_al_len, px_wr_1, px_al_1, tg_0, tg_1, tg_2, tg_3, tg_12, tg_15, tg_17, tg_18, tg_i1, tg_b0, tg_b3, px_fit, Nat.reduceEqDiff, Nat.reduceLT, Nat.reduceAdd, Option.some.injEq, up_at, px_wr_wr, i32_le, Int32.reduceLE, Int32.reduceLT, mf_len, nar_0, nar_1, px_KH_some, px_KH_none, px_KH_thr, List.length_cons, List.length_nil, List.getElem?_cons_zero, List.getElem?_cons_succ, List.set_cons_zero, List.set_cons_succ, ↓reduceIte, Nat.lt_irrefl, ne_0_1, ne_0_2, ne_0_3, ne_0_4, ne_0_5, ne_1_0, ne_1_2, ne_1_3, ne_1_4, ne_1_5, ne_2_0, ne_2_1, ne_2_3, ne_2_4, ne_2_5, ne_3_0, ne_3_1, ne_3_2, ne_3_4, ne_3_5, ne_4_0, ne_4_1, ne_4_2, ne_4_3, ne_4_5, ne_5_0, ne_5_1, ne_5_2, ne_5_3, ne_5_4, hd_256_12, hd_256_16, hd_257_12, hd_258_12, hd_259_12, hd_260_12, hd_261_12, hd_261_13, hd_261_16, hd_262_12, hd_262_13, hd_262_16, hd_263_12, hd_263_13, hd_264_12, hd_264_13, hd_264_14, hd_265_12, hd_265_13, hd_265_14, hd_266_12, hd_267_12, hd_267_13, hd_267_14, hd_268_12, hd_269_12, hd_269_14, hd_270_12, hd_271_12, hd_272_12, hd_273_12, hd_273_13, hd_273_15, hd_274_12, hd_274_15, hd_275_12, hd_275_15, hd_276_12, nI_p1, nI_p2, nI_p3, nI_p4, nI_p5, not_true_eq_false, not_false_eq_true, and_self, mf_0, mf_1, mf_2, mf_3, mf_4, mf_5, mf_6, mf_7, mf_8, mf_9, mf_10, mf_11, mf_12, mf_13, mf_14, mf_15, mf_16, mf_17, mf_18, mf_19, mf_20, mf_21, mf_22, mf_23, mf_24, mf_25, mf_26, mf_27, mf_28, mf_29, mf_30, mf_31, mf_32, mf_33, mf_34, mf_35, mf_36, mf_37, mf_38, mf_39, mf_40, mf_41, mf_42, mf_43, mf_44, mf_45, mf_46, mf_47, mf_48, mf_49, mf_50, mf_51, mf_52, mf_53, mf_54, mf_55, mf_56, mf_57, mf_58, mf_59, mf_60, mf_61, mfs_0, mfs_2, mfs_17, mfs_20, mfs_26, mfs_32, mfs_34, mfs_36, mfs_38, mfs_43, mfs_44, mfs_45, mfs_46, mfs_47, iy_0, iy_1, iy_2, iy_3, iy_4, iy_5, iy_6, px_ai, hA, hB, g1, g2, nI_add, ia, ca, ib, cb, va, vb, tg_i1, en, px_kill]
        exact fin k hi (by omega) him (.inr (.inr x))
set_option maxRecDepth 16384 in
theorem m_compare (hA : h.2[A]? = some (.inr (1, NA, .inl f))) (hB : h.2[B]? = some (.inr (1, NB, .inl g))) (hNA : NA ≤ 100000) (hNB : NB ≤ 100000) (ha : a + l ≤ NA) (hb : b + m ≤ NB) (hp : sgs p l) (hq : sgs q m) (e1 : ∀ j, j < l → f (a + j) = nI (p j)) (e2 : ∀ j, j < m → g (b + j) = nI (q j))
    (hQ : ∀ x, ordR x p q → Q (.inl (some (.int x))) h) :
    px_Wp sx 162 0 [some (.ref 619), some (.ref A), some (.int (nI a)), some (.int (nI l)), some (.ref B), some (.int (nI b)), some (.int (nI m)), none, none, none] [] h Q := by
  simp only [pc162_0, pc162_1, px_kill]
  exact m_cmp_l hA hB hNA hNB ha hb hp hq e1 e2 hQ l 0 (by omega) (fun j hj => absurd hj (Nat.not_lt_zero j)) (Nat.zero_le _)
end MCMP
/-! the reference's entries -/
/-- the entry in place i of the reference's arrays: paths, lengths, kinds, sizes, bytes -/
def meR (P LN K Z C : Nat → Int32) (i : Nat) (e : aE) : Prop := LN i = nI (eL e) ∧ K i = nI (eK e) ∧ Z i = nI (eN e) ∧ (∀ j, j < eL e → P (36 * i + j) = nI (eP e j)) ∧ ∀ j, j < eN e → C (1001 * i + j) = eC e j
def mtC (h : px_H) (P LN K Z C : Nat → Int32) : Prop := h.2[637]? = some (.inr (1, 2952, .inl P)) ∧ h.2[638]? = some (.inr (1, 82, .inl LN)) ∧ h.2[639]? = some (.inr (1, 82, .inl K)) ∧ h.2[640]? = some (.inr (1, 82, .inl Z)) ∧ h.2[641]? = some (.inr (1, 82082, .inl C))
/-- the places D hold T -/
def mtE (h : px_H) (D : Nat → Prop) (T : Nat → aE) : Prop := ∃ P LN K Z C, mtC h P LN K Z C ∧ ∀ i, D i → i < 82 ∧ eOK (T i) ∧ meR P LN K Z C i (T i)
/-- the path to look for -/
def mpt (h : px_H) (p : Nat → Nat) (l : Nat) : Prop := ∃ g, h.2[647]? = some (.inr (1, 240, .inl g)) ∧ ∀ j, j < l → g j = nI (p j)
def mEA (r : Nat) : Prop := 637 ≤ r ∧ r ≤ 641
set_option maxRecDepth 16384 in
theorem mtE_frm {h h' : px_H} {D : Nat → Prop} {T : Nat → aE} (w : mtE h D T) (e : ∀ r, mEA r → h'.2[r]? = h.2[r]?) : mtE h' D T := by
  obtain ⟨P, LN, K, Z, C, ⟨a1, a2, a3, a4, a5⟩, w2⟩ := w
  refine ⟨P, LN, K, Z, C, ⟨(e _ ⟨by decide, by decide⟩).trans a1, (e _ ⟨by decide, by decide⟩).trans a2, (e _ ⟨by decide, by decide⟩).trans a3, (e _ ⟨by decide, by decide⟩).trans a4, (e _ ⟨by decide, by decide⟩).trans a5⟩, w2⟩
set_option maxRecDepth 16384 in
theorem mtE_mono {h : px_H} {D D' : Nat → Prop} {T T' : Nat → aE} (w : mtE h D T) (e : ∀ i, D' i → D i ∧ T' i = T i) : mtE h D' T' := by
  obtain ⟨P, LN, K, Z, C, a, w2⟩ := w
  refine ⟨P, LN, K, Z, C, a, fun i hi => ?_⟩
  obtain ⟨e1, e2⟩ := e i hi
  rw [e2]; exact w2 i e1
set_option maxRecDepth 16384 in
theorem mpt_frm {h h' : px_H} {p : Nat → Nat} {l : Nat} (w : mpt h p l) (e : h'.2[647]? = h.2[647]?) : mpt h' p l := by
  obtain ⟨g, g1, g2⟩ := w
  exact ⟨g, e.trans g1, g2⟩
/-- x: where q stands, or none -/
def enR (x : Int32) (n : Nat) (T : Nat → aE) (q : Nat → Nat) : Prop := (∃ i, i < n ∧ eP (T i) = q ∧ x = nI i) ∨ (∀ i, i < n → ¬ eP (T i) = q) ∧ x = -1
section MENT
variable {sx : Nat × (Nat → Int32)} {h : px_H} {n l m : Nat} {V : Nat → Int32} {D : Nat → Prop} {T : Nat → aE} {p : Nat → Nat} {Q : px_O → px_H → Prop}
set_option maxRecDepth 16384 in
theorem m_entryOf_l (h6 : h.2[619]? = some (.inl (11, modF V))) (hv : V 20 = nI n) (hn : n ≤ 81) (w : mtE h D T) (hD : ∀ i, i < n → D i) (pt : mpt h p l) (hp : sgs p l) (hl : l ≤ 240) (hm : m ≤ l)
    (hQ : ∀ x, enR x n T (cutP p m) → Q (.inl (some (.int x))) h) :
    ∀ d i, i + d = n → ∀ x, enR x i T (cutP p m) → px_Wp sx 182 4 [some (.ref 619), some (.int (nI m)), some (.int x), some (.int (nI i))] [] h Q := by
  obtain ⟨P, LN, K, Z, C, ⟨a1, a2, a3, a4, a5⟩, w2⟩ := w
  obtain ⟨g, g1, g2⟩ := pt
  intro d
  induction d with
  | zero =>
    intro i hi x wx
    have e : i = n := by omega
    subst e
    simp only [pc182_4, pc182_5, pc182_5n, pc182_6, pc182_9, pc182_51, pc182_52, px_op_some, px_kv_ap, px_ki_ap, px_kl_ap, px_kn_ap, px_kh_ap, px_op_none, px_K_some, px_K_none, px_K_thr, px_kill, ↓reduceIte, if_true, if_false, true_and, and_true, px_gf, h6, mf_20, hv, if_pos (Int32.le_refl _)]
    exact hQ x wx
  | succ d ih =>
    intro i hi x wx
    have ge : ¬ nI n ≤ nI i := nI_ge (by omega) (by omega)
    obtain ⟨i82, ok, r1, r2, r3, r4, r5⟩ := w2 i (hD i (by omega))
    have l35 := ok.1.2.1
    have ii : px_in (nI i) 82 = true := px_inb (by omega) (by decide)
    have ci : (nI i).toNatClampNeg = i := nI_clamp (by omega)
    have hcls : px_cls h 619 = some 11 := by unfold px_cls; rw [h6]
    rw [pc182_4]
    simp only [pc182_5, pc182_5n, pc182_6, pc182_9, pc182_12, pc182_12n, pc182_13, pc182_13n, pc182_14, pc182_17, pc182_19, pc182_20, pc182_21, pc182_21n, pc182_22, pc182_25, pc182_26, pc182_27, pc182_27n, pc182_28, pc182_31, pc182_32, pc182_33, px_op_some, px_kv_ap, px_ki_ap, px_kl_ap, px_kn_ap, px_kh_ap, px_op_none, px_K_some, px_K_none, px_K_thr, px_kill, ↓reduceIte, if_true, if_false, true_and, and_true, px_gf, px_ai, h6, mf_20, mf_21, mf_22, mf_33, hv, ge, mul_36, a2, ii, ci, r1, tg_i1, and_self, hcls, px_kill]
    refine m_compare (b := 0) (p := eP (T i)) (q := cutP p m) a1 g1 (by decide) (by decide) (by omega) (by omega) (pth_rng ok.1) (sgs_cut hp hm) r4 (fun j hj => by rw [Nat.zero_add, cutP_lt hj]; exact g2 j (by omega)) (fun y hy => ?_)
    rcases hy with ⟨rfl, hy⟩ | hy
    · simp only [px_K_some, pc182_36, pc182_39, pc182_40, pc182_43, pc182_44, pc182_45, pc182_48, px_op_some, px_kv_ap, px_ki_ap, px_kl_ap, px_kn_ap, px_kh_ap, px_op_none, px_K_some, px_K_none, px_K_thr, px_kill, ↓reduceIte, if_true, if_false, true_and, and_true, yr_0, yr_1, tr_0, tr_1, tr_2, tr_3, px_rf, of_2, of_4, in_02, in_12, in_04, in_14, in_24, in_34, Nat.reduceLeDiff, in_01, lgc_self, Int32.reduceToNatClampNeg, wr_at, al_at, px_wr_len, px_al_len, px_wr_1, px_al_1, tg_0, tg_1, tg_2, tg_3, tg_12, tg_15, tg_17, tg_18, tg_i1, tg_b0, tg_b3, px_fit, Nat.reduceEqDiff, Nat.reduceLT, Nat.reduceAdd, Option.some.injEq, up_at, px_wr_wr, i32_le, Int32.reduceLE, Int32.reduceLT, mf_len, nar_0, nar_1, px_KH_some, px_KH_none, px_KH_thr, List.length_cons, List.length_nil, List.getElem?_cons_zero, List.getElem?_cons_succ, List.set_cons_zero, List.set_cons_succ, ↓reduceIte, Nat.lt_irrefl, ne_0_1, ne_0_2, ne_0_3, ne_0_4, ne_0_5, ne_1_0, ne_1_2, ne_1_3, ne_1_4, ne_1_5, ne_2_0, ne_2_1, ne_2_3, ne_2_4, ne_2_5, ne_3_0, ne_3_1, ne_3_2, ne_3_4, ne_3_5, ne_4_0, ne_4_1, ne_4_2, ne_4_3, ne_4_5, ne_5_0, ne_5_1, ne_5_2, ne_5_3, ne_5_4, hd_256_12, hd_256_16, hd_257_12, hd_258_12, hd_259_12, hd_260_12, hd_261_12, hd_261_13, hd_261_16, hd_262_12, hd_262_13, hd_262_16, hd_263_12, hd_263_13, hd_264_12, hd_264_13, hd_264_14, hd_265_12, hd_265_13, hd_265_14, hd_266_12, hd_267_12, hd_267_13, hd_267_14, hd_268_12, hd_269_12, hd_269_14, hd_270_12, hd_271_12, hd_272_12, hd_273_12, hd_273_13, hd_273_15, hd_274_12, hd_274_15, hd_275_12, hd_275_15, hd_276_12, nI_p1, nI_p2, nI_p3, nI_p4, nI_p5, not_true_eq_false, not_false_eq_true, and_self, mf_0, mf_1, mf_2, mf_3, mf_4, mf_5, mf_6, mf_7, mf_8, mf_9, mf_10, mf_11, mf_12, mf_13, mf_14, mf_15, mf_16, mf_17, mf_18, mf_19, mf_20, mf_21, mf_22, mf_23, mf_24, mf_25, mf_26, mf_27, mf_28, mf_29, mf_30, mf_31, mf_32, mf_33, mf_34, mf_35, mf_36, mf_37, mf_38, mf_39, mf_40, mf_41, mf_42, mf_43, mf_44, mf_45, mf_46, mf_47, mf_48, mf_49, mf_50, mf_51, mf_52, mf_53, mf_54, mf_55, mf_56, mf_57, mf_58, mf_59, mf_60, mf_61, mfs_0, mfs_2, mfs_17, mfs_20, mfs_26, mfs_32, mfs_34, mfs_36, mfs_38, mfs_43, mfs_44, mfs_45, mfs_46, mfs_47, iy_0, iy_1, iy_2, iy_3, iy_4, iy_5, iy_6, px_kill, nI_1]
      exact ih (i + 1) (by omega) _ (.inl ⟨i, by omega, hy, rfl⟩)
    · have ny : ¬ y = 0 := fun z => by
        subst z
        rcases hy with ⟨y1, -⟩ | ⟨y1, -⟩ <;> exact Int32.lt_irrefl y1
      have ne : ¬ eP (T i) = cutP p m := fun z => by
        rw [z] at hy
        rcases hy with ⟨-, y1⟩ | ⟨-, y1⟩ <;> exact plt_irr _ y1
      simp only [px_K_some, pc182_36, pc182_43, pc182_44, pc182_45, pc182_48, px_op_some, px_kv_ap, px_ki_ap, px_kl_ap, px_kn_ap, px_kh_ap, px_op_none, px_K_some, px_K_none, px_K_thr, px_kill, ↓reduceIte, if_true, if_false, true_and, and_true, yr_0, yr_1, tr_0, tr_1, tr_2, tr_3, px_rf, of_2, of_4, in_02, in_12, in_04, in_14, in_24, in_34, Nat.reduceLeDiff, in_01, lgc_self, Int32.reduceToNatClampNeg, wr_at, al_at, px_wr_len, px_al_len, px_wr_1, px_al_1, tg_0, tg_1, tg_2, tg_3, tg_12, tg_15, tg_17, tg_18, tg_i1, tg_b0, tg_b3, px_fit, Nat.reduceEqDiff, Nat.reduceLT, Nat.reduceAdd, Option.some.injEq, up_at, px_wr_wr, i32_le, Int32.reduceLE, Int32.reduceLT, mf_len, nar_0, nar_1, px_KH_some, px_KH_none, px_KH_thr, List.length_cons, List.length_nil, List.getElem?_cons_zero, List.getElem?_cons_succ, List.set_cons_zero, List.set_cons_succ, ↓reduceIte, Nat.lt_irrefl, ne_0_1, ne_0_2, ne_0_3, ne_0_4, ne_0_5, ne_1_0, ne_1_2, ne_1_3, ne_1_4, ne_1_5, ne_2_0, ne_2_1, ne_2_3, ne_2_4, ne_2_5, ne_3_0, ne_3_1, ne_3_2, ne_3_4, ne_3_5, ne_4_0, ne_4_1, ne_4_2, ne_4_3, ne_4_5, ne_5_0, ne_5_1, ne_5_2, ne_5_3, ne_5_4, hd_256_12, hd_256_16, hd_257_12, hd_258_12, hd_259_12, hd_260_12, hd_261_12, hd_261_13, hd_261_16, hd_262_12, hd_262_13, hd_262_16, hd_263_12, hd_263_13, hd_264_12, hd_264_13, hd_264_14, hd_265_12, hd_265_13, hd_265_14, hd_266_12, hd_267_12, hd_267_13, hd_267_14, hd_268_12, hd_269_12, hd_269_14, hd_270_12, hd_271_12, hd_272_12, hd_273_12, hd_273_13, hd_273_15, hd_274_12, hd_274_15, hd_275_12, hd_275_15, hd_276_12, nI_p1, nI_p2, nI_p3, nI_p4, nI_p5, not_true_eq_false, not_false_eq_true, and_self, mf_0, mf_1, mf_2, mf_3, mf_4, mf_5, mf_6, mf_7, mf_8, mf_9, mf_10, mf_11, mf_12, mf_13, mf_14, mf_15, mf_16, mf_17, mf_18, mf_19, mf_20, mf_21, mf_22, mf_23, mf_24, mf_25, mf_26, mf_27, mf_28, mf_29, mf_30, mf_31, mf_32, mf_33, mf_34, mf_35, mf_36, mf_37, mf_38, mf_39, mf_40, mf_41, mf_42, mf_43, mf_44, mf_45, mf_46, mf_47, mf_48, mf_49, mf_50, mf_51, mf_52, mf_53, mf_54, mf_55, mf_56, mf_57, mf_58, mf_59, mf_60, mf_61, mfs_0, mfs_2, mfs_17, mfs_20, mfs_26, mfs_32, mfs_34, mfs_36, mfs_38, mfs_43, mfs_44, mfs_45, mfs_46, mfs_47, iy_0, iy_1, iy_2, iy_3, iy_4, iy_5, iy_6, ny, px_kill, nI_1]
      refine ih (i + 1) (by omega) _ ?_
      rcases wx with ⟨j, j1, j2, j3⟩ | ⟨j1, j2⟩
      · exact .inl ⟨j, by omega, j2, j3⟩
      · refine .inr ⟨fun j hj => ?_, j2⟩
        by_cases z : j = i
        · subst z; exact ne
        · exact j1 j (by omega)
set_option maxRecDepth 16384 in
theorem m_entryOf (h6 : h.2[619]? = some (.inl (11, modF V))) (hv : V 20 = nI n) (hn : n ≤ 81) (w : mtE h D T) (hD : ∀ i, i < n → D i) (pt : mpt h p l) (hp : sgs p l) (hl : l ≤ 240) (hm : m ≤ l)
    (hQ : ∀ x, enR x n T (cutP p m) → Q (.inl (some (.int x))) h) :
    px_Wp sx 182 0 [some (.ref 619), some (.int (nI m)), none, none] [] h Q := by
  simp only [pc182_0, pc182_1, pc182_2, pc182_3, px_kill]
  exact m_entryOf_l h6 hv hn w hD pt hp hl hm hQ n 0 (by omega) _ (.inr ⟨fun i hi => absurd hi (Nat.not_lt_zero i), rfl⟩)
set_option maxRecDepth 16384 in
theorem m_isBelow {i : Nat} (h6 : h.2[619]? = some (.inl (11, modF V))) (w : mtE h D T) (hi : D i) (pt : mpt h p l) (hp : pth p l) (hQ : ∀ x, says x (blw p l (eP (T i))) → Q (.inl (some (.int x))) h) :
    px_Wp sx 186 0 [some (.ref 619), some (.int (nI i)), some (.int (nI l))] [] h Q := by
  obtain ⟨P, LN, K, Z, C, ⟨a1, a2, a3, a4, a5⟩, w2⟩ := w
  obtain ⟨g, g1, g2⟩ := pt
  obtain ⟨i82, ok, r1, r2, r3, r4, r5⟩ := w2 i hi
  have l35 := ok.1.2.1
  have p35 := hp.2.1
  have ii : px_in (nI i) 82 = true := px_inb (by omega) (by decide)
  have ci : (nI i).toNatClampNeg = i := nI_clamp (by omega)
  have hcls : px_cls h 619 = some 11 := by unfold px_cls; rw [h6]
  have no : ¬ blw p l (eP (T i)) → Q (.inl (some (.int 0))) h := fun z => hQ 0 (.inr ⟨rfl, z⟩)
  by_cases x : l < eL (T i)
  · have g3 : ¬ nI (eL (T i)) ≤ nI l := nI_ge x (by omega)
    have ip : px_in (nI (36 * i + l)) 2952 = true := px_inb (by omega) (by decide)
    have cp : (nI (36 * i + l)).toNatClampNeg = 36 * i + l := nI_clamp (by omega)
    have rl := r4 l x
    have rb := pth_pos ok.1 x
    by_cases y : eP (T i) l = 47
    · have e47 : nI (eP (T i) l) = 47 := by rw [y]; rfl
      simp only [pc186_0, pc186_0n, pc186_1, pc186_4, pc186_5, pc186_6, pc186_7, pc186_10, pc186_10n, pc186_11, pc186_14, pc186_16, pc186_17, pc186_18, pc186_19, pc186_20, pc186_21, pc186_23, pc186_26, pc186_26n, pc186_27, pc186_27n, pc186_28, pc186_31, pc186_33, pc186_34, pc186_35, pc186_36, pc186_36n, pc186_37, pc186_40, pc186_41, pc186_42, px_op_some, px_kv_ap, px_ki_ap, px_kl_ap, px_kn_ap, px_kh_ap, px_op_none, px_K_some, px_K_none, px_K_thr, px_kill, ↓reduceIte, if_true, if_false, true_and, and_true, yr_0, yr_1, tr_0, tr_1, tr_2, tr_3, px_rf, of_2, of_4, in_02, in_12, in_04, in_14, in_24, in_34, Nat.reduceLeDiff, in_01, lgc_self, Int32.reduceToNatClampNeg, wr_at, al_at, px_wr_len, px_al_len, px_wr_1, px_al_1, tg_0, tg_1, tg_2, tg_3, tg_12, tg_15, tg_17, tg_18, tg_i1, tg_b0, tg_b3, px_fit, Nat.reduceEqDiff, Nat.reduceLT, Nat.reduceAdd, Option.some.injEq, up_at, px_wr_wr, i32_le, Int32.reduceLE, Int32.reduceLT, mf_len, nar_0, nar_1, px_KH_some, px_KH_none, px_KH_thr, List.length_cons, List.length_nil, List.getElem?_cons_zero, List.getElem?_cons_succ, List.set_cons_zero, List.set_cons_succ, ↓reduceIte, Nat.lt_irrefl, ne_0_1, ne_0_2, ne_0_3, ne_0_4, ne_0_5, ne_1_0, ne_1_2, ne_1_3, ne_1_4, ne_1_5, ne_2_0, ne_2_1, ne_2_3, ne_2_4, ne_2_5, ne_3_0, ne_3_1, ne_3_2, ne_3_4, ne_3_5, ne_4_0, ne_4_1, ne_4_2, ne_4_3, ne_4_5, ne_5_0, ne_5_1, ne_5_2, ne_5_3, ne_5_4, hd_256_12, hd_256_16, hd_257_12, hd_258_12, hd_259_12, hd_260_12, hd_261_12, hd_261_13, hd_261_16, hd_262_12, hd_262_13, hd_262_16, hd_263_12, hd_263_13, hd_264_12, hd_264_13, hd_264_14, hd_265_12, hd_265_13, hd_265_14, hd_266_12, hd_267_12, hd_267_13, hd_267_14, hd_268_12, hd_269_12, hd_269_14, hd_270_12, hd_271_12, hd_272_12, hd_273_12, hd_273_13, hd_273_15, hd_274_12, hd_274_15, hd_275_12, hd_275_15, hd_276_12, nI_p1, nI_p2, nI_p3, nI_p4, nI_p5, not_true_eq_false, not_false_eq_true, and_self, mf_0, mf_1, mf_2, mf_3, mf_4, mf_5, mf_6, mf_7, mf_8, mf_9, mf_10, mf_11, mf_12, mf_13, mf_14, mf_15, mf_16, mf_17, mf_18, mf_19, mf_20, mf_21, mf_22, mf_23, mf_24, mf_25, mf_26, mf_27, mf_28, mf_29, mf_30, mf_31, mf_32, mf_33, mf_34, mf_35, mf_36, mf_37, mf_38, mf_39, mf_40, mf_41, mf_42, mf_43, mf_44, mf_45, mf_46, mf_47, mf_48, mf_49, mf_50, mf_51, mf_52, mf_53, mf_54, mf_55, mf_56, mf_57, mf_58, mf_59, mf_60, mf_61, mfs_0, mfs_2, mfs_17, mfs_20, mfs_26, mfs_32, mfs_34, mfs_36, mfs_38, mfs_43, mfs_44, mfs_45, mfs_46, mfs_47, iy_0, iy_1, iy_2, iy_3, iy_4, iy_5, iy_6, px_gf, px_ai, h6, mf_21, mf_22, mf_33, mul_36, nI_add, a1, a2, ii, ci, r1, g3, ip, cp, rl, e47, tg_i1, hcls, px_kill]
      refine m_compare (b := 0) (p := cutP (eP (T i)) l) (q := p) a1 g1 (by decide) (by decide) (by omega) (by omega) (sgs_cut (pth_rng ok.1) (by omega)) (pth_rng hp) (fun j hj => by rw [cutP_lt hj]; exact r4 j (by omega)) (fun j hj => by rw [Nat.zero_add]; exact g2 j hj) (fun z hz => ?_)
      rcases hz with ⟨rfl, hz⟩ | hz
      · simp only [px_K_some, pc186_45, pc186_48, pc186_49, pc186_52, pc186_53, px_op_some, px_kv_ap, px_ki_ap, px_kl_ap, px_kn_ap, px_kh_ap, px_op_none, px_K_some, px_K_none, px_K_thr, px_kill, ↓reduceIte, if_true, if_false, true_and, and_true, yr_0, yr_1, tr_0, tr_1, tr_2, tr_3, px_rf, of_2, of_4, in_02, in_12, in_04, in_14, in_24, in_34, Nat.reduceLeDiff, in_01, lgc_self, Int32.reduceToNatClampNeg, wr_at, al_at, px_wr_len, px_al_len, px_wr_1, px_al_1, tg_0, tg_1, tg_2, tg_3, tg_12, tg_15, tg_17, tg_18, tg_i1, tg_b0, tg_b3, px_fit, Nat.reduceEqDiff, Nat.reduceLT, Nat.reduceAdd, Option.some.injEq, up_at, px_wr_wr, i32_le, Int32.reduceLE, Int32.reduceLT, mf_len, nar_0, nar_1, px_KH_some, px_KH_none, px_KH_thr, List.length_cons, List.length_nil, List.getElem?_cons_zero, List.getElem?_cons_succ, List.set_cons_zero, List.set_cons_succ, ↓reduceIte, Nat.lt_irrefl, ne_0_1, ne_0_2, ne_0_3, ne_0_4, ne_0_5, ne_1_0, ne_1_2, ne_1_3, ne_1_4, ne_1_5, ne_2_0, ne_2_1, ne_2_3, ne_2_4, ne_2_5, ne_3_0, ne_3_1, ne_3_2, ne_3_4, ne_3_5, ne_4_0, ne_4_1, ne_4_2, ne_4_3, ne_4_5, ne_5_0, ne_5_1, ne_5_2, ne_5_3, ne_5_4, hd_256_12, hd_256_16, hd_257_12, hd_258_12, hd_259_12, hd_260_12, hd_261_12, hd_261_13, hd_261_16, hd_262_12, hd_262_13, hd_262_16, hd_263_12, hd_263_13, hd_264_12, hd_264_13, hd_264_14, hd_265_12, hd_265_13, hd_265_14, hd_266_12, hd_267_12, hd_267_13, hd_267_14, hd_268_12, hd_269_12, hd_269_14, hd_270_12, hd_271_12, hd_272_12, hd_273_12, hd_273_13, hd_273_15, hd_274_12, hd_274_15, hd_275_12, hd_275_15, hd_276_12, nI_p1, nI_p2, nI_p3, nI_p4, nI_p5, not_true_eq_false, not_false_eq_true, and_self, mf_0, mf_1, mf_2, mf_3, mf_4, mf_5, mf_6, mf_7, mf_8, mf_9, mf_10, mf_11, mf_12, mf_13, mf_14, mf_15, mf_16, mf_17, mf_18, mf_19, mf_20, mf_21, mf_22, mf_23, mf_24, mf_25, mf_26, mf_27, mf_28, mf_29, mf_30, mf_31, mf_32, mf_33, mf_34, mf_35, mf_36, mf_37, mf_38, mf_39, mf_40, mf_41, mf_42, mf_43, mf_44, mf_45, mf_46, mf_47, mf_48, mf_49, mf_50, mf_51, mf_52, mf_53, mf_54, mf_55, mf_56, mf_57, mf_58, mf_59, mf_60, mf_61, mfs_0, mfs_2, mfs_17, mfs_20, mfs_26, mfs_32, mfs_34, mfs_36, mfs_38, mfs_43, mfs_44, mfs_45, mfs_46, mfs_47, iy_0, iy_1, iy_2, iy_3, iy_4, iy_5, iy_6, nar_1]
        refine hQ 1 (.inl ⟨rfl, fun j hj => ?_, y⟩)
        rw [← hz, cutP_lt hj]
      · have nz : ¬ z = 0 := fun t => by
          subst t
          rcases hz with ⟨y1, -⟩ | ⟨y1, -⟩ <;> exact Int32.lt_irrefl y1
        simp only [px_K_some, pc186_45, pc186_52, pc186_53, px_op_some, px_kv_ap, px_ki_ap, px_kl_ap, px_kn_ap, px_kh_ap, px_op_none, px_K_some, px_K_none, px_K_thr, px_kill, ↓reduceIte, if_true, if_false, true_and, and_true, yr_0, yr_1, tr_0, tr_1, tr_2, tr_3, px_rf, of_2, of_4, in_02, in_12, in_04, in_14, in_24, in_34, Nat.reduceLeDiff, in_01, lgc_self, Int32.reduceToNatClampNeg, wr_at, al_at, px_wr_len, px_al_len, px_wr_1, px_al_1, tg_0, tg_1, tg_2, tg_3, tg_12, tg_15, tg_17, tg_18, tg_i1, tg_b0, tg_b3, px_fit, Nat.reduceEqDiff, Nat.reduceLT, Nat.reduceAdd, Option.some.injEq, up_at, px_wr_wr, i32_le, Int32.reduceLE, Int32.reduceLT, mf_len, nar_0, nar_1, px_KH_some, px_KH_none, px_KH_thr, List.length_cons, List.length_nil, List.getElem?_cons_zero, List.getElem?_cons_succ, List.set_cons_zero, List.set_cons_succ, ↓reduceIte, Nat.lt_irrefl, ne_0_1, ne_0_2, ne_0_3, ne_0_4, ne_0_5, ne_1_0, ne_1_2, ne_1_3, ne_1_4, ne_1_5, ne_2_0, ne_2_1, ne_2_3, ne_2_4, ne_2_5, ne_3_0, ne_3_1, ne_3_2, ne_3_4, ne_3_5, ne_4_0, ne_4_1, ne_4_2, ne_4_3, ne_4_5, ne_5_0, ne_5_1, ne_5_2, ne_5_3, ne_5_4, hd_256_12, hd_256_16, hd_257_12, hd_258_12, hd_259_12, hd_260_12, hd_261_12, hd_261_13, hd_261_16, hd_262_12, hd_262_13, hd_262_16, hd_263_12, hd_263_13, hd_264_12, hd_264_13, hd_264_14, hd_265_12, hd_265_13, hd_265_14, hd_266_12, hd_267_12, hd_267_13, hd_267_14, hd_268_12, hd_269_12, hd_269_14, hd_270_12, hd_271_12, hd_272_12, hd_273_12, hd_273_13, hd_273_15, hd_274_12, hd_274_15, hd_275_12, hd_275_15, hd_276_12, nI_p1, nI_p2, nI_p3, nI_p4, nI_p5, not_true_eq_false, not_false_eq_true, and_self, mf_0, mf_1, mf_2, mf_3, mf_4, mf_5, mf_6, mf_7, mf_8, mf_9, mf_10, mf_11, mf_12, mf_13, mf_14, mf_15, mf_16, mf_17, mf_18, mf_19, mf_20, mf_21, mf_22, mf_23, mf_24, mf_25, mf_26, mf_27, mf_28, mf_29, mf_30, mf_31, mf_32, mf_33, mf_34, mf_35, mf_36, mf_37, mf_38, mf_39, mf_40, mf_41, mf_42, mf_43, mf_44, mf_45, mf_46, mf_47, mf_48, mf_49, mf_50, mf_51, mf_52, mf_53, mf_54, mf_55, mf_56, mf_57, mf_58, mf_59, mf_60, mf_61, mfs_0, mfs_2, mfs_17, mfs_20, mfs_26, mfs_32, mfs_34, mfs_36, mfs_38, mfs_43, mfs_44, mfs_45, mfs_46, mfs_47, iy_0, iy_1, iy_2, iy_3, iy_4, iy_5, iy_6, nz, nar_0]
        refine no (fun b => ?_)
        have : cutP (eP (T i)) l = p := funext fun j => by
          by_cases t : j < l
          · rw [cutP_lt t]; exact b.1 j t
          · rw [cutP_ge (by omega), hp.2.2.2.1 j (by omega)]
        rw [this] at hz
        rcases hz with ⟨-, y1⟩ | ⟨-, y1⟩ <;> exact plt_irr _ y1
    · have e47 : (nI (eP (T i) l) = 47) = False := eq_false (fun z => y ((nI_inj (b := 47) (by omega) (by decide)).mp z))
      simp only [pc186_0, pc186_0n, pc186_1, pc186_4, pc186_5, pc186_6, pc186_7, pc186_10, pc186_10n, pc186_11, pc186_14, pc186_16, pc186_17, pc186_18, pc186_19, pc186_20, pc186_21, pc186_23, pc186_52, pc186_53, px_op_some, px_kv_ap, px_ki_ap, px_kl_ap, px_kn_ap, px_kh_ap, px_op_none, px_K_some, px_K_none, px_K_thr, px_kill, ↓reduceIte, if_true, if_false, true_and, and_true, yr_0, yr_1, tr_0, tr_1, tr_2, tr_3, px_rf, of_2, of_4, in_02, in_12, in_04, in_14, in_24, in_34, Nat.reduceLeDiff, in_01, lgc_self, Int32.reduceToNatClampNeg, wr_at, al_at, px_wr_len, px_al_len, px_wr_1, px_al_1, tg_0, tg_1, tg_2, tg_3, tg_12, tg_15, tg_17, tg_18, tg_i1, tg_b0, tg_b3, px_fit, Nat.reduceEqDiff, Nat.reduceLT, Nat.reduceAdd, Option.some.injEq, up_at, px_wr_wr, i32_le, Int32.reduceLE, Int32.reduceLT, mf_len, nar_0, nar_1, px_KH_some, px_KH_none, px_KH_thr, List.length_cons, List.length_nil, List.getElem?_cons_zero, List.getElem?_cons_succ, List.set_cons_zero, List.set_cons_succ, ↓reduceIte, Nat.lt_irrefl, ne_0_1, ne_0_2, ne_0_3, ne_0_4, ne_0_5, ne_1_0, ne_1_2, ne_1_3, ne_1_4, ne_1_5, ne_2_0, ne_2_1, ne_2_3, ne_2_4, ne_2_5, ne_3_0, ne_3_1, ne_3_2, ne_3_4, ne_3_5, ne_4_0, ne_4_1, ne_4_2, ne_4_3, ne_4_5, ne_5_0, ne_5_1, ne_5_2, ne_5_3, ne_5_4, hd_256_12, hd_256_16, hd_257_12, hd_258_12, hd_259_12, hd_260_12, hd_261_12, hd_261_13, hd_261_16, hd_262_12, hd_262_13, hd_262_16, hd_263_12, hd_263_13, hd_264_12, hd_264_13, hd_264_14, hd_265_12, hd_265_13, hd_265_14, hd_266_12, hd_267_12, hd_267_13, hd_267_14, hd_268_12, hd_269_12, hd_269_14, hd_270_12, hd_271_12, hd_272_12, hd_273_12, hd_273_13, hd_273_15, hd_274_12, hd_274_15, hd_275_12, hd_275_15, hd_276_12, nI_p1, nI_p2, nI_p3, nI_p4, nI_p5, not_true_eq_false, not_false_eq_true, and_self, mf_0, mf_1, mf_2, mf_3, mf_4, mf_5, mf_6, mf_7, mf_8, mf_9, mf_10, mf_11, mf_12, mf_13, mf_14, mf_15, mf_16, mf_17, mf_18, mf_19, mf_20, mf_21, mf_22, mf_23, mf_24, mf_25, mf_26, mf_27, mf_28, mf_29, mf_30, mf_31, mf_32, mf_33, mf_34, mf_35, mf_36, mf_37, mf_38, mf_39, mf_40, mf_41, mf_42, mf_43, mf_44, mf_45, mf_46, mf_47, mf_48, mf_49, mf_50, mf_51, mf_52, mf_53, mf_54, mf_55, mf_56, mf_57, mf_58, mf_59, mf_60, mf_61, mfs_0, mfs_2, mfs_17, mfs_20, mfs_26, mfs_32, mfs_34, mfs_36, mfs_38, mfs_43, mfs_44, mfs_45, mfs_46, mfs_47, iy_0, iy_1, iy_2, iy_3, iy_4, iy_5, iy_6, px_gf, px_ai, h6, mf_21, mf_22, mul_36, nI_add, a1, a2, ii, ci, r1, g3, ip, cp, rl, e47, tg_i1, nar_0, px_kill]
      exact no (fun b => y b.2)
  · have g3 : nI (eL (T i)) ≤ nI l := nI_le (by omega) (by omega)
    simp only [pc186_0, pc186_0n, pc186_1, pc186_4, pc186_5, pc186_6, pc186_7, pc186_52, pc186_53, px_op_some, px_kv_ap, px_ki_ap, px_kl_ap, px_kn_ap, px_kh_ap, px_op_none, px_K_some, px_K_none, px_K_thr, px_kill, ↓reduceIte, if_true, if_false, true_and, and_true, yr_0, yr_1, tr_0, tr_1, tr_2, tr_3, px_rf, of_2, of_4, in_02, in_12, in_04, in_14, in_24, in_34, Nat.reduceLeDiff, in_01, lgc_self, Int32.reduceToNatClampNeg, wr_at, al_at, px_wr_len, px_al_len, px_wr_1, px_al_1, tg_0, tg_1, tg_2, tg_3, tg_12, tg_15, tg_17, tg_18, tg_i1, tg_b0, tg_b3, px_fit, Nat.reduceEqDiff, Nat.reduceLT, Nat.reduceAdd, Option.some.injEq, up_at, px_wr_wr, i32_le, Int32.reduceLE, Int32.reduceLT, mf_len, nar_0, nar_1, px_KH_some, px_KH_none, px_KH_thr, List.length_cons, List.length_nil, List.getElem?_cons_zero, List.getElem?_cons_succ, List.set_cons_zero, List.set_cons_succ, ↓reduceIte, Nat.lt_irrefl, ne_0_1, ne_0_2, ne_0_3, ne_0_4, ne_0_5, ne_1_0, ne_1_2, ne_1_3, ne_1_4, ne_1_5, ne_2_0, ne_2_1, ne_2_3, ne_2_4, ne_2_5, ne_3_0, ne_3_1, ne_3_2, ne_3_4, ne_3_5, ne_4_0, ne_4_1, ne_4_2, ne_4_3, ne_4_5, ne_5_0, ne_5_1, ne_5_2, ne_5_3, ne_5_4, hd_256_12, hd_256_16, hd_257_12, hd_258_12, hd_259_12, hd_260_12, hd_261_12, hd_261_13, hd_261_16, hd_262_12, hd_262_13, hd_262_16, hd_263_12, hd_263_13, hd_264_12, hd_264_13, hd_264_14, hd_265_12, hd_265_13, hd_265_14, hd_266_12, hd_267_12, hd_267_13, hd_267_14, hd_268_12, hd_269_12, hd_269_14, hd_270_12, hd_271_12, hd_272_12, hd_273_12, hd_273_13, hd_273_15, hd_274_12, hd_274_15, hd_275_12, hd_275_15, hd_276_12, nI_p1, nI_p2, nI_p3, nI_p4, nI_p5, not_true_eq_false, not_false_eq_true, and_self, mf_0, mf_1, mf_2, mf_3, mf_4, mf_5, mf_6, mf_7, mf_8, mf_9, mf_10, mf_11, mf_12, mf_13, mf_14, mf_15, mf_16, mf_17, mf_18, mf_19, mf_20, mf_21, mf_22, mf_23, mf_24, mf_25, mf_26, mf_27, mf_28, mf_29, mf_30, mf_31, mf_32, mf_33, mf_34, mf_35, mf_36, mf_37, mf_38, mf_39, mf_40, mf_41, mf_42, mf_43, mf_44, mf_45, mf_46, mf_47, mf_48, mf_49, mf_50, mf_51, mf_52, mf_53, mf_54, mf_55, mf_56, mf_57, mf_58, mf_59, mf_60, mf_61, mfs_0, mfs_2, mfs_17, mfs_20, mfs_26, mfs_32, mfs_34, mfs_36, mfs_38, mfs_43, mfs_44, mfs_45, mfs_46, mfs_47, iy_0, iy_1, iy_2, iy_3, iy_4, iy_5, iy_6, px_gf, px_ai, h6, mf_22, a2, ii, ci, r1, g3, tg_i1, nar_0, px_kill]
    refine no (fun b => ?_)
    have := ok.1.2.2.2.1 l (by omega)
    rw [b.2] at this; exact absurd this (by decide)
end MENT
