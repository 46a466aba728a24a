/-! TREES, the class's -/
set_option maxRecDepth 16384 in
theorem nI_div2 {a : Nat} (h : a < 1000) : nI a / 2 = nI (a / 2) := by
  apply Int32.toInt_inj.mp
  rw [Int32.toInt_div, nI_toInt (by omega), nI_toInt (by omega), show (2 : Int32).toInt = 2 from rfl, Int.tdiv_eq_ediv_of_nonneg (by omega)]
  rw [Int.bmod_eq_of_le (by omega) (by omega)]
  omega
set_option maxRecDepth 16384 in
theorem two_ne : ¬ (2 : Int32) = 0 := by decide
/-- rows that entries may point into -/
def srcOK (r : Nat) : Prop := r + 1 < 85 ∨ r = 415
/-- rows that the entry at O may point into: what was made anew only where the shell works -/
def srcT (O r : Nat) : Prop := r + 1 < 85 ∨ r = 415 ∧ 249 ≤ O ∧ O < 411
set_option maxRecDepth 16384 in
theorem srcT_ok {O r : Nat} (h : srcT O r) : srcOK r := by unfold srcT at h; unfold srcOK; omega
/-- the entry at O is e -/
def entR (h : px_H) (O : Nat) (e : aE) : Prop := ∃ src st cn g, h.2[O]? = some (.inl (2, enF O (nI (eL e)) (nI (eK e)) src st cn)) ∧ h.2[O + 1]? = some (.inr (0, 35, .inl g)) ∧ (∀ j, j < eL e → g j = nI (eP e j)) ∧
  (eK e = 1 ∧ src = .null ∧ st = 0 ∧ cn = 0 ∨ eK e = 2 ∧ ∃ r s N n f, srcT O r ∧ src = .ref r ∧ st = nI s ∧ cn = nI (eN e) ∧ rowAt h r N n f ∧ s + eN e ≤ n ∧ ∀ k, k < eN e → f (s + k) &&& 255 = eC e k)
def prm (T : Nat) (ra : Nat → Option Nat) : Prop := ∃ π : Nat → Nat, (∀ i, i < 80 → ra i = some (T + 2 + 2 * π i) ∧ π i < 80) ∧ ∀ i j, i < 80 → j < 80 → π i = π j → i = j
/-- a tree's cells -/
def trC (h : px_H) (T : Nat) : Prop := ∀ k, k < 80 → itC h (T + 2 + 2 * k)
/-- the tree at T has the n entries E -/
def trR (h : px_H) (T n : Nat) (E : Nat → aE) : Prop := h.2[T]? = some (.inl (3, [.ref (T + 1), .int (nI n)])) ∧ trC h T ∧ ∃ ra, h.2[T + 1]? = some (.inr (12, 80, .inr (.inr ra))) ∧ prm T ra ∧ ∀ i, i < n → ∃ O, ra i = some O ∧ entR h O (E i)
set_option maxRecDepth 16384 in
theorem ent_enP {h : px_H} {O : Nat} {e : aE} (w : entR h O e) (ok : pth (eP e) (eL e)) : enP h O (eL e) (eP e) := by
  obtain ⟨src, st, cn, g, a, b, c, -⟩ := w
  exact ⟨⟨_, _, _, _, a⟩, ⟨g, b, c⟩, ok.2.1⟩
set_option maxRecDepth 16384 in
theorem ent_frm {h h' : px_H} {O : Nat} {e : aE} (w : entR h O e) (e0 : h'.2[O]? = h.2[O]?) (e1 : h'.2[O + 1]? = h.2[O + 1]?) (er : ∀ r, srcOK r → h'.2[r]? = h.2[r]? ∧ h'.2[r + 1]? = h.2[r + 1]?) : entR h' O e := by
  obtain ⟨src, st, cn, g, a, b, c, d⟩ := w
  refine ⟨src, st, cn, g, e0.trans a, e1.trans b, c, ?_⟩
  rcases d with d | ⟨d1, r, s, N, n, f, d2, d3, d4, d5, d6, d7⟩
  · exact .inl d
  · exact .inr ⟨d1, r, s, N, n, f, d2, d3, d4, d5, ⟨(er r (srcT_ok d2)).1.trans d6.1, (er r (srcT_ok d2)).2.trans d6.2.1, d6.2.2⟩, d7⟩
set_option maxRecDepth 16384 in
theorem itC_frm {h h' : px_H} {O : Nat} (w : itC h O) (e0 : h'.2[O]? = h.2[O]?) (e1 : h'.2[O + 1]? = h.2[O + 1]?) : itC h' O := by
  obtain ⟨l, kd, src, st, cn, g, a, b⟩ := w
  exact ⟨l, kd, src, st, cn, g, e0.trans a, e1.trans b⟩
/-- the tree's cells -/
def trA (T r : Nat) : Prop := T ≤ r ∧ r < T + 162
set_option maxRecDepth 16384 in
theorem prm_at {T i : Nat} {ra : Nat → Option Nat} (w : prm T ra) (hi : i < 80) : ∃ k, k < 80 ∧ ra i = some (T + 2 + 2 * k) := by
  obtain ⟨π, a, -⟩ := w
  exact ⟨π i, (a i hi).2, (a i hi).1⟩
set_option maxRecDepth 16384 in
theorem tr_frm {h h' : px_H} {T n : Nat} {E : Nat → aE} (w : trR h T n E) (hn : n ≤ 80) (e : ∀ r, trA T r → h'.2[r]? = h.2[r]?) (er : ∀ r, srcOK r → h'.2[r]? = h.2[r]? ∧ h'.2[r + 1]? = h.2[r + 1]?) : trR h' T n E := by
  obtain ⟨a, b, ra, c, d, f⟩ := w
  refine ⟨(e T ⟨by omega, by omega⟩).trans a, fun k hk => itC_frm (b k hk) (e _ ⟨by omega, by omega⟩) (e _ ⟨by omega, by omega⟩), ra, (e _ ⟨by omega, by omega⟩).trans c, d, fun i hi => ?_⟩
  obtain ⟨O, o1, o2⟩ := f i hi
  obtain ⟨k, k1, k2⟩ := prm_at d (show i < 80 by omega)
  rw [o1] at k2
  have := Option.some.inj k2
  subst this
  exact ⟨_, o1, ent_frm o2 (e _ ⟨by omega, by omega⟩) (e _ ⟨by omega, by omega⟩) er⟩
section CTREE
variable {sx : Nat × (Nat → Int32)} {h : px_H} {T n O m l : Nat} {E : Nat → aE} {p : Nat → Nat} {Q : px_O → px_H → Prop}
set_option maxRecDepth 16384 in
theorem c_search_l (t : trR h T n E) (ok : tOK n E) (a : enP h O l p) (hp : pth p l) (hm : m ≤ l) (hm1 : 1 ≤ m)
    (hQ : ∀ x, ((∃ i, i < n ∧ x = nI i ∧ eP (E i) = cutP p m) ∨ ∃ g, gapE n E (cutP p m) g ∧ x = -1 - nI g) → Q (.inl (some (.int x))) h) :
    ∀ d lo hi l5 l6, hi ≤ lo + d → lo ≤ hi → hi ≤ n → (∀ i, i < lo → plt (eP (E i)) (cutP p m)) → (∀ i, hi ≤ i → i < n → plt (cutP p m) (eP (E i))) → px_Wp sx 55 8 [some (.ref T), some (.ref O), some (.int (nI m)), some (.int (nI lo)), some (.int (nI hi)), l5, l6] [] h Q := by
  have h80 := ok.1
  obtain ⟨t1, t2, ra, t3, t4, t5⟩ := t
  intro d
  induction d with
  | zero =>
    intro lo hi l5 l6 h1 h2 h3 h4 h5
    have e : hi = lo := by omega
    subst e
    simp only [pc55_8, pc55_9, pc55_11, pc55_64, pc55_65, pc55_66, pc55_67, if_pos (Int32.le_refl _)]
    exact hQ _ (.inr ⟨hi, ⟨h3, h4, h5⟩, rfl⟩)
  | succ d ih =>
    intro lo hi l5 l6 h1 h2 h3 h4 h5
    by_cases e : hi = lo
    · subst e
      simp only [pc55_8, pc55_9, pc55_11, pc55_64, pc55_65, pc55_66, pc55_67, if_pos (Int32.le_refl _)]
      exact hQ _ (.inr ⟨hi, ⟨h3, h4, h5⟩, rfl⟩)
    · have g1 : ¬ nI hi ≤ nI lo := nI_ge (by omega) (by omega)
      have g1' : nI lo < nI hi := nI_lt (by omega) (by omega)
      have mn : (lo + hi) / 2 < n := by omega
      have im : px_in (nI ((lo + hi) / 2)) 80 = true := px_inb (by omega) (by decide)
      have cm : (nI ((lo + hi) / 2)).toNatClampNeg = (lo + hi) / 2 := nI_clamp (by omega)
      obtain ⟨X, x1, x2⟩ := t5 ((lo + hi) / 2) mn
      have ex := ok.2.1 _ mn
      have x3 := x2
      obtain ⟨src, st, cn, gg, y1, y2, y3, y4⟩ := x3
      unfold enF at y1
      have dv := nI_div2 (a := lo + hi) (by omega)
      rw [pc55_8]
      simp only [pc55_9, pc55_11, pc55_14, pc55_15, pc55_17, pc55_18, pc55_19, pc55_20, pc55_22, pc55_22n, pc55_23, pc55_26, pc55_28, pc55_29, pc55_29n, pc55_30, pc55_31, px_op_some, px_kv_ap, px_ki_ap, px_kl_ap, px_kn_ap, px_kh_ap, px_op_none, px_K_some, px_K_none, px_K_thr, px_kill, ↓reduceIte, if_true, if_false, true_and, and_true, px_gf, px_pf, px_ai, px_aj, px_aa, px_wi, px_wj, px_wa, px_an, px_cls, yr_0, yr_1, tr_0, tr_1, tr_2, tr_3, px_rf, of_2, of_4, in_02, in_12, in_04, in_14, in_24, in_34, Nat.reduceLeDiff, in_01, lgc_self, Int32.reduceToNatClampNeg, wr_at, al_at, px_wr_len, px_al_len, px_wr_1, px_al_1, tg_0, tg_1, tg_2, tg_3, tg_12, tg_15, tg_17, tg_18, tg_i1, tg_b0, tg_b3, px_fit, Nat.reduceEqDiff, Nat.reduceLT, Nat.reduceAdd, Option.some.injEq, up_at, px_wr_wr, i32_le, Int32.reduceLE, Int32.reduceLT, mf_len, nar_0, nar_1, px_KH_some, px_KH_none, px_KH_thr, List.length_cons, List.length_nil, List.getElem?_cons_zero, List.getElem?_cons_succ, List.set_cons_zero, List.set_cons_succ, ↓reduceIte, Nat.lt_irrefl, ne_0_1, ne_0_2, ne_0_3, ne_0_4, ne_0_5, ne_1_0, ne_1_2, ne_1_3, ne_1_4, ne_1_5, ne_2_0, ne_2_1, ne_2_3, ne_2_4, ne_2_5, ne_3_0, ne_3_1, ne_3_2, ne_3_4, ne_3_5, ne_4_0, ne_4_1, ne_4_2, ne_4_3, ne_4_5, ne_5_0, ne_5_1, ne_5_2, ne_5_3, ne_5_4, hd_256_12, hd_256_16, hd_257_12, hd_258_12, hd_259_12, hd_260_12, hd_261_12, hd_261_13, hd_261_16, hd_262_12, hd_262_13, hd_262_16, hd_263_12, hd_263_13, hd_264_12, hd_264_13, hd_264_14, hd_265_12, hd_265_13, hd_265_14, hd_266_12, hd_267_12, hd_267_13, hd_267_14, hd_268_12, hd_269_12, hd_269_14, hd_270_12, hd_271_12, hd_272_12, hd_273_12, hd_273_13, hd_273_15, hd_274_12, hd_274_15, hd_275_12, hd_275_15, hd_276_12, nI_p1, nI_p2, nI_p3, nI_p4, nI_p5, not_true_eq_false, not_false_eq_true, and_self, mf_0, mf_1, mf_2, mf_3, mf_4, mf_5, mf_6, mf_7, mf_8, mf_9, mf_10, mf_11, mf_12, mf_13, mf_14, mf_15, mf_16, mf_17, mf_18, mf_19, mf_20, mf_21, mf_22, mf_23, mf_24, mf_25, mf_26, mf_27, mf_28, mf_29, mf_30, mf_31, mf_32, mf_33, mf_34, mf_35, mf_36, mf_37, mf_38, mf_39, mf_40, mf_41, mf_42, mf_43, mf_44, mf_45, mf_46, mf_47, mf_48, mf_49, mf_50, mf_51, mf_52, mf_53, mf_54, mf_55, mf_56, mf_57, mf_58, mf_59, mf_60, mf_61, mfs_0, mfs_2, mfs_17, mfs_20, mfs_26, mfs_32, mfs_34, mfs_36, mfs_38, mfs_43, mfs_44, mfs_45, mfs_46, mfs_47, iy_0, iy_1, iy_2, iy_3, iy_4, iy_5, iy_6, g1', nI_add, dv, two_ne, t1, t3, tg_12, im, cm, x1, px_rf, y1, Nat.reduceLeDiff, px_kill]
      refine c_order (ent_enP x2 ex.1) a hm ex.1 hp (fun x hx => ?_)
      rcases hx with ⟨rfl, hx⟩ | ⟨hx0, hx⟩ | ⟨hx0, hx⟩
      · simp only [px_K_some, pc55_34, pc55_36, pc55_38, pc55_41, pc55_43, yr_0, yr_1, tr_0, tr_1, tr_2, tr_3, px_rf, of_2, of_4, in_02, in_12, in_04, in_14, in_24, in_34, Nat.reduceLeDiff, in_01, lgc_self, Int32.reduceToNatClampNeg, wr_at, al_at, px_wr_len, px_al_len, px_wr_1, px_al_1, tg_0, tg_1, tg_2, tg_3, tg_12, tg_15, tg_17, tg_18, tg_i1, tg_b0, tg_b3, px_fit, Nat.reduceEqDiff, Nat.reduceLT, Nat.reduceAdd, Option.some.injEq, up_at, px_wr_wr, i32_le, Int32.reduceLE, Int32.reduceLT, mf_len, nar_0, nar_1, px_KH_some, px_KH_none, px_KH_thr, List.length_cons, List.length_nil, List.getElem?_cons_zero, List.getElem?_cons_succ, List.set_cons_zero, List.set_cons_succ, ↓reduceIte, Nat.lt_irrefl, ne_0_1, ne_0_2, ne_0_3, ne_0_4, ne_0_5, ne_1_0, ne_1_2, ne_1_3, ne_1_4, ne_1_5, ne_2_0, ne_2_1, ne_2_3, ne_2_4, ne_2_5, ne_3_0, ne_3_1, ne_3_2, ne_3_4, ne_3_5, ne_4_0, ne_4_1, ne_4_2, ne_4_3, ne_4_5, ne_5_0, ne_5_1, ne_5_2, ne_5_3, ne_5_4, hd_256_12, hd_256_16, hd_257_12, hd_258_12, hd_259_12, hd_260_12, hd_261_12, hd_261_13, hd_261_16, hd_262_12, hd_262_13, hd_262_16, hd_263_12, hd_263_13, hd_264_12, hd_264_13, hd_264_14, hd_265_12, hd_265_13, hd_265_14, hd_266_12, hd_267_12, hd_267_13, hd_267_14, hd_268_12, hd_269_12, hd_269_14, hd_270_12, hd_271_12, hd_272_12, hd_273_12, hd_273_13, hd_273_15, hd_274_12, hd_274_15, hd_275_12, hd_275_15, hd_276_12, nI_p1, nI_p2, nI_p3, nI_p4, nI_p5, not_true_eq_false, not_false_eq_true, and_self, mf_0, mf_1, mf_2, mf_3, mf_4, mf_5, mf_6, mf_7, mf_8, mf_9, mf_10, mf_11, mf_12, mf_13, mf_14, mf_15, mf_16, mf_17, mf_18, mf_19, mf_20, mf_21, mf_22, mf_23, mf_24, mf_25, mf_26, mf_27, mf_28, mf_29, mf_30, mf_31, mf_32, mf_33, mf_34, mf_35, mf_36, mf_37, mf_38, mf_39, mf_40, mf_41, mf_42, mf_43, mf_44, mf_45, mf_46, mf_47, mf_48, mf_49, mf_50, mf_51, mf_52, mf_53, mf_54, mf_55, mf_56, mf_57, mf_58, mf_59, mf_60, mf_61, mfs_0, mfs_2, mfs_17, mfs_20, mfs_26, mfs_32, mfs_34, mfs_36, mfs_38, mfs_43, mfs_44, mfs_45, mfs_46, mfs_47, iy_0, iy_1, iy_2, iy_3, iy_4, iy_5, iy_6, px_kill]
        exact hQ _ (.inl ⟨_, mn, rfl, hx⟩)
      · have n0 : ¬ x = 0 := fun z => by rw [z] at hx0; exact absurd hx0 (by decide)
        simp only [px_K_some, pc55_34, pc55_36, pc55_38, pc55_41, pc55_43, pc55_44, pc55_46, pc55_49, pc55_51, pc55_52, pc55_53, pc55_54, pc55_57, pc55_59, pc55_61, yr_0, yr_1, tr_0, tr_1, tr_2, tr_3, px_rf, of_2, of_4, in_02, in_12, in_04, in_14, in_24, in_34, Nat.reduceLeDiff, in_01, lgc_self, Int32.reduceToNatClampNeg, wr_at, al_at, px_wr_len, px_al_len, px_wr_1, px_al_1, tg_0, tg_1, tg_2, tg_3, tg_12, tg_15, tg_17, tg_18, tg_i1, tg_b0, tg_b3, px_fit, Nat.reduceEqDiff, Nat.reduceLT, Nat.reduceAdd, Option.some.injEq, up_at, px_wr_wr, i32_le, Int32.reduceLE, Int32.reduceLT, mf_len, nar_0, nar_1, px_KH_some, px_KH_none, px_KH_thr, List.length_cons, List.length_nil, List.getElem?_cons_zero, List.getElem?_cons_succ, List.set_cons_zero, List.set_cons_succ, ↓reduceIte, Nat.lt_irrefl, ne_0_1, ne_0_2, ne_0_3, ne_0_4, ne_0_5, ne_1_0, ne_1_2, ne_1_3, ne_1_4, ne_1_5, ne_2_0, ne_2_1, ne_2_3, ne_2_4, ne_2_5, ne_3_0, ne_3_1, ne_3_2, ne_3_4, ne_3_5, ne_4_0, ne_4_1, ne_4_2, ne_4_3, ne_4_5, ne_5_0, ne_5_1, ne_5_2, ne_5_3, ne_5_4, hd_256_12, hd_256_16, hd_257_12, hd_258_12, hd_259_12, hd_260_12, hd_261_12, hd_261_13, hd_261_16, hd_262_12, hd_262_13, hd_262_16, hd_263_12, hd_263_13, hd_264_12, hd_264_13, hd_264_14, hd_265_12, hd_265_13, hd_265_14, hd_266_12, hd_267_12, hd_267_13, hd_267_14, hd_268_12, hd_269_12, hd_269_14, hd_270_12, hd_271_12, hd_272_12, hd_273_12, hd_273_13, hd_273_15, hd_274_12, hd_274_15, hd_275_12, hd_275_15, hd_276_12, nI_p1, nI_p2, nI_p3, nI_p4, nI_p5, not_true_eq_false, not_false_eq_true, and_self, mf_0, mf_1, mf_2, mf_3, mf_4, mf_5, mf_6, mf_7, mf_8, mf_9, mf_10, mf_11, mf_12, mf_13, mf_14, mf_15, mf_16, mf_17, mf_18, mf_19, mf_20, mf_21, mf_22, mf_23, mf_24, mf_25, mf_26, mf_27, mf_28, mf_29, mf_30, mf_31, mf_32, mf_33, mf_34, mf_35, mf_36, mf_37, mf_38, mf_39, mf_40, mf_41, mf_42, mf_43, mf_44, mf_45, mf_46, mf_47, mf_48, mf_49, mf_50, mf_51, mf_52, mf_53, mf_54, mf_55, mf_56, mf_57, mf_58, mf_59, mf_60, mf_61, mfs_0, mfs_2, mfs_17, mfs_20, mfs_26, mfs_32, mfs_34, mfs_36, mfs_38, mfs_43, mfs_44, mfs_45, mfs_46, mfs_47, iy_0, iy_1, iy_2, iy_3, iy_4, iy_5, iy_6, n0, hx0, px_kill, nI_1]
        refine ih _ _ _ _ (by omega) (by omega) h3 (fun i hi' => ?_) h5
        by_cases z : i = (lo + hi) / 2
        · subst z; exact hx
        · exact plt_trans (ok.2.2.1 i _ (by omega) mn) hx
      · have n0 : ¬ x = 0 := fun z => by rw [z] at hx0; exact absurd hx0 (by decide)
        have n1 : ¬ x < 0 := fun z => Int32.lt_irrefl (Int32.lt_trans z hx0)
        simp only [px_K_some, pc55_34, pc55_36, pc55_38, pc55_41, pc55_43, pc55_44, pc55_46, pc55_49, pc55_51, pc55_52, pc55_53, pc55_54, pc55_57, pc55_59, pc55_61, yr_0, yr_1, tr_0, tr_1, tr_2, tr_3, px_rf, of_2, of_4, in_02, in_12, in_04, in_14, in_24, in_34, Nat.reduceLeDiff, in_01, lgc_self, Int32.reduceToNatClampNeg, wr_at, al_at, px_wr_len, px_al_len, px_wr_1, px_al_1, tg_0, tg_1, tg_2, tg_3, tg_12, tg_15, tg_17, tg_18, tg_i1, tg_b0, tg_b3, px_fit, Nat.reduceEqDiff, Nat.reduceLT, Nat.reduceAdd, Option.some.injEq, up_at, px_wr_wr, i32_le, Int32.reduceLE, Int32.reduceLT, mf_len, nar_0, nar_1, px_KH_some, px_KH_none, px_KH_thr, List.length_cons, List.length_nil, List.getElem?_cons_zero, List.getElem?_cons_succ, List.set_cons_zero, List.set_cons_succ, ↓reduceIte, Nat.lt_irrefl, ne_0_1, ne_0_2, ne_0_3, ne_0_4, ne_0_5, ne_1_0, ne_1_2, ne_1_3, ne_1_4, ne_1_5, ne_2_0, ne_2_1, ne_2_3, ne_2_4, ne_2_5, ne_3_0, ne_3_1, ne_3_2, ne_3_4, ne_3_5, ne_4_0, ne_4_1, ne_4_2, ne_4_3, ne_4_5, ne_5_0, ne_5_1, ne_5_2, ne_5_3, ne_5_4, hd_256_12, hd_256_16, hd_257_12, hd_258_12, hd_259_12, hd_260_12, hd_261_12, hd_261_13, hd_261_16, hd_262_12, hd_262_13, hd_262_16, hd_263_12, hd_263_13, hd_264_12, hd_264_13, hd_264_14, hd_265_12, hd_265_13, hd_265_14, hd_266_12, hd_267_12, hd_267_13, hd_267_14, hd_268_12, hd_269_12, hd_269_14, hd_270_12, hd_271_12, hd_272_12, hd_273_12, hd_273_13, hd_273_15, hd_274_12, hd_274_15, hd_275_12, hd_275_15, hd_276_12, nI_p1, nI_p2, nI_p3, nI_p4, nI_p5, not_true_eq_false, not_false_eq_true, and_self, mf_0, mf_1, mf_2, mf_3, mf_4, mf_5, mf_6, mf_7, mf_8, mf_9, mf_10, mf_11, mf_12, mf_13, mf_14, mf_15, mf_16, mf_17, mf_18, mf_19, mf_20, mf_21, mf_22, mf_23, mf_24, mf_25, mf_26, mf_27, mf_28, mf_29, mf_30, mf_31, mf_32, mf_33, mf_34, mf_35, mf_36, mf_37, mf_38, mf_39, mf_40, mf_41, mf_42, mf_43, mf_44, mf_45, mf_46, mf_47, mf_48, mf_49, mf_50, mf_51, mf_52, mf_53, mf_54, mf_55, mf_56, mf_57, mf_58, mf_59, mf_60, mf_61, mfs_0, mfs_2, mfs_17, mfs_20, mfs_26, mfs_32, mfs_34, mfs_36, mfs_38, mfs_43, mfs_44, mfs_45, mfs_46, mfs_47, iy_0, iy_1, iy_2, iy_3, iy_4, iy_5, iy_6, n0, n1, px_kill]
        refine ih _ _ _ _ (by omega) (by omega) (by omega) h4 (fun i hi1 hi2 => ?_)
        by_cases z : i = (lo + hi) / 2
        · subst z; exact hx
        · exact plt_trans hx (ok.2.2.1 _ i (by omega) hi2)
set_option maxRecDepth 16384 in
theorem c_search (t : trR h T n E) (ok : tOK n E) (a : enP h O l p) (hp : pth p l) (hm : m ≤ l) (hm1 : 1 ≤ m)
    (hQ : ∀ x, ((∃ i, i < n ∧ x = nI i ∧ eP (E i) = cutP p m) ∨ ∃ g, gapE n E (cutP p m) g ∧ x = -1 - nI g) → Q (.inl (some (.int x))) h) :
    px_Wp sx 55 0 [some (.ref T), some (.ref O), some (.int (nI m)), none, none, none, none] [] h Q := by
  have t1 := t.1
  simp only [pc55_0, pc55_1, pc55_2, pc55_2n, pc55_3, pc55_6, px_op_some, px_kv_ap, px_ki_ap, px_kl_ap, px_kn_ap, px_kh_ap, px_op_none, px_K_some, px_K_none, px_K_thr, px_kill, ↓reduceIte, if_true, if_false, true_and, and_true, px_gf, px_pf, px_ai, px_aj, px_aa, px_wi, px_wj, px_wa, px_an, px_cls, yr_0, yr_1, tr_0, tr_1, tr_2, tr_3, px_rf, of_2, of_4, in_02, in_12, in_04, in_14, in_24, in_34, Nat.reduceLeDiff, in_01, lgc_self, Int32.reduceToNatClampNeg, wr_at, al_at, px_wr_len, px_al_len, px_wr_1, px_al_1, tg_0, tg_1, tg_2, tg_3, tg_12, tg_15, tg_17, tg_18, tg_i1, tg_b0, tg_b3, px_fit, Nat.reduceEqDiff, Nat.reduceLT, Nat.reduceAdd, Option.some.injEq, up_at, px_wr_wr, i32_le, Int32.reduceLE, Int32.reduceLT, mf_len, nar_0, nar_1, px_KH_some, px_KH_none, px_KH_thr, List.length_cons, List.length_nil, List.getElem?_cons_zero, List.getElem?_cons_succ, List.set_cons_zero, List.set_cons_succ, ↓reduceIte, Nat.lt_irrefl, ne_0_1, ne_0_2, ne_0_3, ne_0_4, ne_0_5, ne_1_0, ne_1_2, ne_1_3, ne_1_4, ne_1_5, ne_2_0, ne_2_1, ne_2_3, ne_2_4, ne_2_5, ne_3_0, ne_3_1, ne_3_2, ne_3_4, ne_3_5, ne_4_0, ne_4_1, ne_4_2, ne_4_3, ne_4_5, ne_5_0, ne_5_1, ne_5_2, ne_5_3, ne_5_4, hd_256_12, hd_256_16, hd_257_12, hd_258_12, hd_259_12, hd_260_12, hd_261_12, hd_261_13, hd_261_16, hd_262_12, hd_262_13, hd_262_16, hd_263_12, hd_263_13, hd_264_12, hd_264_13, hd_264_14, hd_265_12, hd_265_13, hd_265_14, hd_266_12, hd_267_12, hd_267_13, hd_267_14, hd_268_12, hd_269_12, hd_269_14, hd_270_12, hd_271_12, hd_272_12, hd_273_12, hd_273_13, hd_273_15, hd_274_12, hd_274_15, hd_275_12, hd_275_15, hd_276_12, nI_p1, nI_p2, nI_p3, nI_p4, nI_p5, not_true_eq_false, not_false_eq_true, and_self, mf_0, mf_1, mf_2, mf_3, mf_4, mf_5, mf_6, mf_7, mf_8, mf_9, mf_10, mf_11, mf_12, mf_13, mf_14, mf_15, mf_16, mf_17, mf_18, mf_19, mf_20, mf_21, mf_22, mf_23, mf_24, mf_25, mf_26, mf_27, mf_28, mf_29, mf_30, mf_31, mf_32, mf_33, mf_34, mf_35, mf_36, mf_37, mf_38, mf_39, mf_40, mf_41, mf_42, mf_43, mf_44, mf_45, mf_46, mf_47, mf_48, mf_49, mf_50, mf_51, mf_52, mf_53, mf_54, mf_55, mf_56, mf_57, mf_58, mf_59, mf_60, mf_61, mfs_0, mfs_2, mfs_17, mfs_20, mfs_26, mfs_32, mfs_34, mfs_36, mfs_38, mfs_43, mfs_44, mfs_45, mfs_46, mfs_47, iy_0, iy_1, iy_2, iy_3, iy_4, iy_5, iy_6, t1, px_kill]
  exact c_search_l t ok a hp hm hm1 hQ n 0 n none none (by omega) (by omega) (Nat.le_refl _) (fun i hi => absurd hi (Nat.not_lt_zero i)) (fun i h1 h2 => absurd h2 (by omega))
set_option maxRecDepth 16384 in
theorem c_kind_in {i : Nat} (t : trR h T n E) (ok : tOK n E) (hi : i < n) (hQ : Q (.inl (some (.int (nI (eK (E i)))))) h) : px_Wp sx 56 0 [some (.ref T), some (.int (nI i))] [] h Q := by
  have h80 := ok.1
  obtain ⟨t1, t2, ra, t3, t4, t5⟩ := t
  obtain ⟨X, x1, src, st, cn, gg, y1, -⟩ := t5 i hi
  unfold enF at y1
  have p0 : ¬ nI i < 0 := nI_pos (by omega)
  have g1 : nI i < nI n := nI_lt hi (by omega)
  have ii : px_in (nI i) 80 = true := px_inb (by omega) (by decide)
  have ci : (nI i).toNatClampNeg = i := nI_clamp (by omega)
  simp only [pc56_0, pc56_1, pc56_4, pc56_5, pc56_5n, pc56_6, pc56_9, pc56_12, pc56_12n, pc56_13, pc56_16, pc56_17, pc56_18, pc56_21, pc56_24, pc56_25, px_op_some, px_kv_ap, px_ki_ap, px_kl_ap, px_kn_ap, px_kh_ap, px_op_none, px_K_some, px_K_none, px_K_thr, px_kill, ↓reduceIte, if_true, if_false, true_and, and_true, px_gf, px_pf, px_ai, px_aj, px_aa, px_wi, px_wj, px_wa, px_an, px_cls, yr_0, yr_1, tr_0, tr_1, tr_2, tr_3, px_rf, of_2, of_4, in_02, in_12, in_04, in_14, in_24, in_34, Nat.reduceLeDiff, in_01, lgc_self, Int32.reduceToNatClampNeg, wr_at, al_at, px_wr_len, px_al_len, px_wr_1, px_al_1, tg_0, tg_1, tg_2, tg_3, tg_12, tg_15, tg_17, tg_18, tg_i1, tg_b0, tg_b3, px_fit, Nat.reduceEqDiff, Nat.reduceLT, Nat.reduceAdd, Option.some.injEq, up_at, px_wr_wr, i32_le, Int32.reduceLE, Int32.reduceLT, mf_len, nar_0, nar_1, px_KH_some, px_KH_none, px_KH_thr, List.length_cons, List.length_nil, List.getElem?_cons_zero, List.getElem?_cons_succ, List.set_cons_zero, List.set_cons_succ, ↓reduceIte, Nat.lt_irrefl, ne_0_1, ne_0_2, ne_0_3, ne_0_4, ne_0_5, ne_1_0, ne_1_2, ne_1_3, ne_1_4, ne_1_5, ne_2_0, ne_2_1, ne_2_3, ne_2_4, ne_2_5, ne_3_0, ne_3_1, ne_3_2, ne_3_4, ne_3_5, ne_4_0, ne_4_1, ne_4_2, ne_4_3, ne_4_5, ne_5_0, ne_5_1, ne_5_2, ne_5_3, ne_5_4, hd_256_12, hd_256_16, hd_257_12, hd_258_12, hd_259_12, hd_260_12, hd_261_12, hd_261_13, hd_261_16, hd_262_12, hd_262_13, hd_262_16, hd_263_12, hd_263_13, hd_264_12, hd_264_13, hd_264_14, hd_265_12, hd_265_13, hd_265_14, hd_266_12, hd_267_12, hd_267_13, hd_267_14, hd_268_12, hd_269_12, hd_269_14, hd_270_12, hd_271_12, hd_272_12, hd_273_12, hd_273_13, hd_273_15, hd_274_12, hd_274_15, hd_275_12, hd_275_15, hd_276_12, nI_p1, nI_p2, nI_p3, nI_p4, nI_p5, not_true_eq_false, not_false_eq_true, and_self, mf_0, mf_1, mf_2, mf_3, mf_4, mf_5, mf_6, mf_7, mf_8, mf_9, mf_10, mf_11, mf_12, mf_13, mf_14, mf_15, mf_16, mf_17, mf_18, mf_19, mf_20, mf_21, mf_22, mf_23, mf_24, mf_25, mf_26, mf_27, mf_28, mf_29, mf_30, mf_31, mf_32, mf_33, mf_34, mf_35, mf_36, mf_37, mf_38, mf_39, mf_40, mf_41, mf_42, mf_43, mf_44, mf_45, mf_46, mf_47, mf_48, mf_49, mf_50, mf_51, mf_52, mf_53, mf_54, mf_55, mf_56, mf_57, mf_58, mf_59, mf_60, mf_61, mfs_0, mfs_2, mfs_17, mfs_20, mfs_26, mfs_32, mfs_34, mfs_36, mfs_38, mfs_43, mfs_44, mfs_45, mfs_46, mfs_47, iy_0, iy_1, iy_2, iy_3, iy_4, iy_5, iy_6, t1, t3, p0, g1, ii, ci, x1, px_rf, y1, tg_12, Nat.reduceLeDiff]
  exact hQ
set_option maxRecDepth 16384 in
theorem c_kind_no {g : Nat} (t : trR h T n E) (hg : g ≤ 1000) (hQ : Q (.inl (some (.int 0))) h) : px_Wp sx 56 0 [some (.ref T), some (.int (-1 - nI g))] [] h Q := by
  have p0 : -1 - nI g < 0 := by
    rw [Int32.lt_iff_toInt_lt, Int32.toInt_sub, nI_toInt (by omega), show (-1 : Int32).toInt = -1 from rfl, Int.bmod_eq_of_le (by omega) (by omega)]
    show (-1 : Int) - g < 0
    omega
  simp only [pc56_0, pc56_1, pc56_24, pc56_25, if_pos p0]
  exact hQ
set_option maxRecDepth 16384 in
theorem c_hasHome (t : trR h T n E) (ok : tOK n E) (a : enP h O l p) (hp : pth p l) (hQ : ∀ x, says x (homed n E p l) → Q (.inl (some (.int x))) h) : px_Wp sx 59 0 [some (.ref T), some (.ref O), none] [] h Q := by
  have h80 := ok.1
  have hc : px_cls h O = some 2 := by
    obtain ⟨⟨kd, src, st, cn, a1⟩, -⟩ := a
    unfold px_cls; rw [a1]
  have hcT : px_cls h T = some 3 := by unfold px_cls; rw [t.1]
  have hl := home_lt (p := p) l
  have h35 := hp.2.1
  simp only [pc59_0, pc59_0n, pc59_1, hc, true_and]
  refine c_home a hp ?_
  by_cases e : homeL p l = 0
  · simp only [px_K_some, pc59_4, pc59_5, pc59_6, pc59_23, pc59_24, pc59_27, pc59_28, e, show nI 0 = 0 from rfl, if_true, px_kill, nar_1]
    exact hQ 1 (.inl ⟨rfl, .inl e⟩)
  · have ne : ¬ nI (homeL p l) = 0 := fun z => e ((nI_inj (b := 0) (by omega) (by decide)).mp z)
    simp only [px_K_some, pc59_4, pc59_5, pc59_6, pc59_9, pc59_9n, pc59_10, pc59_10n, pc59_11, pc59_11n, pc59_12, pc59_13, if_neg ne, px_kill, hcT, true_and]
    refine c_search t ok a hp (by omega) (by omega) (fun x hx => ?_)
    rcases hx with ⟨i, i1, rfl, i2⟩ | ⟨g, g1, rfl⟩
    · simp only [px_K_some, pc59_16, hcT, true_and]
      refine c_kind_in t ok i1 ?_
      by_cases k : eK (E i) = 1
      · simp only [px_K_some, pc59_19, pc59_20, pc59_23, pc59_24, pc59_27, pc59_28, k, show nI 1 = 1 from rfl, not_true_eq_false, if_false, nar_1]
        exact hQ 1 (.inl ⟨rfl, .inr ⟨i, i1, i2, k⟩⟩)
      · have kk := (ok.2.1 i i1).2
        have kn : ¬ nI (eK (E i)) = 1 := fun z => k ((nI_inj (b := 1) (by omega) (by decide)).mp z)
        simp only [px_K_some, pc59_19, pc59_20, pc59_23, pc59_24, pc59_27, pc59_28, kn, not_false_eq_true, if_true, nar_0]
        refine hQ 0 (.inr ⟨rfl, fun z => ?_⟩)
        rcases z with z | ⟨j, j1, j2, j3⟩
        · exact e z
        · have : i = j := srt_uniq ok i1 j1 (i2.trans j2.symm)
          subst this
          exact k j3
    · simp only [px_K_some, pc59_16, hcT, true_and]
      refine c_kind_no t (by have := g1.1; omega) ?_
      have z1 : ¬ (0 : Int32) = 1 := by decide
      simp only [px_K_some, pc59_19, pc59_20, pc59_23, pc59_24, pc59_27, pc59_28, z1, not_false_eq_true, if_true, nar_0]
      refine hQ 0 (.inr ⟨rfl, fun z => ?_⟩)
      rcases z with z | ⟨j, j1, j2, j3⟩
      · exact e z
      · rcases Nat.lt_or_ge j g with w | w
        · have := g1.2.1 j w; rw [j2] at this; exact plt_irr _ this
        · have := g1.2.2 j w j1; rw [j2] at this; exact plt_irr _ this
set_option maxRecDepth 16384 in
theorem c_endOf_l {i : Nat} (t : trR h T n E) (ok : tOK n E) (hi : i < n) (hQ : ∀ b, endE n E i b → Q (.inl (some (.int (nI b)))) h) :
    ∀ d b, b + d = n → i < b → (∀ j, i < j → j < b → blw (eP (E i)) (eL (E i)) (eP (E j))) → px_Wp sx 57 4 [some (.ref T), some (.int (nI i)), some (.int (nI b))] [] h Q := by
  have h80 := ok.1
  obtain ⟨t1, t2, ra, t3, t4, t5⟩ := t
  have ii : px_in (nI i) 80 = true := px_inb (by omega) (by decide)
  have ci : (nI i).toNatClampNeg = i := nI_clamp (by omega)
  obtain ⟨X, x1, x2⟩ := t5 i hi
  have x3 := x2
  obtain ⟨src, st, cn, gg, y1, -⟩ := x3
  unfold enF at y1
  intro d
  induction d with
  | zero =>
    intro b hb h1 h2
    have hb : b = n := by omega
    subst hb
    rw [pc57_4]
    simp only [pc57_5, pc57_5n, pc57_6, pc57_9, pc57_36, pc57_37, px_op_some, px_kv_ap, px_ki_ap, px_kl_ap, px_kn_ap, px_kh_ap, px_op_none, px_K_some, px_K_none, px_K_thr, px_kill, ↓reduceIte, if_true, if_false, true_and, and_true, px_gf, px_pf, px_ai, px_aj, px_aa, px_wi, px_wj, px_wa, px_an, px_cls, List.getElem?_cons_zero, List.getElem?_cons_succ, px_op_some, px_kv_ap, px_ki_ap, px_kl_ap, px_kn_ap, px_kh_ap, t1, if_pos (Int32.le_refl _)]
    exact hQ b ⟨h1, Nat.le_refl _, h2, .inl rfl⟩
  | succ d ih =>
    intro b hb h1 h2
    have g1 : nI b < nI n := nI_lt (by omega) (by omega)
    have ib : px_in (nI b) 80 = true := px_inb (by omega) (by decide)
    have cb : (nI b).toNatClampNeg = b := nI_clamp (by omega)
    obtain ⟨Z, z1, z2⟩ := t5 b (by omega)
    have z3 := z2
    obtain ⟨src', st', cn', gg', w1, -⟩ := z3
    unfold enF at w1
    rw [pc57_4]
    simp only [pc57_5, pc57_5n, pc57_6, pc57_9, pc57_12, pc57_12n, pc57_13, pc57_16, pc57_17, pc57_18, pc57_18n, pc57_19, pc57_22, pc57_23, pc57_24, px_op_some, px_kv_ap, px_ki_ap, px_kl_ap, px_kn_ap, px_kh_ap, px_op_none, px_K_some, px_K_none, px_K_thr, px_kill, ↓reduceIte, if_true, if_false, true_and, and_true, px_gf, px_pf, px_ai, px_aj, px_aa, px_wi, px_wj, px_wa, px_an, px_cls, yr_0, yr_1, tr_0, tr_1, tr_2, tr_3, px_rf, of_2, of_4, in_02, in_12, in_04, in_14, in_24, in_34, Nat.reduceLeDiff, in_01, lgc_self, Int32.reduceToNatClampNeg, wr_at, al_at, px_wr_len, px_al_len, px_wr_1, px_al_1, tg_0, tg_1, tg_2, tg_3, tg_12, tg_15, tg_17, tg_18, tg_i1, tg_b0, tg_b3, px_fit, Nat.reduceEqDiff, Nat.reduceLT, Nat.reduceAdd, Option.some.injEq, up_at, px_wr_wr, i32_le, Int32.reduceLE, Int32.reduceLT, mf_len, nar_0, nar_1, px_KH_some, px_KH_none, px_KH_thr, List.length_cons, List.length_nil, List.getElem?_cons_zero, List.getElem?_cons_succ, List.set_cons_zero, List.set_cons_succ, ↓reduceIte, Nat.lt_irrefl, ne_0_1, ne_0_2, ne_0_3, ne_0_4, ne_0_5, ne_1_0, ne_1_2, ne_1_3, ne_1_4, ne_1_5, ne_2_0, ne_2_1, ne_2_3, ne_2_4, ne_2_5, ne_3_0, ne_3_1, ne_3_2, ne_3_4, ne_3_5, ne_4_0, ne_4_1, ne_4_2, ne_4_3, ne_4_5, ne_5_0, ne_5_1, ne_5_2, ne_5_3, ne_5_4, hd_256_12, hd_256_16, hd_257_12, hd_258_12, hd_259_12, hd_260_12, hd_261_12, hd_261_13, hd_261_16, hd_262_12, hd_262_13, hd_262_16, hd_263_12, hd_263_13, hd_264_12, hd_264_13, hd_264_14, hd_265_12, hd_265_13, hd_265_14, hd_266_12, hd_267_12, hd_267_13, hd_267_14, hd_268_12, hd_269_12, hd_269_14, hd_270_12, hd_271_12, hd_272_12, hd_273_12, hd_273_13, hd_273_15, hd_274_12, hd_274_15, hd_275_12, hd_275_15, hd_276_12, nI_p1, nI_p2, nI_p3, nI_p4, nI_p5, not_true_eq_false, not_false_eq_true, and_self, mf_0, mf_1, mf_2, mf_3, mf_4, mf_5, mf_6, mf_7, mf_8, mf_9, mf_10, mf_11, mf_12, mf_13, mf_14, mf_15, mf_16, mf_17, mf_18, mf_19, mf_20, mf_21, mf_22, mf_23, mf_24, mf_25, mf_26, mf_27, mf_28, mf_29, mf_30, mf_31, mf_32, mf_33, mf_34, mf_35, mf_36, mf_37, mf_38, mf_39, mf_40, mf_41, mf_42, mf_43, mf_44, mf_45, mf_46, mf_47, mf_48, mf_49, mf_50, mf_51, mf_52, mf_53, mf_54, mf_55, mf_56, mf_57, mf_58, mf_59, mf_60, mf_61, mfs_0, mfs_2, mfs_17, mfs_20, mfs_26, mfs_32, mfs_34, mfs_36, mfs_38, mfs_43, mfs_44, mfs_45, mfs_46, mfs_47, iy_0, iy_1, iy_2, iy_3, iy_4, iy_5, iy_6, t1, t3, g1, ii, ci, ib, cb, x1, z1, px_rf, y1, w1, tg_12, Nat.reduceLeDiff, px_kill]
    refine c_below (ent_enP z2 (ok.2.1 b (by omega)).1) (ent_enP x2 (ok.2.1 i hi).1) (ok.2.1 b (by omega)).1 (ok.2.1 i hi).1 (fun x hx => ?_)
    rcases hx with ⟨rfl, hx⟩ | ⟨rfl, hx⟩
    · simp only [px_K_some, pc57_27, pc57_30, pc57_33, yr_0, yr_1, tr_0, tr_1, tr_2, tr_3, px_rf, of_2, of_4, in_02, in_12, in_04, in_14, in_24, in_34, Nat.reduceLeDiff, in_01, lgc_self, Int32.reduceToNatClampNeg, wr_at, al_at, px_wr_len, px_al_len, px_wr_1, px_al_1, tg_0, tg_1, tg_2, tg_3, tg_12, tg_15, tg_17, tg_18, tg_i1, tg_b0, tg_b3, px_fit, Nat.reduceEqDiff, Nat.reduceLT, Nat.reduceAdd, Option.some.injEq, up_at, px_wr_wr, i32_le, Int32.reduceLE, Int32.reduceLT, mf_len, nar_0, nar_1, px_KH_some, px_KH_none, px_KH_thr, List.length_cons, List.length_nil, List.getElem?_cons_zero, List.getElem?_cons_succ, List.set_cons_zero, List.set_cons_succ, ↓reduceIte, Nat.lt_irrefl, ne_0_1, ne_0_2, ne_0_3, ne_0_4, ne_0_5, ne_1_0, ne_1_2, ne_1_3, ne_1_4, ne_1_5, ne_2_0, ne_2_1, ne_2_3, ne_2_4, ne_2_5, ne_3_0, ne_3_1, ne_3_2, ne_3_4, ne_3_5, ne_4_0, ne_4_1, ne_4_2, ne_4_3, ne_4_5, ne_5_0, ne_5_1, ne_5_2, ne_5_3, ne_5_4, hd_256_12, hd_256_16, hd_257_12, hd_258_12, hd_259_12, hd_260_12, hd_261_12, hd_261_13, hd_261_16, hd_262_12, hd_262_13, hd_262_16, hd_263_12, hd_263_13, hd_264_12, hd_264_13, hd_264_14, hd_265_12, hd_265_13, hd_265_14, hd_266_12, hd_267_12, hd_267_13, hd_267_14, hd_268_12, hd_269_12, hd_269_14, hd_270_12, hd_271_12, hd_272_12, hd_273_12, hd_273_13, hd_273_15, hd_274_12, hd_274_15, hd_275_12, hd_275_15, hd_276_12, nI_p1, nI_p2, nI_p3, nI_p4, nI_p5, not_true_eq_false, not_false_eq_true, and_self, mf_0, mf_1, mf_2, mf_3, mf_4, mf_5, mf_6, mf_7, mf_8, mf_9, mf_10, mf_11, mf_12, mf_13, mf_14, mf_15, mf_16, mf_17, mf_18, mf_19, mf_20, mf_21, mf_22, mf_23, mf_24, mf_25, mf_26, mf_27, mf_28, mf_29, mf_30, mf_31, mf_32, mf_33, mf_34, mf_35, mf_36, mf_37, mf_38, mf_39, mf_40, mf_41, mf_42, mf_43, mf_44, mf_45, mf_46, mf_47, mf_48, mf_49, mf_50, mf_51, mf_52, mf_53, mf_54, mf_55, mf_56, mf_57, mf_58, mf_59, mf_60, mf_61, mfs_0, mfs_2, mfs_17, mfs_20, mfs_26, mfs_32, mfs_34, mfs_36, mfs_38, mfs_43, mfs_44, mfs_45, mfs_46, mfs_47, iy_0, iy_1, iy_2, iy_3, iy_4, iy_5, iy_6, px_kill, nI_1]
      refine ih (b + 1) (by omega) (by omega) (fun j j1 j2 => ?_)
      by_cases y : j = b
      · subst y; exact hx
      · exact h2 j j1 (by omega)
    · simp only [px_K_some, pc57_27, pc57_30, pc57_33, pc57_36, pc57_37, yr_0, yr_1, tr_0, tr_1, tr_2, tr_3, px_rf, of_2, of_4, in_02, in_12, in_04, in_14, in_24, in_34, Nat.reduceLeDiff, in_01, lgc_self, Int32.reduceToNatClampNeg, wr_at, al_at, px_wr_len, px_al_len, px_wr_1, px_al_1, tg_0, tg_1, tg_2, tg_3, tg_12, tg_15, tg_17, tg_18, tg_i1, tg_b0, tg_b3, px_fit, Nat.reduceEqDiff, Nat.reduceLT, Nat.reduceAdd, Option.some.injEq, up_at, px_wr_wr, i32_le, Int32.reduceLE, Int32.reduceLT, mf_len, nar_0, nar_1, px_KH_some, px_KH_none, px_KH_thr, List.length_cons, List.length_nil, List.getElem?_cons_zero, List.getElem?_cons_succ, List.set_cons_zero, List.set_cons_succ, ↓reduceIte, Nat.lt_irrefl, ne_0_1, ne_0_2, ne_0_3, ne_0_4, ne_0_5, ne_1_0, ne_1_2, ne_1_3, ne_1_4, ne_1_5, ne_2_0, ne_2_1, ne_2_3, ne_2_4, ne_2_5, ne_3_0, ne_3_1, ne_3_2, ne_3_4, ne_3_5, ne_4_0, ne_4_1, ne_4_2, ne_4_3, ne_4_5, ne_5_0, ne_5_1, ne_5_2, ne_5_3, ne_5_4, hd_256_12, hd_256_16, hd_257_12, hd_258_12, hd_259_12, hd_260_12, hd_261_12, hd_261_13, hd_261_16, hd_262_12, hd_262_13, hd_262_16, hd_263_12, hd_263_13, hd_264_12, hd_264_13, hd_264_14, hd_265_12, hd_265_13, hd_265_14, hd_266_12, hd_267_12, hd_267_13, hd_267_14, hd_268_12, hd_269_12, hd_269_14, hd_270_12, hd_271_12, hd_272_12, hd_273_12, hd_273_13, hd_273_15, hd_274_12, hd_274_15, hd_275_12, hd_275_15, hd_276_12, nI_p1, nI_p2, nI_p3, nI_p4, nI_p5, not_true_eq_false, not_false_eq_true, and_self, mf_0, mf_1, mf_2, mf_3, mf_4, mf_5, mf_6, mf_7, mf_8, mf_9, mf_10, mf_11, mf_12, mf_13, mf_14, mf_15, mf_16, mf_17, mf_18, mf_19, mf_20, mf_21, mf_22, mf_23, mf_24, mf_25, mf_26, mf_27, mf_28, mf_29, mf_30, mf_31, mf_32, mf_33, mf_34, mf_35, mf_36, mf_37, mf_38, mf_39, mf_40, mf_41, mf_42, mf_43, mf_44, mf_45, mf_46, mf_47, mf_48, mf_49, mf_50, mf_51, mf_52, mf_53, mf_54, mf_55, mf_56, mf_57, mf_58, mf_59, mf_60, mf_61, mfs_0, mfs_2, mfs_17, mfs_20, mfs_26, mfs_32, mfs_34, mfs_36, mfs_38, mfs_43, mfs_44, mfs_45, mfs_46, mfs_47, iy_0, iy_1, iy_2, iy_3, iy_4, iy_5, iy_6, px_kill]
      exact hQ b ⟨h1, by omega, h2, .inr hx⟩
set_option maxRecDepth 16384 in
theorem c_endOf {i : Nat} (t : trR h T n E) (ok : tOK n E) (hi : i < n) (hQ : ∀ b, endE n E i b → Q (.inl (some (.int (nI b)))) h) : px_Wp sx 57 0 [some (.ref T), some (.int (nI i)), none] [] h Q := by
  simp only [pc57_0, pc57_1, pc57_2, pc57_3, px_kill, nI_1]
  exact c_endOf_l t ok hi hQ (n - (i + 1)) (i + 1) (by omega) (by omega) (fun j h1 h2 => absurd h2 (by omega))
end CTREE
