/-! TREES, the reference's: what is below a path dropped; a path made -/
set_option maxRecDepth 16384 in
theorem cutE_in {T : Nat → aE} {a b i : Nat} (h : i < a ∨ a = b) : cutE T a b i = T i := by
  unfold cutE
  rcases h with h | h
  · rw [if_pos h]
  · subst h; rw [Nat.sub_self, Nat.add_zero]; split <;> rfl
def shiftE (T : Nat → aE) (n k : Nat) : Nat → aE := fun i => if k < i ∧ i ≤ n then T (i - 1) else T i
set_option maxRecDepth 16384 in
theorem shiftE_up {T : Nat → aE} {n k : Nat} (hk : k + 1 ≤ n) : px_up (shiftE T n (k + 1)) (k + 1) (shiftE T n (k + 1) k) = shiftE T n k := by
  funext i
  by_cases x : i = k + 1
  · subst x
    rw [up_same]
    unfold shiftE
    rw [if_neg (by omega), if_pos (by omega), Nat.add_sub_cancel]
  · rw [up_ne x]
    unfold shiftE
    by_cases y : k + 1 < i ∧ i ≤ n
    · rw [if_pos y, if_pos (by omega)]
    · rw [if_neg y, if_neg (by omega)]
set_option maxRecDepth 16384 in
theorem shiftE_n {T : Nat → aE} {n : Nat} : shiftE T n n = T := by
  funext i
  unfold shiftE
  rw [if_neg (by omega)]
set_option maxRecDepth 16384 in
theorem shift_ins {T : Nat → aE} {n k i : Nat} {e : aE} (hk : k ≤ n) (hi : i < n + 1) : px_up (shiftE T n k) k e i = insE T k e i := by
  unfold insE
  by_cases x : i = k
  · subst x
    rw [up_same, if_neg (Nat.lt_irrefl _), if_pos rfl]
  · rw [up_ne x]
    unfold shiftE
    by_cases y : i < k
    · rw [if_neg (by omega), if_pos y]
    · rw [if_pos (by omega), if_neg y, if_neg x]
section MMAKE
variable {sx : Nat × (Nat → Int32)} {h : px_H} {n l a b : Nat} {V : Nat → Int32} {D : Nat → Prop} {T : Nat → aE} {p : Nat → Nat} {Q : px_O → px_H → Prop}
set_option maxRecDepth 16384 in
theorem m_db_l (h6 : h.2[619]? = some (.inl (11, modF V))) (hv2 : V 32 = nI l) (hn : n ≤ 81) (hD : ∀ i, i < n → D i) (pt : mpt h p l) (hp : pth p l) (hab : a ≤ b) (hbn : b ≤ n) (hr : ∀ j, j < n → (blw p l (eP (T j)) ↔ a ≤ j ∧ j < b))
    (hQ : ∀ h' T', mtE h' D T' → (∀ i, i < n - (b - a) → T' i = cutE T a b i) → (∀ i, n ≤ i → T' i = T i) → h'.2[619]? = some (.inl (11, modF (px_up V 20 (nI (n - (b - a)))))) → frm mEB h h' → (shape h → shape h') → Q (.inl none) h') :
    ∀ k x, k ≤ n → a ≤ x → x ≤ b → (x = b ∧ b ≤ k ∨ x = k ∧ a ≤ k ∧ k ≤ b ∨ x = a ∧ k ≤ a) → ∀ h1 T1, mtE h1 D T1 → (∀ i, i < n - (b - x) → T1 i = cutE T x b i) → (∀ i, n ≤ i → T1 i = T i) → h1.2[619]? = some (.inl (11, modF (px_up V 20 (nI (n - (b - x)))))) → frm mEB h h1 → (shape h → shape h1) →
      px_Wp sx 185 7 [some (.ref 619), some (.int (idm k))] [] h1 Q := by
  intro k
  induction k with
  | zero =>
    intro x hk ha hb hx h1 T1 w w1 w2 b6 fr sh
    have : x = a := by omega
    subst this
    have neg : (-1 : Int32) < 0 := by decide
    simp only [idm, pc185_7, pc185_8, pc185_34, neg, if_true]
    exact hQ h1 T1 w w1 w2 b6 fr sh
  | succ k ih =>
    intro x hk ha hb hx h1 T1 w w1 w2 b6 fr sh
    have pos : ¬ nI k < 0 := nI_pos (by omega)
    have pt1 : mpt h1 p l := mpt_frm pt (fr.2.2 647 (by unfold mEB mEA; omega))
    have hcls : px_cls h1 619 = some 11 := by unfold px_cls; rw [b6]
    have v32 : px_up V 20 (nI (n - (b - x))) 32 = nI l := by rw [up_ne (by decide)]; exact hv2
    have tk : T1 k = T k := by
      rw [w1 k (by omega)]
      exact cutE_in (by omega)
    simp only [idm]
    rw [pc185_7]
    simp only [pc185_8, pc185_11, pc185_11n, pc185_12, pc185_13, pc185_13n, pc185_14, pc185_17, px_op_some, px_kv_ap, px_ki_ap, px_kl_ap, px_kn_ap, px_kh_ap, px_op_none, px_K_some, px_K_none, px_K_thr, px_kill, ↓reduceIte, if_true, if_false, true_and, and_true, px_gf, b6, mf_32, v32, pos, hcls]
    refine m_isBelow b6 w (hD k (by omega)) pt1 hp (fun y hy => ?_)
    rw [tk] at hy
    rcases hy with ⟨rfl, hy⟩ | ⟨rfl, hy⟩
    · have in_ := (hr k (by omega)).mp hy
      have xk : x = k + 1 := by omega
      subst xk
      simp only [px_K_some, pc185_20, pc185_23, pc185_23n, pc185_24, pc185_25, px_op_some, px_kv_ap, px_ki_ap, px_kl_ap, px_kn_ap, px_kh_ap, px_op_none, px_K_some, px_K_none, px_K_thr, px_kill, ↓reduceIte, if_true, if_false, true_and, and_true, yr_0, yr_1, tr_0, tr_1, tr_2, tr_3, px_rf, of_2, of_4, in_02, in_12, in_04, in_14, in_24, in_34, Nat.reduceLeDiff, in_01, lgc_self, Int32.reduceToNatClampNeg, wr_at, al_at, px_wr_len, px_al_len, px_wr_1, px_al_1, tg_0, tg_1, tg_2, tg_3, tg_12, tg_15, tg_17, tg_18, tg_i1, tg_b0, tg_b3, px_fit, Nat.reduceEqDiff, Nat.reduceLT, Nat.reduceAdd, Option.some.injEq, up_at, px_wr_wr, i32_le, Int32.reduceLE, Int32.reduceLT, mf_len, nar_0, nar_1, px_KH_some, px_KH_none, px_KH_thr, List.length_cons, List.length_nil, List.getElem?_cons_zero, List.getElem?_cons_succ, List.set_cons_zero, List.set_cons_succ, ↓reduceIte, Nat.lt_irrefl, ne_0_1, ne_0_2, ne_0_3, ne_0_4, ne_0_5, ne_1_0, ne_1_2, ne_1_3, ne_1_4, ne_1_5, ne_2_0, ne_2_1, ne_2_3, ne_2_4, ne_2_5, ne_3_0, ne_3_1, ne_3_2, ne_3_4, ne_3_5, ne_4_0, ne_4_1, ne_4_2, ne_4_3, ne_4_5, ne_5_0, ne_5_1, ne_5_2, ne_5_3, ne_5_4, hd_256_12, hd_256_16, hd_257_12, hd_258_12, hd_259_12, hd_260_12, hd_261_12, hd_261_13, hd_261_16, hd_262_12, hd_262_13, hd_262_16, hd_263_12, hd_263_13, hd_264_12, hd_264_13, hd_264_14, hd_265_12, hd_265_13, hd_265_14, hd_266_12, hd_267_12, hd_267_13, hd_267_14, hd_268_12, hd_269_12, hd_269_14, hd_270_12, hd_271_12, hd_272_12, hd_273_12, hd_273_13, hd_273_15, hd_274_12, hd_274_15, hd_275_12, hd_275_15, hd_276_12, nI_p1, nI_p2, nI_p3, nI_p4, nI_p5, not_true_eq_false, not_false_eq_true, and_self, mf_0, mf_1, mf_2, mf_3, mf_4, mf_5, mf_6, mf_7, mf_8, mf_9, mf_10, mf_11, mf_12, mf_13, mf_14, mf_15, mf_16, mf_17, mf_18, mf_19, mf_20, mf_21, mf_22, mf_23, mf_24, mf_25, mf_26, mf_27, mf_28, mf_29, mf_30, mf_31, mf_32, mf_33, mf_34, mf_35, mf_36, mf_37, mf_38, mf_39, mf_40, mf_41, mf_42, mf_43, mf_44, mf_45, mf_46, mf_47, mf_48, mf_49, mf_50, mf_51, mf_52, mf_53, mf_54, mf_55, mf_56, mf_57, mf_58, mf_59, mf_60, mf_61, mfs_0, mfs_2, mfs_17, mfs_20, mfs_26, mfs_32, mfs_34, mfs_36, mfs_38, mfs_43, mfs_44, mfs_45, mfs_46, mfs_47, iy_0, iy_1, iy_2, iy_3, iy_4, iy_5, iy_6, hcls]
      refine m_drop b6 (up_same _ _ _) (by omega) w (fun i hi => hD i (by omega)) (by omega) (fun h2 w' b6' fr' sh' => ?_)
      simp only [px_K_none, pc185_28, pc185_31, px_kill, idm_add]
      refine ih k (by omega) (by omega) (by omega) (by omega) h2 _ w' (fun i hi => ?_) (fun i hi => ?_) ?_ (frm_trans fr fr') (fun s => sh' (sh s))
      · unfold dropE
        by_cases z : k ≤ i ∧ i < n - (b - (k + 1)) - 1
        · rw [if_pos z, w1 (i + 1) (by omega)]
          unfold cutE
          rw [if_neg (by omega), if_neg (by omega)]
          congr 1; omega
        · rw [if_neg z, w1 i (by omega)]
          unfold cutE
          rw [if_pos (by omega), if_pos (by omega)]
      · unfold dropE
        rw [if_neg (by omega)]; exact w2 i hi
      · rw [up_up] at b6'
        rw [b6', show n - (b - (k + 1)) - 1 = n - (b - k) by omega]
    · have out : ¬ (a ≤ k ∧ k < b) := fun z => hy ((hr k (by omega)).mpr z)
      simp only [px_K_some, pc185_20, pc185_28, pc185_31, px_op_some, px_kv_ap, px_ki_ap, px_kl_ap, px_kn_ap, px_kh_ap, px_op_none, px_K_some, px_K_none, px_K_thr, px_kill, ↓reduceIte, if_true, if_false, true_and, and_true, yr_0, yr_1, tr_0, tr_1, tr_2, tr_3, px_rf, of_2, of_4, in_02, in_12, in_04, in_14, in_24, in_34, Nat.reduceLeDiff, in_01, lgc_self, Int32.reduceToNatClampNeg, wr_at, al_at, px_wr_len, px_al_len, px_wr_1, px_al_1, tg_0, tg_1, tg_2, tg_3, tg_12, tg_15, tg_17, tg_18, tg_i1, tg_b0, tg_b3, px_fit, Nat.reduceEqDiff, Nat.reduceLT, Nat.reduceAdd, Option.some.injEq, up_at, px_wr_wr, i32_le, Int32.reduceLE, Int32.reduceLT, mf_len, nar_0, nar_1, px_KH_some, px_KH_none, px_KH_thr, List.length_cons, List.length_nil, List.getElem?_cons_zero, List.getElem?_cons_succ, List.set_cons_zero, List.set_cons_succ, ↓reduceIte, Nat.lt_irrefl, ne_0_1, ne_0_2, ne_0_3, ne_0_4, ne_0_5, ne_1_0, ne_1_2, ne_1_3, ne_1_4, ne_1_5, ne_2_0, ne_2_1, ne_2_3, ne_2_4, ne_2_5, ne_3_0, ne_3_1, ne_3_2, ne_3_4, ne_3_5, ne_4_0, ne_4_1, ne_4_2, ne_4_3, ne_4_5, ne_5_0, ne_5_1, ne_5_2, ne_5_3, ne_5_4, hd_256_12, hd_256_16, hd_257_12, hd_258_12, hd_259_12, hd_260_12, hd_261_12, hd_261_13, hd_261_16, hd_262_12, hd_262_13, hd_262_16, hd_263_12, hd_263_13, hd_264_12, hd_264_13, hd_264_14, hd_265_12, hd_265_13, hd_265_14, hd_266_12, hd_267_12, hd_267_13, hd_267_14, hd_268_12, hd_269_12, hd_269_14, hd_270_12, hd_271_12, hd_272_12, hd_273_12, hd_273_13, hd_273_15, hd_274_12, hd_274_15, hd_275_12, hd_275_15, hd_276_12, nI_p1, nI_p2, nI_p3, nI_p4, nI_p5, not_true_eq_false, not_false_eq_true, and_self, mf_0, mf_1, mf_2, mf_3, mf_4, mf_5, mf_6, mf_7, mf_8, mf_9, mf_10, mf_11, mf_12, mf_13, mf_14, mf_15, mf_16, mf_17, mf_18, mf_19, mf_20, mf_21, mf_22, mf_23, mf_24, mf_25, mf_26, mf_27, mf_28, mf_29, mf_30, mf_31, mf_32, mf_33, mf_34, mf_35, mf_36, mf_37, mf_38, mf_39, mf_40, mf_41, mf_42, mf_43, mf_44, mf_45, mf_46, mf_47, mf_48, mf_49, mf_50, mf_51, mf_52, mf_53, mf_54, mf_55, mf_56, mf_57, mf_58, mf_59, mf_60, mf_61, mfs_0, mfs_2, mfs_17, mfs_20, mfs_26, mfs_32, mfs_34, mfs_36, mfs_38, mfs_43, mfs_44, mfs_45, mfs_46, mfs_47, iy_0, iy_1, iy_2, iy_3, iy_4, iy_5, iy_6, px_kill, idm_add]
      exact ih x (by omega) ha hb (by omega) h1 T1 w w1 w2 b6 fr sh
set_option maxRecDepth 16384 in
theorem m_dropBelow (h6 : h.2[619]? = some (.inl (11, modF V))) (hv : V 20 = nI n) (hv2 : V 32 = nI l) (hn : n ≤ 81) (w : mtE h D T) (hD : ∀ i, i < n → D i) (pt : mpt h p l) (hp : pth p l) (hab : a ≤ b) (hbn : b ≤ n) (hr : ∀ j, j < n → (blw p l (eP (T j)) ↔ a ≤ j ∧ j < b))
    (hQ : ∀ h' T', mtE h' D T' → (∀ i, i < n - (b - a) → T' i = cutE T a b i) → (∀ i, n ≤ i → T' i = T i) → h'.2[619]? = some (.inl (11, modF (px_up V 20 (nI (n - (b - a)))))) → frm mEB h h' → (shape h → shape h') → Q (.inl none) h') :
    px_Wp sx 185 0 [some (.ref 619), none] [] h Q := by
  simp only [pc185_0, pc185_0n, pc185_1, pc185_4, pc185_5, pc185_6, px_op_some, px_kv_ap, px_ki_ap, px_kl_ap, px_kn_ap, px_kh_ap, px_op_none, px_K_some, px_K_none, px_K_thr, px_kill, ↓reduceIte, if_true, if_false, true_and, and_true, px_gf, h6, mf_20, hv, px_kill, idm_sub]
  refine m_db_l h6 hv2 hn hD pt hp hab hbn hr hQ n b (Nat.le_refl _) hab (Nat.le_refl _) (.inl ⟨rfl, hbn⟩) h T w (fun i hi => (cutE_in (.inr rfl)).symm) (fun i _ => rfl) ?_ (frm_refl _ _) (fun s => s)
  rw [Nat.sub_self, Nat.sub_zero, up_id hv]; exact h6
set_option maxRecDepth 16384 in
theorem m_mk_l3 {k : Nat} {P g : Nat → Int32} (hl : 637 < h.2.length) (h6 : h.2[619]? = some (.inl (11, modF V))) (hv2 : V 32 = nI l) (hg : h.2[647]? = some (.inr (1, 240, .inl g))) (hk : k < 82) (l35 : l ≤ 35)
    (hQ : ∀ P', (∀ j, j < l → P' (36 * k + j) = g j) → (∀ i, i < 36 * k ∨ 36 * k + l ≤ i → P' i = P i) → px_Wp sx 189 139 [some (.ref 619), some (.int (-1)), some (.int (nI k)), some (.int (nI l))] [] (px_wr h 637 (.inr (1, 2952, .inl P'))) Q) :
    ∀ d i, i + d = l → ∀ Pk, (∀ j, j < i → Pk (36 * k + j) = g j) → (∀ j, j < 36 * k ∨ 36 * k + i ≤ j → Pk j = P j) → px_Wp sx 189 108 [some (.ref 619), some (.int (-1)), some (.int (nI k)), some (.int (nI i))] [] (px_wr h 637 (.inr (1, 2952, .inl Pk))) Q := by
  have z7 : ∀ x : px_C, (px_wr h 637 x).2[637]? = some x := fun x => by rw [wr_at, if_pos rfl, if_pos hl]
  have z6 : ∀ x : px_C, (px_wr h 637 x).2[619]? = some (.inl (11, modF V)) := fun x => by rw [wr_at, if_neg (by decide)]; exact h6
  have z8 : ∀ x : px_C, (px_wr h 637 x).2[647]? = some (.inr (1, 240, .inl g)) := fun x => by rw [wr_at, if_neg (by decide)]; exact hg
  have n1 : ∀ x : Int32, px_nar 1 x = x := fun _ => rfl
  intro d
  induction d with
  | zero =>
    intro i hi Pk w1 w2
    have hi : i = l := by omega
    subst hi
    simp only [pc189_108, pc189_109, pc189_109n, pc189_110, pc189_113, px_op_some, px_kv_ap, px_ki_ap, px_kl_ap, px_kn_ap, px_kh_ap, px_op_none, px_K_some, px_K_none, px_K_thr, px_kill, ↓reduceIte, if_true, if_false, true_and, and_true, px_gf, z6, mf_32, hv2, if_pos (Int32.le_refl _)]
    exact hQ Pk w1 w2
  | succ d ih =>
    intro i hi Pk w1 w2
    have ge : ¬ nI l ≤ nI i := nI_ge (by omega) (by omega)
    have it : px_in (nI (36 * k + i)) 2952 = true := px_inb (by omega) (by decide)
    have ct : (nI (36 * k + i)).toNatClampNeg = 36 * k + i := nI_clamp (by omega)
    have ip : px_in (nI i) 240 = true := px_inb (by omega) (by decide)
    have cp : (nI i).toNatClampNeg = i := nI_clamp (by omega)
    rw [pc189_108]
    simp only [pc189_109, pc189_109n, pc189_110, pc189_113, pc189_116, pc189_116n, pc189_117, pc189_120, pc189_122, pc189_123, pc189_124, pc189_125, pc189_126, pc189_126n, pc189_127, pc189_130, pc189_131, pc189_132, pc189_133, pc189_136, px_op_some, px_kv_ap, px_ki_ap, px_kl_ap, px_kn_ap, px_kh_ap, px_op_none, px_K_some, px_K_none, px_K_thr, px_kill, ↓reduceIte, if_true, if_false, true_and, and_true, px_gf, px_ai, px_wi, tg_i1, z6, z7, z8, mf_21, mf_32, mf_33, hv2, ge, mul_36, nI_add, it, ct, ip, cp, n1, and_self, px_wr_wr, px_kill, nI_1]
    refine ih (i + 1) (by omega) _ (fun j hj => ?_) (fun j hj => ?_)
    · by_cases x : j = i
      · subst x; exact up_same _ _ _
      · rw [up_ne (by omega)]; exact w1 j (by omega)
    · rw [up_ne (by omega)]; exact w2 j (by omega)
set_option maxRecDepth 16384 in
theorem m_mk_t {k : Nat} {T1 : Nat → aE} {D1 : Nat → Prop} (h6 : h.2[619]? = some (.inl (11, modF V))) (hv : V 20 = nI n) (hv2 : V 32 = nI l) (hn : n ≤ 80) (hk : k < 82) (w : mtE h D1 T1) (pt : mpt h p l) (hp : pth p l)
    (hQ : ∀ h', mtE h' (fun i => D1 i ∨ i = k) (px_up T1 k (dirE l p)) → h'.2[619]? = some (.inl (11, modF (px_up V 20 (nI (n + 1))))) → frm mEB h h' → (shape h → shape h') → Q (.inl (some (.int (nI k)))) h') :
    px_Wp sx 189 72 [some (.ref 619), some (.int (-1)), some (.int (nI k)), none] [] h Q := by
  obtain ⟨P, LN, K, Z, C, ⟨a1, a2, a3, a4, a5⟩, w2⟩ := w
  obtain ⟨g, g1, g2⟩ := pt
  have l35 := hp.2.1
  have n1 : ∀ x : Int32, px_nar 1 x = x := fun _ => rfl
  have ik : px_in (nI k) 82 = true := px_inb hk (by decide)
  have ck : (nI k).toNatClampNeg = k := nI_clamp (by omega)
  have L6 : 619 < h.2.length := (List.getElem?_eq_some_iff.mp h6).1
  have L7 : 637 < h.2.length := (List.getElem?_eq_some_iff.mp a1).1
  have L8 : 638 < h.2.length := (List.getElem?_eq_some_iff.mp a2).1
  have L9 : 639 < h.2.length := (List.getElem?_eq_some_iff.mp a3).1
  have L10 : 640 < h.2.length := (List.getElem?_eq_some_iff.mp a4).1
  have v32 : px_up V 20 (nI (n + 1)) 32 = nI l := by rw [up_ne (by decide)]; exact hv2
  have key : ∀ h1 : px_H, h1.2[619]? = some (.inl (11, modF (px_up V 20 (nI (n + 1))))) → h1.2[637]? = some (.inr (1, 2952, .inl P)) → h1.2[638]? = some (.inr (1, 82, .inl (px_up LN k (nI l)))) → h1.2[639]? = some (.inr (1, 82, .inl (px_up K k 1))) → h1.2[640]? = some (.inr (1, 82, .inl (px_up Z k 0))) → h1.2[641]? = some (.inr (1, 82082, .inl C)) → h1.2[647]? = some (.inr (1, 240, .inl g)) → frm mEB h h1 → (shape h → shape h1) →
      px_Wp sx 189 108 [some (.ref 619), some (.int (-1)), some (.int (nI k)), some (.int 0)] [] h1 Q := by
    intro h1 b6 b7 b8 b9 b10 b11 bg fr1 sh1
    have M7 : 637 < h1.2.length := (List.getElem?_eq_some_iff.mp b7).1
    have e0 : px_wr h1 637 (.inr (1, 2952, .inl P)) = h1 := wr_id b7
    have go := m_mk_l3 (sx := sx) (h := h1) (k := k) (l := l) (P := P) (Q := Q) M7 b6 v32 bg hk l35 (fun P' p1 p2 => by
      simp only [pc189_139, pc189_140]
      refine hQ _ ⟨P', px_up LN k (nI l), px_up K k 1, px_up Z k 0, C, ⟨?_, ?_, ?_, ?_, ?_⟩, fun i hi => ?_⟩ ?_ (frm_wr fr1 (.inl ⟨by decide, by decide⟩)) (fun s => shape_ia (sh1 s) b7)
      · rw [wr_at, if_pos rfl, if_pos M7]
      · rw [wr_at, if_neg (by decide)]; exact b8
      · rw [wr_at, if_neg (by decide)]; exact b9
      · rw [wr_at, if_neg (by decide)]; exact b10
      · rw [wr_at, if_neg (by decide)]; exact b11
      · by_cases x : i = k
        · subst x
          rw [up_same]
          refine ⟨hk, ⟨hp, .inl ⟨rfl, rfl⟩⟩, by rw [up_same]; rfl, by rw [up_same]; rfl, by rw [up_same]; rfl, fun j hj => ?_, fun j hj => absurd hj (Nat.not_lt_zero j)⟩
          rw [p1 j hj]; exact g2 j hj
        · obtain ⟨i82, oki, s1, s2, s3, s4, s5⟩ := w2 i (hi.resolve_right x)
          have i35 := oki.1.2.1
          rw [up_ne x]
          exact ⟨i82, oki, by rw [up_ne x]; exact s1, by rw [up_ne x]; exact s2, by rw [up_ne x]; exact s3, fun j hj => by rw [p2 _ (by omega)]; exact s4 j hj, s5⟩
      · rw [wr_at, if_neg (by decide)]; exact b6) l 0 (by omega) P (fun j hj => absurd hj (Nat.not_lt_zero j)) (fun i _ => rfl)
    rw [e0] at go
    exact go
  simp only [pc189_72, pc189_72n, pc189_73, pc189_73r, pc189_74, pc189_77, pc189_78, pc189_79, pc189_82, pc189_82n, pc189_83, pc189_86, pc189_87, pc189_87n, pc189_88, pc189_91, pc189_92, pc189_92n, pc189_93, pc189_96, pc189_97, pc189_98, pc189_99, pc189_99n, pc189_100, pc189_103, pc189_104, pc189_105, pc189_106, pc189_107, px_op_some, px_kv_ap, px_ki_ap, px_kl_ap, px_kn_ap, px_kh_ap, px_op_none, px_K_some, px_K_none, px_K_thr, px_kill, ↓reduceIte, if_true, if_false, true_and, and_true, px_gf, px_pf, px_ai, px_wi, yr_0, yr_1, tr_0, tr_1, tr_2, tr_3, px_rf, of_2, of_4, in_02, in_12, in_04, in_14, in_24, in_34, Nat.reduceLeDiff, in_01, lgc_self, Int32.reduceToNatClampNeg, wr_at, al_at, px_wr_len, px_al_len, px_wr_1, px_al_1, tg_0, tg_1, tg_2, tg_3, tg_12, tg_15, tg_17, tg_18, tg_i1, tg_b0, tg_b3, px_fit, Nat.reduceEqDiff, Nat.reduceLT, Nat.reduceAdd, Option.some.injEq, up_at, px_wr_wr, i32_le, Int32.reduceLE, Int32.reduceLT, mf_len, nar_0, nar_1, px_KH_some, px_KH_none, px_KH_thr, List.length_cons, List.length_nil, List.getElem?_cons_zero, List.getElem?_cons_succ, List.set_cons_zero, List.set_cons_succ, ↓reduceIte, Nat.lt_irrefl, ne_0_1, ne_0_2, ne_0_3, ne_0_4, ne_0_5, ne_1_0, ne_1_2, ne_1_3, ne_1_4, ne_1_5, ne_2_0, ne_2_1, ne_2_3, ne_2_4, ne_2_5, ne_3_0, ne_3_1, ne_3_2, ne_3_4, ne_3_5, ne_4_0, ne_4_1, ne_4_2, ne_4_3, ne_4_5, ne_5_0, ne_5_1, ne_5_2, ne_5_3, ne_5_4, hd_256_12, hd_256_16, hd_257_12, hd_258_12, hd_259_12, hd_260_12, hd_261_12, hd_261_13, hd_261_16, hd_262_12, hd_262_13, hd_262_16, hd_263_12, hd_263_13, hd_264_12, hd_264_13, hd_264_14, hd_265_12, hd_265_13, hd_265_14, hd_266_12, hd_267_12, hd_267_13, hd_267_14, hd_268_12, hd_269_12, hd_269_14, hd_270_12, hd_271_12, hd_272_12, hd_273_12, hd_273_13, hd_273_15, hd_274_12, hd_274_15, hd_275_12, hd_275_15, hd_276_12, nI_p1, nI_p2, nI_p3, nI_p4, nI_p5, not_true_eq_false, not_false_eq_true, and_self, mf_0, mf_1, mf_2, mf_3, mf_4, mf_5, mf_6, mf_7, mf_8, mf_9, mf_10, mf_11, mf_12, mf_13, mf_14, mf_15, mf_16, mf_17, mf_18, mf_19, mf_20, mf_21, mf_22, mf_23, mf_24, mf_25, mf_26, mf_27, mf_28, mf_29, mf_30, mf_31, mf_32, mf_33, mf_34, mf_35, mf_36, mf_37, mf_38, mf_39, mf_40, mf_41, mf_42, mf_43, mf_44, mf_45, mf_46, mf_47, mf_48, mf_49, mf_50, mf_51, mf_52, mf_53, mf_54, mf_55, mf_56, mf_57, mf_58, mf_59, mf_60, mf_61, mfs_0, mfs_2, mfs_17, mfs_20, mfs_26, mfs_32, mfs_34, mfs_36, mfs_38, mfs_43, mfs_44, mfs_45, mfs_46, mfs_47, iy_0, iy_1, iy_2, iy_3, iy_4, iy_5, iy_6, h6, hv, hv2, nI_1, v32, a2, a3, a4, ik, ck, n1, L6, L8, L9, L10, px_kill]
  refine key _ ?_ ?_ ?_ ?_ ?_ ?_ ?_ (frm_wr (frm_wr (frm_wr (frm_wr (frm_refl _ _) (.inr rfl)) (.inl ⟨by decide, by decide⟩)) (.inl ⟨by decide, by decide⟩)) (.inl ⟨by decide, by decide⟩)) (fun s => shape_ia (shape_ia (shape_ia (shape_int (k := 20) s h6 rfl) (by rw [wr_at, if_neg (by decide)]; exact a2)) (by rw [wr_at, if_neg (by decide), wr_at, if_neg (by decide)]; exact a3)) (by rw [wr_at, if_neg (by decide), wr_at, if_neg (by decide), wr_at, if_neg (by decide)]; exact a4))
  · rw [wr_at, if_neg (by decide), wr_at, if_neg (by decide), wr_at, if_neg (by decide), wr_at, if_pos rfl, if_pos L6]
  · rw [wr_at, if_neg (by decide), wr_at, if_neg (by decide), wr_at, if_neg (by decide), wr_at, if_neg (by decide)]; exact a1
  · rw [wr_at, if_neg (by decide), wr_at, if_neg (by decide), wr_at, if_pos rfl, if_pos (by rw [px_wr_len]; exact L8)]
  · rw [wr_at, if_neg (by decide), wr_at, if_pos rfl, if_pos (by rw [px_wr_len, px_wr_len]; exact L9)]
  · rw [wr_at, if_pos rfl, if_pos (by rw [px_wr_len, px_wr_len, px_wr_len]; exact L10)]
  · rw [wr_at, if_neg (by decide), wr_at, if_neg (by decide), wr_at, if_neg (by decide), wr_at, if_neg (by decide)]; exact a5
  · rw [wr_at, if_neg (by decide), wr_at, if_neg (by decide), wr_at, if_neg (by decide), wr_at, if_neg (by decide)]; exact g1
set_option maxRecDepth 16384 in
theorem m_mk_l (h6 : h.2[619]? = some (.inl (11, modF V))) (hv2 : V 32 = nI l) (hn : n ≤ 80) (hD : ∀ i, i < n → D i) (srt : ∀ i j, i < j → j < n → plt (eP (T i)) (eP (T j))) (no : ∀ i, i < n → ¬ eP (T i) = p) (pt : mpt h p l) (hp : pth p l)
    (hQ : ∀ k h1, gapE n T p k → mtE h1 (fun i => D i ∨ k < n ∧ i = n) (shiftE T n k) → frm mEA h h1 → (shape h → shape h1) → px_Wp sx 189 72 [some (.ref 619), some (.int (-1)), some (.int (nI k)), none] [] h1 Q) :
    ∀ k, k ≤ n → (∀ i, k ≤ i → i < n → plt p (eP (T i))) → ∀ h1, mtE h1 (fun i => D i ∨ k < n ∧ i = n) (shiftE T n k) → frm mEA h h1 → (shape h → shape h1) → px_Wp sx 189 20 [some (.ref 619), some (.int (-1)), some (.int (nI k)), none] [] h1 Q := by
  intro k
  induction k with
  | zero =>
    intro hk hg h1 w fr sh
    simp only [pc189_20, pc189_21, nI_0, Int32.le_refl, if_true]
    refine hQ 0 h1 ⟨Nat.zero_le _, fun i hi => absurd hi (Nat.not_lt_zero i), hg⟩ w fr sh
  | succ k ih =>
    intro hk hg h1 w fr sh
    have nle : ¬ nI (k + 1) ≤ 0 := nI_nle (by omega) (by omega)
    have s1 : nI (k + 1) - 1 = nI k := nI_pred k
    have b6 := (fr.2.2 619 (by unfold mEA; omega)).trans h6
    have pt1 : mpt h1 p l := mpt_frm pt (fr.2.2 647 (by unfold mEA; omega))
    have hcls : px_cls h1 619 = some 11 := by unfold px_cls; rw [b6]
    have w' := w
    obtain ⟨P, LN, K, Z, C, ⟨a1, a2, a3, a4, a5⟩, w2⟩ := w'
    obtain ⟨g, g1, g2⟩ := pt1
    obtain ⟨i82, ok, r1, r2, r3, r4, r5⟩ := w2 k (.inl (hD k (by omega)))
    have tk : shiftE T n (k + 1) k = T k := by unfold shiftE; rw [if_neg (by omega)]
    rw [tk] at ok r1 r4
    have l35 := ok.1.2.1
    have p35 := hp.2.1
    have ik : px_in (nI k) 82 = true := px_inb (by omega) (by decide)
    have ck : (nI k).toNatClampNeg = k := nI_clamp (by omega)
    rw [pc189_20]
    simp only [pc189_21, pc189_24, pc189_24n, pc189_25, pc189_25n, pc189_26, pc189_29, pc189_31, pc189_32, pc189_33, pc189_34, pc189_35, pc189_35n, pc189_36, pc189_39, pc189_40, pc189_41, pc189_42, pc189_43, pc189_43n, pc189_44, pc189_47, pc189_48, pc189_48n, pc189_49, pc189_52, px_op_some, px_kv_ap, px_ki_ap, px_kl_ap, px_kn_ap, px_kh_ap, px_op_none, px_K_some, px_K_none, px_K_thr, px_kill, ↓reduceIte, if_true, if_false, true_and, and_true, px_gf, px_ai, tg_i1, b6, mf_21, mf_22, mf_32, mf_33, hv2, nle, s1, mul_36, a2, ik, ck, r1, and_self, hcls]
    refine m_compare (b := 0) (p := eP (T k)) (q := p) a1 g1 (by decide) (by decide) (by omega) (by omega) (pth_rng ok.1) (pth_rng hp) r4 (fun j hj => by rw [Nat.zero_add]; exact g2 j hj) (fun y hy => ?_)
    rcases hy with ⟨-, hy⟩ | ⟨y1, hy⟩ | ⟨y1, hy⟩
    · exact absurd hy (no k (by omega))
    · have yl : y ≤ 0 := Int32.le_of_lt y1
      simp only [px_K_some, pc189_55, yl, if_true]
      refine hQ (k + 1) h1 ⟨hk, fun i hi => ?_, hg⟩ w fr sh
      by_cases x : i = k
      · subst x; exact hy
      · exact plt_trans (srt i k (by omega) (by omega)) hy
    · have yl : ¬ y ≤ 0 := fun z => Int32.lt_irrefl (Int32.lt_of_lt_of_le y1 z)
      simp only [px_K_some, pc189_55, pc189_58, pc189_58n, pc189_59, pc189_60, pc189_61, pc189_62, pc189_63, px_op_some, px_kv_ap, px_ki_ap, px_kl_ap, px_kn_ap, px_kh_ap, px_op_none, px_K_some, px_K_none, px_K_thr, px_kill, ↓reduceIte, if_true, if_false, true_and, and_true, yl, s1, hcls]
      refine m_moveEntry b6 w (.inl (hD k (by omega))) (by omega) (by omega) (fun h2 w3 fr2 sh2 => ?_)
      simp only [px_K_none, pc189_66, pc189_69, px_kill, nI_m1]
      refine ih (by omega) (fun i i1 i2 => ?_) h2 (mtE_mono w3 (fun i hi => ⟨?_, ?_⟩)) (frm_trans fr fr2) (fun s => sh2 (sh s))
      · by_cases x : i = k
        · subst x; exact hy
        · exact hg i (by omega) i2
      · rcases hi with hi | ⟨-, hi⟩
        · exact .inl (.inl hi)
        · by_cases z : k + 1 < n
          · exact .inl (.inr ⟨z, hi⟩)
          · exact .inr (by omega)
      · rw [shiftE_up hk]
set_option maxRecDepth 16384 in
theorem m_make_new (h6 : h.2[619]? = some (.inl (11, modF V))) (hv : V 20 = nI n) (hv2 : V 32 = nI l) (hn : n ≤ 80) (w : mtE h D T) (hD : ∀ i, i < n → D i) (srt : ∀ i j, i < j → j < n → plt (eP (T i)) (eP (T j))) (no : ∀ i, i < n → ¬ eP (T i) = p) (pt : mpt h p l) (hp : pth p l)
    (hQ : ∀ k h', gapE n T p k → mtE h' (fun i => D i ∨ i = n) (px_up (shiftE T n k) k (dirE l p)) → h'.2[619]? = some (.inl (11, modF (px_up V 20 (nI (n + 1))))) → frm mEB h h' → (shape h → shape h') → Q (.inl (some (.int (nI k)))) h') :
    px_Wp sx 189 0 [some (.ref 619), none, none, none] [] h Q := by
  have hcls : px_cls h 619 = some 11 := by unfold px_cls; rw [h6]
  have l35 := hp.2.1
  have neg : (-1 : Int32) < 0 := by decide
  simp only [pc189_0, pc189_0n, pc189_1, pc189_1n, pc189_2, pc189_5, px_op_some, px_kv_ap, px_ki_ap, px_kl_ap, px_kn_ap, px_kh_ap, px_op_none, px_K_some, px_K_none, px_K_thr, px_kill, ↓reduceIte, if_true, if_false, true_and, and_true, px_gf, h6, mf_32, hv2, hcls]
  refine m_entryOf h6 hv (by omega) w hD pt (pth_rng hp) (by omega) (Nat.le_refl _) (fun x hx => ?_)
  rw [cutP_all hp] at hx
  rcases hx with ⟨i, i1, i2, -⟩ | ⟨-, rfl⟩
  · exact absurd i2 (no i i1)
  simp only [px_K_some, pc189_8, pc189_9, pc189_10, pc189_15, pc189_15n, pc189_16, pc189_19, px_op_some, px_kv_ap, px_ki_ap, px_kl_ap, px_kn_ap, px_kh_ap, px_op_none, px_K_some, px_K_none, px_K_thr, px_kill, ↓reduceIte, if_true, if_false, true_and, and_true, px_gf, h6, mf_20, hv, neg, px_kill]
  refine m_mk_l h6 hv2 hn hD srt no pt hp (fun k h1 gp w1 fr1 sh1 => ?_) n (Nat.le_refl _) (fun i a b => absurd a (by omega)) h (mtE_mono w (fun i hi => ⟨hi.resolve_right (by omega), by rw [shiftE_n]⟩)) (frm_refl _ _) (fun s => s)
  have b6 := (fr1.2.2 619 (by unfold mEA; omega)).trans h6
  have pt1 : mpt h1 p l := mpt_frm pt (fr1.2.2 647 (by unfold mEA; omega))
  have kn := gp.1
  refine m_mk_t b6 hv hv2 hn (by omega) w1 pt1 hp (fun h2 w2 b62 fr2 sh2 => ?_)
  refine hQ k h2 gp (mtE_mono w2 (fun i hi => ⟨?_, rfl⟩)) b62 (frm_trans (frm_mono fr1 (fun r hr => .inl hr)) fr2) (fun s => sh2 (sh1 s))
  rcases hi with hi | hi
  · exact .inl (.inl hi)
  · by_cases z : k < n
    · exact .inl (.inr ⟨z, hi⟩)
    · exact .inr (by omega)
set_option maxRecDepth 16384 in
theorem m_make_old {i : Nat} (h6 : h.2[619]? = some (.inl (11, modF V))) (hv : V 20 = nI n) (hv2 : V 32 = nI l) (hn : n ≤ 80) (w : mtE h D T) (hD : ∀ i, i < n → D i) (srt : ∀ i j, i < j → j < n → plt (eP (T i)) (eP (T j))) (hi : i < n) (ei : eP (T i) = p) (pt : mpt h p l) (hp : pth p l)
    (hQ : Q (.inl (some (.int (nI i)))) h) :
    px_Wp sx 189 0 [some (.ref 619), none, none, none] [] h Q := by
  have hcls : px_cls h 619 = some 11 := by unfold px_cls; rw [h6]
  have l35 := hp.2.1
  simp only [pc189_0, pc189_0n, pc189_1, pc189_1n, pc189_2, pc189_5, px_op_some, px_kv_ap, px_ki_ap, px_kl_ap, px_kn_ap, px_kh_ap, px_op_none, px_K_some, px_K_none, px_K_thr, px_kill, ↓reduceIte, if_true, if_false, true_and, and_true, px_gf, h6, mf_32, hv2, hcls]
  refine m_entryOf h6 hv (by omega) w hD pt (pth_rng hp) (by omega) (Nat.le_refl _) (fun x hx => ?_)
  rw [cutP_all hp] at hx
  rcases hx with ⟨j, j1, j2, rfl⟩ | ⟨j1, -⟩
  · have : j = i := by
      rcases Nat.lt_trichotomy j i with x | x | x
      · have := srt j i x hi; rw [j2, ei] at this; exact absurd this (plt_irr _)
      · exact x
      · have := srt i j x j1; rw [j2, ei] at this; exact absurd this (plt_irr _)
    subst this
    have pos : ¬ nI j < 0 := nI_pos (by omega)
    simp only [px_K_some, pc189_8, pc189_9, pc189_10, pc189_13, pc189_14, px_op_some, px_kv_ap, px_ki_ap, px_kl_ap, px_kn_ap, px_kh_ap, px_op_none, px_K_some, px_K_none, px_K_thr, px_kill, ↓reduceIte, if_true, if_false, true_and, and_true, pos, px_kill]
    exact hQ
  · exact absurd ei (j1 i hi)
end MMAKE
