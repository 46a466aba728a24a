/-! SETTINGS, the reference's -/
set_option maxRecDepth 16384 in
theorem nar1 (x : Int32) : px_nar 1 x = x := rfl
set_option maxRecDepth 16384 in
theorem mul_8n (i : Nat) : 8 * nI i = nI (8 * i) := nI_mul 8 i
set_option maxRecDepth 16384 in
theorem mul_12n (i : Nat) : 12 * nI i = nI (12 * i) := nI_mul 12 i
/-- a name is found or not -/
def fnR (x : Int32) (n : Nat) (m : aM) (q : Nat → Nat) : Prop := (∃ i, i < n ∧ iN m i = q ∧ x = nI i) ∨ (∀ i, i < n → ¬ iN m i = q) ∧ x = -1
def stR (NM NS VL VS : Nat → Int32) (m : aM) (j' j : Nat) : Prop := NS j' = nI (iNl m j) ∧ VS j' = nI (iVl m j) ∧ (∀ k, k < iNl m j → NM (8 * j' + k) = nI (iN m j k)) ∧ ∀ k, k < iVl m j → VL (12 * j' + k) = nI (iV m j k)
def cpF (A : Nat → Int32) (to fm c : Nat) : Nat → Int32 := fun x => if to ≤ x ∧ x < to + c then A (fm + (x - to)) else A x
set_option maxRecDepth 16384 in
theorem cpF_0 {A : Nat → Int32} {to fm : Nat} : cpF A to fm 0 = A := funext fun x => if_neg (by omega)
set_option maxRecDepth 16384 in
theorem cpF_s {A : Nat → Int32} {to fm c : Nat} : px_up (cpF A to fm c) (to + c) (A (fm + c)) = cpF A to fm (c + 1) := by
  funext x
  by_cases e : x = to + c
  · subst e
    rw [up_same]
    unfold cpF
    rw [if_pos ⟨by omega, by omega⟩, Nat.add_sub_cancel_left]
  · rw [up_ne e]
    unfold cpF
    by_cases y : to ≤ x ∧ x < to + c
    · rw [if_pos y, if_pos ⟨y.1, by omega⟩]
    · rw [if_neg y, if_neg (fun z => y ⟨z.1, by omega⟩)]
set_option maxRecDepth 16384 in
theorem cpF_out {A : Nat → Int32} {to fm c x : Nat} (h : ¬ (to ≤ x ∧ x < to + c)) : cpF A to fm c x = A x := if_neg h
set_option maxRecDepth 16384 in
theorem cpF_in {A : Nat → Int32} {to fm c k : Nat} (h : k < c) : cpF A to fm c (to + k) = A (fm + k) := by
  unfold cpF; rw [if_pos ⟨by omega, by omega⟩, Nat.add_sub_cancel_left]
section MSET
variable {sx : Nat × (Nat → Int32)} {h h0 : px_H} {V NM NS VL VS g : Nat → Int32} {L : Nat → Int64} {n s c t : Nat} {B : Nat → Nat} {m : aM} {Q : px_O → px_H → Prop}
set_option maxRecDepth 16384 in
theorem m_setting_l (h6 : h.2[619]? = some (.inl (11, modF V))) (hv : V 38 = nI (iS m)) (ok : imOK m) (c0 : h.2[650]? = some (.inr (1, 56, .inl NM))) (c1 : h.2[651]? = some (.inr (1, 7, .inl NS))) (rows : ∀ i, i < iS m → stR NM NS VL VS m i i) (hA : h.2[620]? = some (.inr (1, 600, .inl g))) (hB : txM g n B) (hn : n ≤ 600) (hq : ltr (patF B s c) c) (hc : s + c ≤ n)
    (hQ : ∀ x, fnR x (iS m) m (patF B s c) → Q (.inl (some (.int x))) h) :
    ∀ d i, i + d = iS m → ∀ x, fnR x i m (patF B s c) → px_Wp sx 161 6 [some (.ref 619), some (.ref 620), some (.int (nI s)), some (.int (nI (s + c))), some (.int x), some (.int (nI i))] [] h Q := by
  have o6 := ok.2.1
  have sb : nI (s + c) - nI s = nI c := by rw [nI_sub (by omega), Nat.add_sub_cancel_left]
  intro d
  induction d with
  | zero =>
    intro i hi x wx
    have e : i = iS m := by omega
    have le : nI (iS m) ≤ nI i := nI_le (by omega) (by omega)
    simp only [pc161_6, pc161_8, pc161_8n, pc161_9, pc161_12, pc161_58, pc161_60, px_op_some, px_kv_ap, px_ki_ap, px_kl_ap, px_kn_ap, px_kh_ap, px_op_none, px_K_some, px_K_none, px_K_thr, px_kill, ↓reduceIte, if_true, if_false, true_and, and_true, px_gf, h6, mf_38, hv, le]
    rw [e] at wx
    exact hQ x wx
  | succ d ih =>
    intro i hi x wx
    have ge : ¬ nI (iS m) ≤ nI i := nI_ge (by omega) (by omega)
    obtain ⟨⟨l1, l2, -, -⟩, lt, -⟩ := ok.2.2.1 i (by omega)
    obtain ⟨r1, r2, r3, r4⟩ := rows i (by omega)
    have ii : px_in (nI i) 7 = true := px_inb (by omega) (by decide)
    have ci : (nI i).toNatClampNeg = i := nI_clamp (by omega)
    have hcls : px_cls h 619 = some 11 := by unfold px_cls; rw [h6]
    rw [pc161_6]
    simp only [pc161_8, pc161_8n, pc161_9, pc161_12, pc161_15, pc161_15n, pc161_16, pc161_16n, pc161_17, pc161_20, pc161_22, pc161_24, pc161_25, pc161_25n, pc161_26, pc161_29, pc161_31, pc161_32, pc161_32n, pc161_33, pc161_34, pc161_35, pc161_36, pc161_37, px_op_some, px_kv_ap, px_ki_ap, px_kl_ap, px_kn_ap, px_kh_ap, px_op_none, px_K_some, px_K_none, px_K_thr, px_kill, ↓reduceIte, if_true, if_false, true_and, and_true, px_gf, px_ai, h6, mf_38, mf_39, mf_40, hv, ge, mul_8n, c1, ii, ci, r1, sb, tg_i1, and_self, hcls, px_kill]
    refine m_compare (p := iN m i) (q := patF B s c) c0 hA (by decide) (by decide) (by omega) (by omega) (ltr_sgs lt) (ltr_sgs hq) r3 (fun j hj => by rw [patF_lt hj]; exact (hB _ (by omega)).1) (fun y hy => ?_)
    rcases hy with ⟨rfl, hy⟩ | hy
    · simp only [px_K_some, pc161_40, pc161_43, pc161_45, pc161_48, pc161_50, pc161_52, pc161_55, px_op_some, px_kv_ap, px_ki_ap, px_kl_ap, px_kn_ap, px_kh_ap, px_op_none, px_K_some, px_K_none, px_K_thr, px_kill, ↓reduceIte, if_true, if_false, true_and, and_true, yr_0, yr_1, tr_0, tr_1, tr_2, tr_3, px_rf, of_2, of_4, in_02, in_12, in_04, in_14, in_24, in_34, Nat.reduceLeDiff, in_01, lgc_self, Int32.reduceToNatClampNeg, wr_at, al_at, px_wr_len, px_al_len, px_wr_1, px_al_1, tg_0, tg_1, tg_2, tg_3, tg_12, tg_15, tg_17, tg_18, tg_i1, tg_b0, tg_b3, px_fit, Nat.reduceEqDiff, Nat.reduceLT, Nat.reduceAdd, Option.some.injEq, up_at, px_wr_wr, i32_le, Int32.reduceLE, Int32.reduceLT, mf_len, nar_0, nar_1, px_KH_some, px_KH_none, px_KH_thr, List.length_cons, List.length_nil, List.getElem?_cons_zero, List.getElem?_cons_succ, List.set_cons_zero, List.set_cons_succ, ↓reduceIte, Nat.lt_irrefl, ne_0_1, ne_0_2, ne_0_3, ne_0_4, ne_0_5, ne_1_0, ne_1_2, ne_1_3, ne_1_4, ne_1_5, ne_2_0, ne_2_1, ne_2_3, ne_2_4, ne_2_5, ne_3_0, ne_3_1, ne_3_2, ne_3_4, ne_3_5, ne_4_0, ne_4_1, ne_4_2, ne_4_3, ne_4_5, ne_5_0, ne_5_1, ne_5_2, ne_5_3, ne_5_4, hd_256_12, hd_256_16, hd_257_12, hd_258_12, hd_259_12, hd_260_12, hd_261_12, hd_261_13, hd_261_16, hd_262_12, hd_262_13, hd_262_16, hd_263_12, hd_263_13, hd_264_12, hd_264_13, hd_264_14, hd_265_12, hd_265_13, hd_265_14, hd_266_12, hd_267_12, hd_267_13, hd_267_14, hd_268_12, hd_269_12, hd_269_14, hd_270_12, hd_271_12, hd_272_12, hd_273_12, hd_273_13, hd_273_15, hd_274_12, hd_274_15, hd_275_12, hd_275_15, hd_276_12, nI_p1, nI_p2, nI_p3, nI_p4, nI_p5, not_true_eq_false, not_false_eq_true, and_self, mf_0, mf_1, mf_2, mf_3, mf_4, mf_5, mf_6, mf_7, mf_8, mf_9, mf_10, mf_11, mf_12, mf_13, mf_14, mf_15, mf_16, mf_17, mf_18, mf_19, mf_20, mf_21, mf_22, mf_23, mf_24, mf_25, mf_26, mf_27, mf_28, mf_29, mf_30, mf_31, mf_32, mf_33, mf_34, mf_35, mf_36, mf_37, mf_38, mf_39, mf_40, mf_41, mf_42, mf_43, mf_44, mf_45, mf_46, mf_47, mf_48, mf_49, mf_50, mf_51, mf_52, mf_53, mf_54, mf_55, mf_56, mf_57, mf_58, mf_59, mf_60, mf_61, mfs_0, mfs_2, mfs_17, mfs_20, mfs_26, mfs_32, mfs_34, mfs_36, mfs_38, mfs_43, mfs_44, mfs_45, mfs_46, mfs_47, iy_0, iy_1, iy_2, iy_3, iy_4, iy_5, iy_6, px_kill, nI_1]
      exact ih (i + 1) (by omega) _ (.inl ⟨i, by omega, hy, rfl⟩)
    · have ny : ¬ y = 0 := fun z => by
        subst z
        rcases hy with ⟨y1, -⟩ | ⟨y1, -⟩ <;> exact Int32.lt_irrefl y1
      have ne : ¬ iN m i = patF B s c := fun z => by
        rw [z] at hy
        rcases hy with ⟨-, y1⟩ | ⟨-, y1⟩ <;> exact plt_irr _ y1
      simp only [px_K_some, pc161_40, pc161_48, pc161_50, pc161_52, pc161_55, px_op_some, px_kv_ap, px_ki_ap, px_kl_ap, px_kn_ap, px_kh_ap, px_op_none, px_K_some, px_K_none, px_K_thr, px_kill, ↓reduceIte, if_true, if_false, true_and, and_true, yr_0, yr_1, tr_0, tr_1, tr_2, tr_3, px_rf, of_2, of_4, in_02, in_12, in_04, in_14, in_24, in_34, Nat.reduceLeDiff, in_01, lgc_self, Int32.reduceToNatClampNeg, wr_at, al_at, px_wr_len, px_al_len, px_wr_1, px_al_1, tg_0, tg_1, tg_2, tg_3, tg_12, tg_15, tg_17, tg_18, tg_i1, tg_b0, tg_b3, px_fit, Nat.reduceEqDiff, Nat.reduceLT, Nat.reduceAdd, Option.some.injEq, up_at, px_wr_wr, i32_le, Int32.reduceLE, Int32.reduceLT, mf_len, nar_0, nar_1, px_KH_some, px_KH_none, px_KH_thr, List.length_cons, List.length_nil, List.getElem?_cons_zero, List.getElem?_cons_succ, List.set_cons_zero, List.set_cons_succ, ↓reduceIte, Nat.lt_irrefl, ne_0_1, ne_0_2, ne_0_3, ne_0_4, ne_0_5, ne_1_0, ne_1_2, ne_1_3, ne_1_4, ne_1_5, ne_2_0, ne_2_1, ne_2_3, ne_2_4, ne_2_5, ne_3_0, ne_3_1, ne_3_2, ne_3_4, ne_3_5, ne_4_0, ne_4_1, ne_4_2, ne_4_3, ne_4_5, ne_5_0, ne_5_1, ne_5_2, ne_5_3, ne_5_4, hd_256_12, hd_256_16, hd_257_12, hd_258_12, hd_259_12, hd_260_12, hd_261_12, hd_261_13, hd_261_16, hd_262_12, hd_262_13, hd_262_16, hd_263_12, hd_263_13, hd_264_12, hd_264_13, hd_264_14, hd_265_12, hd_265_13, hd_265_14, hd_266_12, hd_267_12, hd_267_13, hd_267_14, hd_268_12, hd_269_12, hd_269_14, hd_270_12, hd_271_12, hd_272_12, hd_273_12, hd_273_13, hd_273_15, hd_274_12, hd_274_15, hd_275_12, hd_275_15, hd_276_12, nI_p1, nI_p2, nI_p3, nI_p4, nI_p5, not_true_eq_false, not_false_eq_true, and_self, mf_0, mf_1, mf_2, mf_3, mf_4, mf_5, mf_6, mf_7, mf_8, mf_9, mf_10, mf_11, mf_12, mf_13, mf_14, mf_15, mf_16, mf_17, mf_18, mf_19, mf_20, mf_21, mf_22, mf_23, mf_24, mf_25, mf_26, mf_27, mf_28, mf_29, mf_30, mf_31, mf_32, mf_33, mf_34, mf_35, mf_36, mf_37, mf_38, mf_39, mf_40, mf_41, mf_42, mf_43, mf_44, mf_45, mf_46, mf_47, mf_48, mf_49, mf_50, mf_51, mf_52, mf_53, mf_54, mf_55, mf_56, mf_57, mf_58, mf_59, mf_60, mf_61, mfs_0, mfs_2, mfs_17, mfs_20, mfs_26, mfs_32, mfs_34, mfs_36, mfs_38, mfs_43, mfs_44, mfs_45, mfs_46, mfs_47, iy_0, iy_1, iy_2, iy_3, iy_4, iy_5, iy_6, ny, px_kill, nI_1]
      refine ih (i + 1) (by omega) _ ?_
      rcases wx with ⟨j, j1, j2, j3⟩ | ⟨j1, j2⟩
      · exact .inl ⟨j, by omega, j2, j3⟩
      · refine .inr ⟨fun j hj => ?_, j2⟩
        by_cases z : j = i
        · subst z; exact ne
        · exact j1 j (by omega)
set_option maxRecDepth 16384 in
theorem m_setting (h6 : h.2[619]? = some (.inl (11, modF V))) (im : imR h V m) (ok : imOK m) (hA : h.2[620]? = some (.inr (1, 600, .inl g))) (hB : txM g n B) (hn : n ≤ 600) (hq : ltr (patF B s c) c) (hc : s + c ≤ n)
    (hQ : ∀ x, fnR x (iS m) m (patF B s c) → Q (.inl (some (.int x))) h) : px_Wp sx 161 0 [some (.ref 619), some (.ref 620), some (.int (nI s)), some (.int (nI (s + c))), none, none] [] h Q := by
  obtain ⟨v1, v2, L, NM, NS, VL, VS, -, c0, c1, -, -, -, rows⟩ := im
  simp only [pc161_0, pc161_1, pc161_3, pc161_4, px_kill]
  exact m_setting_l h6 v2 ok c0 c1 rows hA hB hn hq hc hQ (iS m) 0 (by omega) _ (.inr ⟨fun i hi => absurd hi (Nat.not_lt_zero i), rfl⟩)
set_option maxRecDepth 16384 in
theorem m_shift_l1 {h1 : px_H} (w : mtS h0 h1 V L NM NS VL VS) (ht : t < 6) (hQ : ∀ h2, mtS h0 h2 V L (cpF NM (8 * t + 8) (8 * t) 8) NS VL VS → px_Wp sx 164 67 [some (.ref 619), some (.int (nI t)), some (.int 8)] [] h2 Q) :
    ∀ d k, k + d = 8 → ∀ h2, mtS h0 h2 V L (cpF NM (8 * t + 8) (8 * t) k) NS VL VS → px_Wp sx 164 30 [some (.ref 619), some (.int (nI t)), some (.int (nI k))] [] h2 Q := by
  intro d
  induction d with
  | zero =>
    intro k hk h2 w2
    have hk : k = 8 := by omega
    subst hk
    simp only [pc164_30, pc164_31, pc164_33, px_op_some, px_kv_ap, px_ki_ap, px_kl_ap, px_kn_ap, px_kh_ap, px_op_none, px_K_some, px_K_none, px_K_thr, px_kill, ↓reduceIte, if_true, if_false, true_and, and_true, show ((8 : Int32) ≤ nI 8) = True from eq_true (by decide)]
    exact hQ h2 w2
  | succ d ih =>
    intro k hk h2 w2
    have w2' := w2
    obtain ⟨a1, a2, a3, bL, bNM, bNS, bVL, bVS⟩ := w2'
    have ge : ¬ (8 : Int32) ≤ nI k := nI_ge (b := 8) (by omega) (by decide)
    have e1 : nI (8 * t) + 8 + nI k = nI (8 * t + 8 + k) := by rw [show nI (8 * t) + 8 = nI (8 * t + 8) from nI_add _ 8, nI_add]
    have i1 : px_in (nI (8 * t + 8 + k)) 56 = true := px_inb (by omega) (by decide)
    have j1 : (nI (8 * t + 8 + k)).toNatClampNeg = 8 * t + 8 + k := nI_clamp (by omega)
    have i2 : px_in (nI (8 * t + k)) 56 = true := px_inb (by omega) (by decide)
    have j2 : (nI (8 * t + k)).toNatClampNeg = 8 * t + k := nI_clamp (by omega)
    have rd : cpF NM (8 * t + 8) (8 * t) k (8 * t + k) = NM (8 * t + k) := cpF_out (by omega)
    rw [pc164_30]
    simp only [pc164_31, pc164_33, pc164_36, pc164_36n, pc164_37, pc164_40, pc164_42, pc164_43, pc164_44, pc164_46, pc164_47, pc164_48, pc164_49, pc164_49n, pc164_50, pc164_53, pc164_55, pc164_56, pc164_57, pc164_58, pc164_59, pc164_60, pc164_61, pc164_64, px_op_some, px_kv_ap, px_ki_ap, px_kl_ap, px_kn_ap, px_kh_ap, px_op_none, px_K_some, px_K_none, px_K_thr, px_kill, ↓reduceIte, if_true, if_false, true_and, and_true, px_gf, px_ai, px_wi, a3, bNM, mf_39, ge, mul_8n, e1, nI_add, i1, j1, i2, j2, rd, tg_i1, and_self, px_fit, px_kill, nar1, nI_p1, cpF_s]
    exact ih (k + 1) (by omega) _ (mtS_NM w2)
set_option maxRecDepth 16384 in
theorem m_shift_l2 {h1 : px_H} (w : mtS h0 h1 V L NM NS VL VS) (ht : t < 6) (hQ : ∀ h2, mtS h0 h2 V L NM NS (cpF VL (12 * t + 12) (12 * t) 12) VS → Q (.inl none) h2) :
    ∀ d k, k + d = 12 → ∀ h2, mtS h0 h2 V L NM NS (cpF VL (12 * t + 12) (12 * t) k) VS → px_Wp sx 164 69 [some (.ref 619), some (.int (nI t)), some (.int (nI k))] [] h2 Q := by
  intro d
  induction d with
  | zero =>
    intro k hk h2 w2
    have hk : k = 12 := by omega
    subst hk
    simp only [pc164_69, pc164_70, pc164_72, pc164_106, px_op_some, px_kv_ap, px_ki_ap, px_kl_ap, px_kn_ap, px_kh_ap, px_op_none, px_K_some, px_K_none, px_K_thr, px_kill, ↓reduceIte, if_true, if_false, true_and, and_true, show ((12 : Int32) ≤ nI 12) = True from eq_true (by decide)]
    exact hQ h2 w2
  | succ d ih =>
    intro k hk h2 w2
    have w2' := w2
    obtain ⟨a1, a2, a3, bL, bNM, bNS, bVL, bVS⟩ := w2'
    have ge : ¬ (12 : Int32) ≤ nI k := nI_ge (b := 12) (by omega) (by decide)
    have e1 : nI (12 * t) + 12 + nI k = nI (12 * t + 12 + k) := by rw [show nI (12 * t) + 12 = nI (12 * t + 12) from nI_add _ 12, nI_add]
    have i1 : px_in (nI (12 * t + 12 + k)) 84 = true := px_inb (by omega) (by decide)
    have j1 : (nI (12 * t + 12 + k)).toNatClampNeg = 12 * t + 12 + k := nI_clamp (by omega)
    have i2 : px_in (nI (12 * t + k)) 84 = true := px_inb (by omega) (by decide)
    have j2 : (nI (12 * t + k)).toNatClampNeg = 12 * t + k := nI_clamp (by omega)
    have rd : cpF VL (12 * t + 12) (12 * t) k (12 * t + k) = VL (12 * t + k) := cpF_out (by omega)
    rw [pc164_69]
    simp only [pc164_70, pc164_72, pc164_75, pc164_75n, pc164_76, pc164_79, pc164_81, pc164_82, pc164_83, pc164_85, pc164_86, pc164_87, pc164_88, pc164_88n, pc164_89, pc164_92, pc164_94, pc164_95, pc164_96, pc164_97, pc164_98, pc164_99, pc164_100, pc164_103, px_op_some, px_kv_ap, px_ki_ap, px_kl_ap, px_kn_ap, px_kh_ap, px_op_none, px_K_some, px_K_none, px_K_thr, px_kill, ↓reduceIte, if_true, if_false, true_and, and_true, px_gf, px_ai, px_wi, a3, bVL, mf_41, ge, mul_12n, e1, nI_add, i1, j1, i2, j2, rd, tg_i1, and_self, px_fit, px_kill, nar1, nI_p1, cpF_s]
    exact ih (k + 1) (by omega) _ (mtS_VL w2)
set_option maxRecDepth 16384 in
theorem m_shift (w : mtS h0 h V L NM NS VL VS) (ht : t < 6) (hQ : ∀ h2, mtS h0 h2 V L (cpF NM (8 * t + 8) (8 * t) 8) (px_up NS (t + 1) (NS t)) (cpF VL (12 * t + 12) (12 * t) 12) (px_up VS (t + 1) (VS t)) → Q (.inl none) h2) :
    px_Wp sx 164 0 [some (.ref 619), some (.int (nI t)), none] [] h Q := by
  have w' := w
  obtain ⟨a1, a2, a3, bL, bNM, bNS, bVL, bVS⟩ := w'
  have i1 : px_in (nI (t + 1)) 7 = true := px_inb (by omega) (by decide)
  have j1 : (nI (t + 1)).toNatClampNeg = t + 1 := nI_clamp (by omega)
  have i2 : px_in (nI t) 7 = true := px_inb (by omega) (by decide)
  have j2 : (nI t).toNatClampNeg = t := nI_clamp (by omega)
  have w1 := mtS_NS (X := px_up NS (t + 1) (NS t)) w
  have w1' := w1
  obtain ⟨-, -, a3', -, -, -, -, bVS'⟩ := w1'
  have w2 := mtS_VS (X := px_up VS (t + 1) (VS t)) w1
  simp only [pc164_0, pc164_0n, pc164_1, pc164_4, pc164_5, pc164_6, pc164_7, pc164_7n, pc164_8, pc164_11, pc164_12, pc164_13, pc164_14, pc164_14n, pc164_15, pc164_18, pc164_19, pc164_20, pc164_21, pc164_21n, pc164_22, pc164_25, pc164_26, pc164_27, pc164_28, pc164_29, px_op_some, px_kv_ap, px_ki_ap, px_kl_ap, px_kn_ap, px_kh_ap, px_op_none, px_K_some, px_K_none, px_K_thr, px_kill, ↓reduceIte, if_true, if_false, true_and, and_true, px_gf, px_ai, px_wi, a3, bNS, a3', bVS', mf_40, mf_42, nI_p1, i1, j1, i2, j2, tg_i1, and_self, px_fit, nar1, px_kill]
  refine m_shift_l1 w2 ht (fun h2 w3 => ?_) 8 0 rfl _ (by rw [cpF_0]; exact w2)
  simp only [pc164_67, pc164_68, px_op_some, px_kv_ap, px_ki_ap, px_kl_ap, px_kn_ap, px_kh_ap, px_op_none, px_K_some, px_K_none, px_K_thr, px_kill, ↓reduceIte, if_true, if_false, true_and, and_true, px_kill]
  exact m_shift_l2 w3 ht hQ 12 0 rfl _ (by rw [cpF_0]; exact w3)
end MSET
