/-! A SETTING MADE, the class's -/
def rotF (P : Nat → Nat) (g n : Nat) : Nat → Nat := fun i => if i < g then P i else if i = g then P n else if i ≤ n then P (i - 1) else P i
set_option maxRecDepth 16384 in
theorem rotF_at (P : Nat → Nat) {g n i : Nat} (hg : g ≤ n) (hn : n < 6) (hi : i < 6) : ∃ i', i' < 6 ∧ rotF P g n i = P i' ∧ (i < g ∧ i' = i ∨ i = g ∧ i' = n ∨ g < i ∧ i ≤ n ∧ i' = i - 1 ∨ n < i ∧ i' = i) := by
  unfold rotF
  rcases Nat.lt_trichotomy i g with x | x | x
  · exact ⟨i, hi, if_pos x, .inl ⟨x, rfl⟩⟩
  · exact ⟨n, hn, by rw [if_neg (by omega), if_pos x], .inr (.inl ⟨x, rfl⟩)⟩
  · by_cases y : i ≤ n
    · exact ⟨i - 1, by omega, by rw [if_neg (by omega), if_neg (by omega), if_pos y], .inr (.inr (.inl ⟨x, y, rfl⟩))⟩
    · exact ⟨i, hi, by rw [if_neg (by omega), if_neg (by omega), if_neg y], .inr (.inr (.inr ⟨by omega, rfl⟩))⟩
set_option maxRecDepth 16384 in
theorem rot_inj {P : Nat → Nat} {g n : Nat} (h : inj6 P) (hg : g ≤ n) (hn : n < 6) : inj6 (rotF P g n) := fun a b ha hb e => by
  obtain ⟨a', a1, a2, a3⟩ := rotF_at P hg hn ha
  obtain ⟨b', b1, b2, b3⟩ := rotF_at P hg hn hb
  rw [a2, b2] at e
  have := h a' b' a1 b1 e
  omega
/-- the class's image, but for the value of the setting j -/
def imW (h : px_H) (I : Nat) (P : Nat → Nat) (m : aM) (j : Nat) : Prop := imS h I P ∧ (∃ L, imO h I (iL m) (iS m) L ∧ ∀ i, i < iL m → L i = iD m i) ∧ ∀ s, s < iS m → ∃ F G n, rowAt h (I + 3 + 5 * P s + 1) 8 (iNl m s) F ∧ txA F (iNl m s) (iN m s) ∧ rowAt h (I + 3 + 5 * P s + 3) 12 n G ∧ (s ≠ j → n = iVl m s ∧ txA G (iVl m s) (iV m s))
set_option maxRecDepth 16384 in
theorem of_6 : Int32.ofNat 6 = 6 := rfl
set_option maxRecDepth 16384 in
theorem txA_cpy {f g : Nat → Int32} {n s c : Nat} {B : Nat → Nat} (hB : txA f n B) (hc : s + c ≤ n) : txA (va_cpy f g s 0 c) c (patF B s c) := fun j hj => by
  rw [vcp_at hj, patF_lt hj]; exact hB (s + j) (by omega)
section CSET
variable {sx : Nat × (Nat → Int32)} {h : px_H} {r N n s k l c I S vl : Nat} {f F : Nat → Int32} {B p v : Nat → Nat} {P : Nat → Nat} {m : aM} {Q : px_O → px_H → Prop}
set_option maxRecDepth 16384 in
theorem c_sof_l {g ns lc : Nat} {sf : Nat → Option Nat} {L : Nat → Int64} {y : Nat} {l1 l2 l3 : Option Value} (o : imO h I lc ns L) (i2 : imS h I P) (i3 : h.2[I + 2]? = some (.inr (15, 6, .inr (.inr sf)))) (hl : I + 2 < h.2.length) (hns : ns < 6) (hg : g ≤ ns)
    (hQ : ∀ sf', (∀ j, j ≤ g → sf' j = sf j) → (∀ j, g < j → j ≤ ns → sf' j = sf (j - 1)) → (∀ j, ns < j → sf' j = sf j) → px_Wp sx 85 84 [some (.ref I), l1, l2, l3, some (.int (-1 - nI g)), some (.ref y), some (.int (nI g))] [] (px_wr h (I + 2) (.inr (15, 6, .inr (.inr sf')))) Q) :
    ∀ d i, i = g + d → i ≤ ns → ∀ sf', (∀ j, j ≤ i → sf' j = sf j) → (∀ j, i < j → j ≤ ns → sf' j = sf (j - 1)) → (∀ j, ns < j → sf' j = sf j) → px_Wp sx 85 53 [some (.ref I), l1, l2, l3, some (.int (-1 - nI g)), some (.ref y), some (.int (nI i))] [] (px_wr h (I + 2) (.inr (15, 6, .inr (.inr sf')))) Q := by
  obtain ⟨sf0, j1, j2⟩ := i2
  have es : sf0 = sf := by
    have e := j1.symm.trans i3
    injection e with e; injection e with e; injection e with e e; injection e with e e; injection e with e; injection e with e
  subst es
  have z1 : ∀ x : px_C, (px_wr h (I + 2) x).2[I]? = some (.inl (6, [.ref (I + 1), .int (nI lc), .ref (I + 2), .int (nI ns)])) := fun x => by rw [wr_at, if_neg (by omega)]; exact o.1
  have z2 : ∀ x : px_C, (px_wr h (I + 2) x).2[I + 2]? = some x := fun x => by rw [wr_at, if_pos rfl, if_pos hl]
  have mm : (-1 : Int32) - (-1 - nI g) = nI g := m1_m1 (by omega)
  intro d
  induction d with
  | zero =>
    intro i hi hin sf' r1 r2 r3
    have hi : i = g := by omega
    subst hi
    have le : nI i ≤ nI i := Int32.le_refl _
    rw [pc85_53]
    simp only [pc85_55, pc85_56, pc85_58, pc85_59, mm, le, ↓reduceIte]
    exact hQ sf' r1 r2 r3
  | succ d ih =>
    intro i hi hin sf' r1 r2 r3
    have g1 : nI g < nI i := nI_lt (by omega) (by omega)
    have ii : px_in (nI i) 6 = true := px_inb (by omega) (by decide)
    have ci : (nI i).toNatClampNeg = i := nI_clamp (by omega)
    have ig : px_in (nI (i - 1)) 6 = true := px_inb (by omega) (by decide)
    have cg : (nI (i - 1)).toNatClampNeg = i - 1 := nI_clamp (by omega)
    have sub : nI i - 1 = nI (i - 1) := nI_sub (a := i) (b := 1) (by omega)
    have dec : nI i + -1 = nI (i - 1) := by
      obtain ⟨i', rfl⟩ : ∃ i', i = i' + 1 := ⟨i - 1, by omega⟩
      rw [nI_m1, Nat.add_sub_cancel]
    obtain ⟨e1, k2, k3, -⟩ := j2 (i - 1) (by omega)
    rw [← r1 (i - 1) (by omega)] at e1
    have f1 : (px_wr h (I + 2) (.inr (15, 6, .inr (.inr sf')))).2[I + 3 + 5 * P (i - 1)]? = some (.inl (5, [.ref (I + 3 + 5 * P (i - 1) + 1), .ref (I + 3 + 5 * P (i - 1) + 3)])) := by rw [wr_at, if_neg (by omega)]; exact k3
    rw [pc85_53]
    simp only [pc85_55, pc85_56, pc85_58, pc85_59, pc85_62, pc85_62n, pc85_63, pc85_66, pc85_68, pc85_68n, pc85_69, pc85_72, pc85_74, pc85_75, pc85_76, pc85_77, pc85_78, pc85_81, px_op_some, px_kv_ap, px_ki_ap, px_kl_ap, px_kn_ap, px_kh_ap, px_op_none, px_K_some, px_K_none, px_K_thr, px_kill, ↓reduceIte, if_true, if_false, true_and, and_true, px_gf, px_aa, px_wa, yr_0, yr_1, tr_0, tr_1, tr_2, tr_3, px_rf, of_2, of_4, in_02, in_12, in_04, in_14, in_24, in_34, Nat.reduceLeDiff, in_01, lgc_self, Int32.reduceToNatClampNeg, wr_at, al_at, px_wr_len, px_al_len, px_wr_1, px_al_1, tg_0, tg_1, tg_2, tg_3, tg_12, tg_15, tg_17, tg_18, tg_i1, tg_b0, tg_b3, px_fit, Nat.reduceEqDiff, Nat.reduceLT, Nat.reduceAdd, Option.some.injEq, up_at, px_wr_wr, i32_le, Int32.reduceLE, Int32.reduceLT, mf_len, nar_0, nar_1, px_KH_some, px_KH_none, px_KH_thr, List.length_cons, List.length_nil, List.getElem?_cons_zero, List.getElem?_cons_succ, List.set_cons_zero, List.set_cons_succ, ↓reduceIte, Nat.lt_irrefl, ne_0_1, ne_0_2, ne_0_3, ne_0_4, ne_0_5, ne_1_0, ne_1_2, ne_1_3, ne_1_4, ne_1_5, ne_2_0, ne_2_1, ne_2_3, ne_2_4, ne_2_5, ne_3_0, ne_3_1, ne_3_2, ne_3_4, ne_3_5, ne_4_0, ne_4_1, ne_4_2, ne_4_3, ne_4_5, ne_5_0, ne_5_1, ne_5_2, ne_5_3, ne_5_4, hd_256_12, hd_256_16, hd_257_12, hd_258_12, hd_259_12, hd_260_12, hd_261_12, hd_261_13, hd_261_16, hd_262_12, hd_262_13, hd_262_16, hd_263_12, hd_263_13, hd_264_12, hd_264_13, hd_264_14, hd_265_12, hd_265_13, hd_265_14, hd_266_12, hd_267_12, hd_267_13, hd_267_14, hd_268_12, hd_269_12, hd_269_14, hd_270_12, hd_271_12, hd_272_12, hd_273_12, hd_273_13, hd_273_15, hd_274_12, hd_274_15, hd_275_12, hd_275_15, hd_276_12, nI_p1, nI_p2, nI_p3, nI_p4, nI_p5, not_true_eq_false, not_false_eq_true, and_self, mf_0, mf_1, mf_2, mf_3, mf_4, mf_5, mf_6, mf_7, mf_8, mf_9, mf_10, mf_11, mf_12, mf_13, mf_14, mf_15, mf_16, mf_17, mf_18, mf_19, mf_20, mf_21, mf_22, mf_23, mf_24, mf_25, mf_26, mf_27, mf_28, mf_29, mf_30, mf_31, mf_32, mf_33, mf_34, mf_35, mf_36, mf_37, mf_38, mf_39, mf_40, mf_41, mf_42, mf_43, mf_44, mf_45, mf_46, mf_47, mf_48, mf_49, mf_50, mf_51, mf_52, mf_53, mf_54, mf_55, mf_56, mf_57, mf_58, mf_59, mf_60, mf_61, mfs_0, mfs_2, mfs_17, mfs_20, mfs_26, mfs_32, mfs_34, mfs_36, mfs_38, mfs_43, mfs_44, mfs_45, mfs_46, mfs_47, iy_0, iy_1, iy_2, iy_3, iy_4, iy_5, iy_6, mm, z1, z2, g1, ii, ci, ig, cg, sub, dec, e1, f1, px_rf, tg_15, Nat.reduceLeDiff, Nat.reduceAdd, and_self, px_wr_wr, px_kill]
    refine ih (i - 1) (by omega) (by omega) _ (fun j hj => ?_) (fun j j1 j2 => ?_) (fun j hj => ?_)
    · rw [up_ne (by omega)]; exact r1 j (by omega)
    · by_cases x : j = i
      · subst x; rw [up_same, ← e1, r1 _ (by omega)]
      · rw [up_ne x]; exact r2 j (by omega) j2
    · rw [up_ne (by omega)]; exact r3 j hj
set_option maxRecDepth 16384 in
theorem c_settingOf (im : imC h I P m) (ok : imOK m) (hP : inj6 P) (w : rowAt h r N n f) (hr1 : ¬ imA I r) (hr2 : ¬ imA I (r + 1)) (hB : txA f n B) (hq : ltr (patF B s c) c) (hc : s + c ≤ n) (hc8 : c ≤ 8)
    (hQ1 : ∀ j P' m' h1, setR m c (patF B s c) vl v 0 m' → j < iS m' → iVl m' j = vl → iV m' j = v → inj6 P' → imW h1 I P' m' j → frm (imA I) h h1 → (shape h → shape h1) → Q (.inl (some (.ref (I + 3 + 5 * P' j)))) h1) (hQ0 : setR m c (patF B s c) vl v 4 m → Q (.inl (some .null)) h) :
    px_Wp sx 85 0 [some (.ref I), some (.ref r), some (.int (nI s)), some (.int (nI (s + c))), none, none, none] [] h Q := by
  have im' := im
  obtain ⟨i2, ⟨L, o, oL⟩, rows⟩ := im'
  have h6 := ok.2.1
  have hcI : px_cls h I = some 6 := by unfold px_cls; rw [o.1]
  obtain ⟨sf, s1, s2⟩ := i2
  have hl2 : I + 2 < h.2.length := (List.getElem?_eq_some_iff.mp s1).1
  simp only [pc85_0, pc85_0n, pc85_1, pc85_1n, pc85_2, pc85_3, pc85_4, hcI, true_and]
  refine c_isearch im ok w hB hq hc (fun x hx => ?_)
  have o1 := o.1
  rcases hx with ⟨i, hi, rfl, e⟩ | ⟨g, hg, rfl⟩
  · have g1 : ¬ nI i < 0 := nI_pos (by omega)
    have ii : px_in (nI i) 6 = true := px_inb (by omega) (by decide)
    have ci : (nI i).toNatClampNeg = i := nI_clamp (by omega)
    have e1 := (s2 i (by omega)).1
    simp only [px_K_some, pc85_7, pc85_9, pc85_11, pc85_14, pc85_14n, pc85_15, pc85_18, pc85_20, pc85_21n, pc85_21, px_op_some, px_kv_ap, px_ki_ap, px_kl_ap, px_kn_ap, px_kh_ap, px_op_none, px_K_some, px_K_none, px_K_thr, px_kill, ↓reduceIte, if_true, if_false, true_and, and_true, px_gf, px_aa, o1, s1, List.getElem?_cons_zero, List.getElem?_cons_succ, g1, ii, ci, e1, px_rf, tg_15, Nat.reduceLeDiff, and_self, px_kill]
    refine hQ1 i P _ h (.inl ⟨i, hi, e, rfl, rfl⟩) hi (up_same _ _ _) (up_same _ _ _) hP ⟨⟨sf, s1, s2⟩, ⟨L, o, oL⟩, fun t ht => ?_⟩ (frm_refl _ _) (fun z => z)
    obtain ⟨F, G, u1, u2, u3, u4⟩ := rows t ht
    refine ⟨F, G, _, u1, u2, u3, fun ne => ?_⟩
    show iVl m t = px_up (iVl m) i vl t ∧ txA G (px_up (iVl m) i vl t) (px_up (iV m) i v t)
    rw [up_ne ne, up_ne ne]; exact ⟨rfl, u4⟩
  · have no := gapN_no hg
    have g6 := hg.1
    have neg : -1 - nI g < 0 := by
      rw [Int32.lt_iff_toInt_lt, Int32.toInt_sub, nI_toInt (by omega), show (-1 : Int32).toInt = -1 by decide, show (0 : Int32).toInt = 0 from rfl, Int.bmod_eq_of_le (by omega) (by omega)]
      omega
    by_cases full : iS m = 6
    · have lt : ¬ nI (iS m) < 6 := nI_nlt (b := 6) (by omega) (by omega)
      simp only [px_K_some, pc85_7, pc85_9, pc85_11, pc85_14, pc85_14n, pc85_15, pc85_18, pc85_20, pc85_21n, pc85_21, pc85_22, pc85_22n, pc85_23, pc85_26, pc85_26n, pc85_27, pc85_30, pc85_31, pc85_34, pc85_35n, pc85_35, px_op_some, px_kv_ap, px_ki_ap, px_kl_ap, px_kn_ap, px_kh_ap, px_op_none, px_K_some, px_K_none, px_K_thr, px_kill, ↓reduceIte, if_true, if_false, true_and, and_true, px_gf, px_an, o1, s1, List.getElem?_cons_zero, List.getElem?_cons_succ, neg, lt, of_6, tg_15, px_kill]
      exact hQ0 (.inr ⟨no, .inl ⟨full, rfl, rfl⟩⟩)
    · have lt : nI (iS m) < 6 := (nI_ltI (b := 6) (by omega) (by decide)).mpr (by omega)
      have ii : px_in (nI (iS m)) 6 = true := px_inb (by omega) (by decide)
      have ci : (nI (iS m)).toNatClampNeg = iS m := nI_clamp (by omega)
      obtain ⟨e1, e2, e3, ⟨n0, f0, e4⟩, n1, f1, e5⟩ := s2 (iS m) (by omega)
      simp only [px_K_some, pc85_7, pc85_9, pc85_11, pc85_14, pc85_14n, pc85_15, pc85_18, pc85_20, pc85_21n, pc85_21, pc85_22, pc85_22n, pc85_23, pc85_26, pc85_26n, pc85_27, pc85_30, pc85_31, pc85_34, pc85_35n, pc85_35, pc85_36, pc85_36n, pc85_37, pc85_40, pc85_40n, pc85_41, pc85_44, pc85_45, pc85_45n, pc85_47, pc85_47n, pc85_48, pc85_51, px_op_some, px_kv_ap, px_ki_ap, px_kl_ap, px_kn_ap, px_kh_ap, px_op_none, px_K_some, px_K_none, px_K_thr, px_kill, ↓reduceIte, if_true, if_false, true_and, and_true, px_gf, px_an, px_aa, o1, s1, List.getElem?_cons_zero, List.getElem?_cons_succ, neg, lt, ii, ci, e1, px_rf, tg_15, of_6, Nat.reduceLeDiff, and_self, px_kill]
      have hid : h = px_wr h (I + 2) (.inr (15, 6, .inr (.inr sf))) := (wr_id s1).symm
      rw [hid]
      refine c_sof_l o ⟨sf, s1, s2⟩ s1 hl2 (by omega) g6 (fun sf' q1 q2 q3 => ?_) (iS m - g) (iS m) (by omega) (Nat.le_refl _) sf (fun j _ => rfl) (fun j a b => absurd b (by omega)) (fun j _ => rfl)
      have z1 : ∀ x : px_C, (px_wr h (I + 2) x).2[I]? = some (.inl (6, [.ref (I + 1), .int (nI (iL m)), .ref (I + 2), .int (nI (iS m))])) := fun x => by rw [wr_at, if_neg (by omega)]; exact o1
      have z2 : ∀ x : px_C, (px_wr h (I + 2) x).2[I + 2]? = some x := fun x => by rw [wr_at, if_pos rfl, if_pos hl2]
      have z3 : ∀ x : px_C, (px_wr h (I + 2) x).2[I + 3 + 5 * P (iS m)]? = some (.inl (5, [.ref (I + 3 + 5 * P (iS m) + 1), .ref (I + 3 + 5 * P (iS m) + 3)])) := fun x => by rw [wr_at, if_neg (by omega)]; exact e3
      have ig : px_in (nI g) 6 = true := px_inb (by omega) (by decide)
      have cg : (nI g).toNatClampNeg = g := nI_clamp (by omega)
      have mm : (-1 : Int32) - (-1 - nI g) = nI g := m1_m1 (by omega)
      have sb : nI (s + c) - nI s = nI c := by rw [nI_sub (by omega), Nat.add_sub_cancel_left]
      have lI : I < h.2.length := by omega
      simp only [pc85_84, pc85_84n, pc85_85, pc85_88, pc85_89, pc85_91, pc85_92, pc85_92n, pc85_94, pc85_95, pc85_95n, pc85_96, pc85_96r, pc85_97, pc85_100, pc85_101, pc85_102, pc85_105, pc85_105n, pc85_107, pc85_107n, pc85_108, pc85_109, pc85_110, pc85_111, pc85_112, px_op_some, px_kv_ap, px_ki_ap, px_kl_ap, px_kn_ap, px_kh_ap, px_op_none, px_K_some, px_K_none, px_K_thr, px_kill, ↓reduceIte, if_true, if_false, true_and, and_true, px_gf, px_pf, px_aa, px_wa, yr_0, yr_1, tr_0, tr_1, tr_2, tr_3, px_rf, of_2, of_4, in_02, in_12, in_04, in_14, in_24, in_34, Nat.reduceLeDiff, in_01, lgc_self, Int32.reduceToNatClampNeg, wr_at, al_at, px_wr_len, px_al_len, px_wr_1, px_al_1, tg_0, tg_1, tg_2, tg_3, tg_12, tg_15, tg_17, tg_18, tg_i1, tg_b0, tg_b3, px_fit, Nat.reduceEqDiff, Nat.reduceLT, Nat.reduceAdd, Option.some.injEq, up_at, px_wr_wr, i32_le, Int32.reduceLE, Int32.reduceLT, mf_len, nar_0, nar_1, px_KH_some, px_KH_none, px_KH_thr, List.length_cons, List.length_nil, List.getElem?_cons_zero, List.getElem?_cons_succ, List.set_cons_zero, List.set_cons_succ, ↓reduceIte, Nat.lt_irrefl, ne_0_1, ne_0_2, ne_0_3, ne_0_4, ne_0_5, ne_1_0, ne_1_2, ne_1_3, ne_1_4, ne_1_5, ne_2_0, ne_2_1, ne_2_3, ne_2_4, ne_2_5, ne_3_0, ne_3_1, ne_3_2, ne_3_4, ne_3_5, ne_4_0, ne_4_1, ne_4_2, ne_4_3, ne_4_5, ne_5_0, ne_5_1, ne_5_2, ne_5_3, ne_5_4, hd_256_12, hd_256_16, hd_257_12, hd_258_12, hd_259_12, hd_260_12, hd_261_12, hd_261_13, hd_261_16, hd_262_12, hd_262_13, hd_262_16, hd_263_12, hd_263_13, hd_264_12, hd_264_13, hd_264_14, hd_265_12, hd_265_13, hd_265_14, hd_266_12, hd_267_12, hd_267_13, hd_267_14, hd_268_12, hd_269_12, hd_269_14, hd_270_12, hd_271_12, hd_272_12, hd_273_12, hd_273_13, hd_273_15, hd_274_12, hd_274_15, hd_275_12, hd_275_15, hd_276_12, nI_p1, nI_p2, nI_p3, nI_p4, nI_p5, not_true_eq_false, not_false_eq_true, and_self, mf_0, mf_1, mf_2, mf_3, mf_4, mf_5, mf_6, mf_7, mf_8, mf_9, mf_10, mf_11, mf_12, mf_13, mf_14, mf_15, mf_16, mf_17, mf_18, mf_19, mf_20, mf_21, mf_22, mf_23, mf_24, mf_25, mf_26, mf_27, mf_28, mf_29, mf_30, mf_31, mf_32, mf_33, mf_34, mf_35, mf_36, mf_37, mf_38, mf_39, mf_40, mf_41, mf_42, mf_43, mf_44, mf_45, mf_46, mf_47, mf_48, mf_49, mf_50, mf_51, mf_52, mf_53, mf_54, mf_55, mf_56, mf_57, mf_58, mf_59, mf_60, mf_61, mfs_0, mfs_2, mfs_17, mfs_20, mfs_26, mfs_32, mfs_34, mfs_36, mfs_38, mfs_43, mfs_44, mfs_45, mfs_46, mfs_47, iy_0, iy_1, iy_2, iy_3, iy_4, iy_5, iy_6, mm, z1, z2, z3, ig, cg, sb, px_rf, tg_15, px_cls, Nat.reduceLeDiff, Nat.reduceAdd, and_self, px_wr_wr, px_kill, nI_p1]
      rw [if_neg (show ¬ I = I + 3 + 5 * P (iS m) by omega)]
      refine ⟨rfl, ?_⟩
      generalize hh : px_wr (px_wr h (I + 2) (Sum.inr (15, 6, Sum.inr (Sum.inr (px_up sf' g (some (I + 3 + 5 * P (iS m)))))))) I (Sum.inl (6, [Value.ref (I + 1), Value.int (nI (iL m)), Value.ref (I + 2), Value.int (nI (iS m + 1))])) = h1
      have fr1 : frm (imA I) h h1 := by rw [← hh]; exact frm_wr (frm_wr (frm_refl _ _) ⟨by omega, by omega⟩) ⟨by omega, by omega⟩
      have a1 : ∀ k, k ≠ I → k ≠ I + 2 → h1.2[k]? = h.2[k]? := fun k k1 k2 => by rw [← hh, wr_at, if_neg (fun z => k1 z.symm), wr_at, if_neg (fun z => k2 z.symm)]
      have b1 : h1.2[I]? = some (.inl (6, [.ref (I + 1), .int (nI (iL m)), .ref (I + 2), .int (nI (iS m + 1))])) := by rw [← hh, wr_at, if_pos rfl, if_pos (by rw [px_wr_len]; exact lI)]
      have b2 : h1.2[I + 2]? = some (.inr (15, 6, .inr (.inr (px_up sf' g (some (I + 3 + 5 * P (iS m))))))) := by rw [← hh, wr_at, if_neg (by omega), wr_at, if_pos rfl, if_pos hl2]
      have sh1 : shape h → shape h1 := fun z => by
        rw [← hh]
        exact shape_int (k := 3) (y := nI (iS m + 1)) (shape_ra z s1 (by decide)) (show (px_wr h (I + 2) _).2[I]? = some (.inl (6, [.ref (I + 1), .int (nI (iL m)), .ref (I + 2), .int (nI (iS m))])) from z1 _) rfl
      have ne : ∀ i', i' < 6 → ∀ j, I + 3 + 5 * P i' + j ≠ I ∧ I + 3 + 5 * P i' + j ≠ I + 2 := fun i' _ j => ⟨by omega, by omega⟩
      have rw1 : ∀ (R M n2 : Nat) (f2 : Nat → Int32), rowAt h R M n2 f2 → R ≠ I → R ≠ I + 2 → R + 1 ≠ I → R + 1 ≠ I + 2 → rowAt h1 R M n2 f2 := fun R M n2 f2 z x1 x2 x3 x4 => ⟨by rw [a1 R x1 x2]; exact z.1, by rw [a1 _ x3 x4]; exact z.2.1, z.2.2⟩
      have e41 := rw1 _ _ _ _ e4 (by omega) (by omega) (by omega) (by omega)
      have e51 := rw1 _ _ _ _ e5 (by omega) (by omega) (by omega) (by omega)
      have wr1 : rowAt h1 r N n f := frm_rowAt fr1 hr1 hr2 w
      have l4 := rowAt_lt e41
      have rS : ∀ j, j < 5 → I + 3 + 5 * P (iS m) + j ≠ r ∧ I + 3 + 5 * P (iS m) + j ≠ r + 1 := fun j hj => ⟨fun q => hr1 ⟨by omega, by omega⟩, fun q => hr2 ⟨by omega, by omega⟩⟩
      refine c_setName (S := I + 3 + 5 * P (iS m)) (z := I + 3 + 5 * P (iS m) + 3) (by rw [a1 _ (by omega) (by omega)]; exact e3) e41 wr1 (rS 1 (by omega)).1 (rS 2 (by omega)).1 (rS 1 (by omega)).2 hc hc8 ?_
      generalize hh2 : rowH h1 (I + 3 + 5 * P (iS m) + 1) 8 c (va_cpy f f0 s 0 c) = h2
      have a2 : ∀ k, k ≠ I + 3 + 5 * P (iS m) + 1 → k ≠ I + 3 + 5 * P (iS m) + 2 → h2.2[k]? = h1.2[k]? := fun k k1 k2 => by rw [← hh2, rowH_at (fun z => k1 z.symm) (fun z => k2 z.symm)]
      have e42 : rowAt h2 (I + 3 + 5 * P (iS m) + 1) 8 c (va_cpy f f0 s 0 c) := by rw [← hh2]; exact rowAt_rowH l4 hc8 (by decide)
      have rw2 : ∀ (R M n2 : Nat) (f2 : Nat → Int32), rowAt h1 R M n2 f2 → (R + 1 < I + 3 + 5 * P (iS m) + 1 ∨ I + 3 + 5 * P (iS m) + 2 < R) → rowAt h2 R M n2 f2 := fun R M n2 f2 z x => ⟨by rw [a2 R (by omega) (by omega)]; exact z.1, by rw [a2 _ (by omega) (by omega)]; exact z.2.1, z.2.2⟩
      have eg : rotF P g (iS m) g = P (iS m) := by unfold rotF; rw [if_neg (Nat.lt_irrefl _), if_pos rfl]
      simp only [px_K_none, pc85_115, pc85_115n, pc85_117n, pc85_117, px_op_some, px_kv_ap, px_ki_ap, px_kl_ap, px_kn_ap, px_kh_ap, px_op_none, px_K_some, px_K_none, px_K_thr, px_kill, ↓reduceIte, if_true, if_false, true_and, and_true]
      have go := hQ1 g (rotF P g (iS m)) (m.1, iS m + 1, insF (iNl m) g c, insF (iN m) g (patF B s c), insF (iVl m) g vl, insF (iV m) g v) h2 (.inr ⟨no, .inr ⟨by omega, rfl, g, hg, rfl⟩⟩) (by show g < iS m + 1; omega) insF_eq insF_eq (rot_inj hP g6 (by omega)) ?_ (by rw [← hh2]; exact frm_row fr1 ⟨by omega, by omega⟩ ⟨by omega, by omega⟩) (fun z => by rw [← hh2]; exact shape_row (sh1 z) e41)
      · rw [eg] at go; exact go
      · have dj : ∀ i', i' < 6 → i' ≠ iS m → P i' < P (iS m) ∨ P (iS m) < P i' := fun i' h1 h2 => by
          rcases Nat.lt_trichotomy (P i') (P (iS m)) with x | x | x
          · exact .inl x
          · exact absurd (hP i' (iS m) h1 (by omega) x) h2
          · exact .inr x
        refine ⟨⟨_, by rw [a2 _ (by omega) (by omega)]; exact b2, fun t ht => ?_⟩, ⟨L, ⟨by rw [a2 _ (by omega) (by omega)]; exact b1, by rw [a2 _ (by omega) (by omega), a1 _ (by omega) (by omega)]; exact o.2⟩, oL⟩, fun t ht => ?_⟩
        · obtain ⟨i', y1, y2, y3⟩ := rotF_at P g6 (show iS m < 6 by omega) ht
          obtain ⟨x1, x2, x3, ⟨n3, f3, x4⟩, n4, f4, x5⟩ := s2 i' y1
          have es : px_up sf' g (some (I + 3 + 5 * P (iS m))) t = sf i' := by
            by_cases z : t = g
            · subst z; rw [up_same, show i' = iS m by omega, e1]
            · rw [up_ne z]
              rcases y3 with ⟨p1, p2⟩ | ⟨p1, p2⟩ | ⟨p1, p2, p3⟩ | ⟨p1, p2⟩
              · rw [q1 t (by omega), p2]
              · exact absurd p1 z
              · rw [q2 t p1 p2, p3]
              · rw [q3 t p1, p2]
          rw [y2]
          refine ⟨by rw [es]; exact x1, x2, by rw [a2 _ (by omega) (by omega), a1 _ (by omega) (by omega)]; exact x3, ?_, ?_⟩
          · by_cases z : i' = iS m
            · rw [z]; exact ⟨_, _, e42⟩
            · have := dj i' y1 z
              exact ⟨_, _, rw2 _ _ _ _ (rw1 _ _ _ _ x4 (by omega) (by omega) (by omega) (by omega)) (by omega)⟩
          · by_cases z : i' = iS m
            · rw [z]; exact ⟨_, _, rw2 _ _ _ _ e51 (by omega)⟩
            · have := dj i' y1 z
              exact ⟨_, _, rw2 _ _ _ _ (rw1 _ _ _ _ x5 (by omega) (by omega) (by omega) (by omega)) (by omega)⟩
        · have ht : t < iS m + 1 := ht
          obtain ⟨i', y1, y2, y3⟩ := rotF_at P g6 (show iS m < 6 by omega) (show t < 6 by omega)
          show ∃ F G n, rowAt h2 (I + 3 + 5 * rotF P g (iS m) t + 1) 8 (insF (iNl m) g c t) F ∧ txA F (insF (iNl m) g c t) (insF (iN m) g (patF B s c) t) ∧ rowAt h2 (I + 3 + 5 * rotF P g (iS m) t + 3) 12 n G ∧ (t ≠ g → n = insF (iVl m) g vl t ∧ txA G (insF (iVl m) g vl t) (insF (iV m) g v t))
          rw [y2]
          by_cases z : t = g
          · subst z
            rw [insF_eq, insF_eq, show i' = iS m by omega]
            exact ⟨_, f1, n1, e42, txA_cpy hB hc, rw2 _ _ _ _ e51 (by omega), fun z => absurd rfl z⟩
          · have hi' : i' < iS m := by omega
            obtain ⟨F, G, u1, u2, u3, u4⟩ := rows i' hi'
            have := dj i' y1 (by omega)
            have ins : ∀ {α : Type} (ff : Nat → α) (x : α), insF ff g x t = ff i' := fun ff x => by
              rcases y3 with ⟨p1, p2⟩ | ⟨p1, p2⟩ | ⟨p1, p2, p3⟩ | ⟨p1, p2⟩
              · rw [insF_lt p1, p2]
              · exact absurd p1 z
              · rw [insF_gt p1, p3]
              · omega
            rw [ins, ins, ins, ins]
            exact ⟨F, G, _, rw2 _ _ _ _ (rw1 _ _ _ _ u1 (by omega) (by omega) (by omega) (by omega)) (by omega), u2, rw2 _ _ _ _ (rw1 _ _ _ _ u3 (by omega) (by omega) (by omega) (by omega)) (by omega), fun _ => ⟨rfl, u4⟩⟩
end CSET
