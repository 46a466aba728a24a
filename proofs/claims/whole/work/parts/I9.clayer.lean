/-! LAYERS, the class's: a layer applied -/
set_option maxRecDepth 16384 in
theorem chg_tr {O : Nat} {h h1 h2 : px_H} (a : chg O h h1) (b : chg O h1 h2) : chg O h h2 := ⟨frm_trans a.1 b.1, fun s => b.2.1 (a.2.1 s), b.2.2⟩
def clA (T C r : Nat) : Prop := trA T r ∨ r = C + 1 ∨ r = C + 2
/-- the class's tree at T is t -/
def clS (h h1 : px_H) (T C : Nat) (t : Nat × (Nat → aE)) : Prop := trR h1 T t.1 t.2 ∧ tOK t.1 t.2 ∧ itC h1 (C + 1) ∧ frm (clA T C) h h1 ∧ (shape h → shape h1)
section CLAY
variable {sx : Nat × (Nat → Int32)} {h : px_H} {B : Nat → Nat} {C T r s N n L : Nat} {f : Nat → Int32} {Q : px_O → px_H → Prop}
set_option maxRecDepth 16384 in
theorem c_isLayer_l (eT : entT (C + 1)) (hC : h.2[C]? = some (.inl (4, [.ref (C + 1)]))) (w : rowAt h r N n f) (h1 : r ≠ C + 1) (h2 : r ≠ C + 2) (h3 : r + 1 ≠ C + 1) (hn : s + L ≤ n) (hB : ∀ j, j < L → f (s + j) &&& 255 = nI (B j) ∧ B j < 256)
    (hQ1 : ∀ M h', isL B L M → chg (C + 1) h h' → Q (.inl (some (.int 1))) h') (hQ0 : ∀ M h', noL B L M → chg (C + 1) h h' → Q (.inl (some (.int 0))) h') :
    ∀ d i, L ≤ itP B i + d → itP B i ≤ L → (∀ j, j < i → itOK B L (itP B j)) → ∀ ha l5, chg (C + 1) h ha → px_Wp sx 67 3 [some (.ref C), some (.ref r), some (.int (nI s)), some (.int (nI (s + L))), some (.int (nI (s + itP B i))), l5] [] ha Q := by
  have hN := w.2.2
  have fin : ∀ i, itP B i = L → (∀ j, j < i → itOK B L (itP B j)) → ∀ ha l5, chg (C + 1) h ha → px_Wp sx 67 3 [some (.ref C), some (.ref r), some (.int (nI s)), some (.int (nI (s + L))), some (.int (nI (s + itP B i))), l5] [] ha Q := fun i e v ha l5 c => by
    have q := hQ1 i ha ⟨v, e⟩ c
    rw [e]
    simp only [pc67_3, pc67_5, pc67_6, pc67_35, pc67_36, if_pos (Int32.le_refl _), nar_1]
    exact q
  intro d
  induction d with
  | zero =>
    intro i x1 x2 v ha l5 c
    exact fin i (by omega) v ha l5 c
  | succ d ih =>
    intro i x1 x2 v ha l5 c
    by_cases e : itP B i = L
    · exact fin i e v ha l5 c
    · have ge : ¬ nI (s + L) ≤ nI (s + itP B i) := nI_ge (by omega) (by omega)
      have hC' := (c.1.2.2 C (by omega)).trans hC
      have w' : rowAt ha r N n f := ⟨(c.1.2.2 r (by omega)).trans w.1, (c.1.2.2 (r + 1) (by omega)).trans w.2.1, w.2.2⟩
      have hcC : px_cls ha C = some 4 := by unfold px_cls; rw [hC']
      rw [pc67_3]
      simp only [pc67_5, pc67_6, pc67_9, pc67_9n, pc67_10, pc67_10n, pc67_11, pc67_13, pc67_14, px_op_some, px_kv_ap, px_ki_ap, px_kl_ap, px_kn_ap, px_kh_ap, px_op_none, px_K_some, px_K_none, px_K_thr, px_kill, ↓reduceIte, if_true, if_false, true_and, and_true, ge, hcC]
      have no : ∀ hb, ¬ itOK B L (itP B i) → chg (C + 1) h hb → px_K sx 67 17 [some (.ref C), some (.ref r), some (.int (nI s)), some (.int (nI (s + L))), some (.int (nI (s + itP B i))), l5] [] Q (.inl (some (.int (-1)))) hb := fun hb z cb => by
        have lt : ¬ nI (s + itP B i) < -1 := fun t => by
          rw [Int32.lt_iff_toInt_lt, nI_toInt (by omega)] at t
          have : ((s + itP B i : Nat) : Int) < -1 := t
          omega
        simp only [px_K_some, pc67_17, pc67_19, pc67_21, pc67_23, pc67_26, pc67_27, px_op_some, px_kv_ap, px_ki_ap, px_kl_ap, px_kn_ap, px_kh_ap, px_op_none, px_K_some, px_K_none, px_K_thr, px_kill, ↓reduceIte, if_true, if_false, true_and, and_true, lt, px_kill, nar_0]
        exact hQ0 i hb ⟨v, by omega, z⟩ cb
      refine c_takeItem eT hC' c.2.2 w' h1 h2 h3 hn (by omega) hB (fun g ok hg => ?_) (fun hb z cb => no hb z (chg_tr c cb))
      have gt : nI (s + itP B i) < nI (s + itX B (itP B i)) := nI_lt (by unfold itX; omega) (by have := ok.2.2.2.2.2; omega)
      simp only [px_K_some, pc67_17, pc67_19, pc67_21, pc67_23, pc67_28, pc67_30, pc67_32, px_op_some, px_kv_ap, px_ki_ap, px_kl_ap, px_kn_ap, px_kh_ap, px_op_none, px_K_some, px_K_none, px_K_thr, px_kill, ↓reduceIte, if_true, if_false, true_and, and_true, gt, px_kill]
      have lt := itP_lt (B := B) (i := i) 1
      have cn : chg (C + 1) ha (tpH ha (C + 1) (B (itP B i + 1)) (nI (B (itP B i))) (.ref r) (nI (s + (itP B i + 4 + B (itP B i + 1)))) (nI (itM B (itP B i))) g) := by
        obtain ⟨l0, kd0, src0, st0, cn0, g0, o1, o2⟩ := c.2.2
        exact chg_tp eT (List.getElem?_eq_some_iff.mp o2).1
      refine ih (i + 1) (by omega) ok.2.2.2.2.2 (fun j hj => ?_) _ _ (chg_tr c cn)
      by_cases z : j = i
      · subst z; exact ok
      · exact v j (by omega)
set_option maxRecDepth 16384 in
theorem c_isLayer (eT : entT (C + 1)) (hC : h.2[C]? = some (.inl (4, [.ref (C + 1)]))) (i : itC h (C + 1)) (w : rowAt h r N n f) (h1 : r ≠ C + 1) (h2 : r ≠ C + 2) (h3 : r + 1 ≠ C + 1) (hn : s + L ≤ n) (hB : ∀ j, j < L → f (s + j) &&& 255 = nI (B j) ∧ B j < 256)
    (hQ1 : ∀ M h', isL B L M → chg (C + 1) h h' → Q (.inl (some (.int 1))) h') (hQ0 : ∀ M h', noL B L M → chg (C + 1) h h' → Q (.inl (some (.int 0))) h') :
    px_Wp sx 67 0 [some (.ref C), some (.ref r), some (.int (nI s)), some (.int (nI (s + L))), none, none] [] h Q := by
  simp only [pc67_0, pc67_1, px_kill]
  exact c_isLayer_l eT hC w h1 h2 h3 hn hB hQ1 hQ0 L 0 (Nat.le_add_left _ _) (Nat.zero_le _) (fun j hj => absurd hj (Nat.not_lt_zero j)) h none (chg_rf i)
set_option maxRecDepth 16384 in
theorem c_al_step {p : Nat} {h1 : px_H} {t : Nat × (Nat → aE)} {l7 : Option Value} (eT : entT (C + 1)) (hC : h.2[C]? = some (.inl (4, [.ref (C + 1)]))) (sr : r + 1 < 85) (hT : treT T) (hCT : C + 2 < T ∨ T + 162 ≤ C) (hCr : 411 ≤ C ∧ C ≠ 413 ∧ C ≠ 414 ∧ C ≠ 415) (w : rowAt h r N n f) (hn : s + L ≤ n) (hB : ∀ j, j < L → f (s + j) &&& 255 = nI (B j) ∧ B j < 256) (ok : itOK B L p) (a : clS h h1 T C t)
    (hQ : ∀ t' h2 l7, itA B p t t' → clS h h2 T C t' → px_Wp sx 66 20 [some (.ref C), some (.ref r), some (.int (nI s)), some (.int (nI L)), some (.ref T), some (.int (nI (s + L))), some (.int (nI (s + itX B p))), l7] [] h2 Q) :
    px_Wp sx 66 20 [some (.ref C), some (.ref r), some (.int (nI s)), some (.int (nI L)), some (.ref T), some (.int (nI (s + L))), some (.int (nI (s + p))), l7] [] h1 Q := by
  have hN := w.2.2
  obtain ⟨tr, tok, it, fr, sh⟩ := a
  have z3 := ok.2.2.1
  have zx := ok.2.2.2.2.2
  have rT := hT.2.2.2 r (.inl sr)
  have rC : r ≠ C + 1 ∧ r ≠ C + 2 ∧ r + 1 ≠ C + 1 ∧ r + 1 ≠ C + 2 := by omega
  have hC1 := (fr.2.2 C (by unfold clA trA; omega)).trans hC
  have w1 : rowAt h1 r N n f := ⟨(fr.2.2 r (by unfold clA; intro z; rcases z with z | z; exact rT.1 z; omega)).trans w.1, (fr.2.2 (r + 1) (by unfold clA; intro z; rcases z with z | z; exact rT.2 z; omega)).trans w.2.1, w.2.2⟩
  have hcC : px_cls h1 C = some 4 := by unfold px_cls; rw [hC1]
  have ge : ¬ nI (s + L) ≤ nI (s + p) := nI_ge (by omega) (by omega)
  rw [pc66_20]
  simp only [pc66_22, pc66_24, pc66_27, pc66_27n, pc66_28, pc66_28n, pc66_29, pc66_31, pc66_33, px_op_some, px_kv_ap, px_ki_ap, px_kl_ap, px_kn_ap, px_kh_ap, px_op_none, px_K_some, px_K_none, px_K_thr, px_kill, ↓reduceIte, if_true, if_false, true_and, and_true, ge, hcC]
  refine c_takeItem eT hC1 it w1 rC.1 rC.2.1 rC.2.2.1 hn (by omega) hB (fun g ok' hg => ?_) (fun hb z _ => absurd ok z)
  have gt : nI (s + p) < nI (s + itX B p) := nI_lt (by unfold itX; omega) (by omega)
  have hl : C + 1 + 1 < h1.2.length := by
    obtain ⟨l0, kd0, src0, st0, cn0, g0, o1, o2⟩ := it
    exact (List.getElem?_eq_some_iff.mp o2).1
  have cn := chg_tp (j := B (p + 1)) (kd := nI (B p)) (st := nI (s + (p + 4 + B (p + 1)))) (cn := nI (itM B p)) (src := .ref r) (g := g) eT hl
  have o1 := tpH_o (h := h1) (O := C + 1) (j := B (p + 1)) (kd := nI (B p)) (st := nI (s + (p + 4 + B (p + 1)))) (cn := nI (itM B p)) (src := .ref r) (g := g) hl
  have o2 := tpH_p (h := h1) (O := C + 1) (j := B (p + 1)) (kd := nI (B p)) (st := nI (s + (p + 4 + B (p + 1)))) (cn := nI (itM B p)) (src := .ref r) (g := g) hl
  generalize tpH h1 (C + 1) (B (p + 1)) (nI (B p)) (.ref r) (nI (s + (p + 4 + B (p + 1)))) (nI (itM B p)) g = h2 at cn o1 o2 ⊢
  have hC2 := (cn.1.2.2 C (by omega)).trans hC1
  have hcC2 : px_cls h2 C = some 4 := by unfold px_cls; rw [hC2]
  have w2 : rowAt h2 r N n f := ⟨(cn.1.2.2 r (by omega)).trans w1.1, (cn.1.2.2 (r + 1) (by omega)).trans w1.2.1, w1.2.2⟩
  have tr2 : trR h2 T t.1 t.2 := tr_frm tr tok.1 (fun x hx => cn.1.2.2 x (by unfold trA at hx; omega)) (fun x hx => ⟨cn.1.2.2 x (by unfold srcOK at hx; omega), cn.1.2.2 (x + 1) (by unfold srcOK at hx; omega)⟩)
  simp only [px_K_some, pc66_36, pc66_38, pc66_40, pc66_42, pc66_46, pc66_46n, pc66_47, pc66_47n, pc66_49, px_op_some, px_kv_ap, px_ki_ap, px_kl_ap, px_kn_ap, px_kh_ap, px_op_none, px_K_some, px_K_none, px_K_thr, px_kill, ↓reduceIte, if_true, if_false, true_and, and_true, gt, hcC2, px_kill]
  refine c_applyItem (l := B (p + 1)) (k := B p) (m := itM B p) (p := patF B (p + 2) (B (p + 1))) (c := fun j => nI (B (p + 4 + B (p + 1) + j))) hC2 o1 o2 (fun j hj => by rw [hg j hj]; unfold patF; rw [if_pos hj]) (path_pth ok.2.2.2.1) ok.1 ok.2.1 (it_m ok) sr w2 (by unfold itX at zx; omega) (fun j hj => ?_) tr2 tok hT (by unfold trA; omega) (fun n' E' h3 ap tr3 fr3 sh3 => ?_)
  · have := (hB (p + 4 + B (p + 1) + j) (by unfold itX at zx; omega)).1
    rw [← this]; congr 2; omega
  · simp only [px_K_none, pc66_52, pc66_54, pc66_56, px_kill]
    have ia : itA B p t (n', E') := ap
    have e1 := fr3.2.2 (C + 1) (by unfold trA; omega)
    have e2 := fr3.2.2 (C + 2) (by unfold trA; omega)
    refine hQ (n', E') h3 _ ia ⟨tr3, itA_ok ok tok ia, itC_frm cn.2.2 e1 e2, frm_trans fr (frm_trans (frm_mono cn.1 (fun x hx => .inr hx)) (frm_mono fr3 (fun x hx => .inl hx))), fun s => sh3 (cn.2.1 (sh s))⟩
set_option maxRecDepth 16384 in
theorem c_al_l2 {M : Nat} {t : Nat × (Nat → aE)} (eT : entT (C + 1)) (hC : h.2[C]? = some (.inl (4, [.ref (C + 1)]))) (sr : r + 1 < 85) (hT : treT T) (hCT : C + 2 < T ∨ T + 162 ≤ C) (hCr : 411 ≤ C ∧ C ≠ 413 ∧ C ≠ 414 ∧ C ≠ 415) (w : rowAt h r N n f) (hn : s + L ≤ n) (hB : ∀ j, j < L → f (s + j) &&& 255 = nI (B j) ∧ B j < 256) (il : isL B L M)
    (hQ : ∀ t' h2, lyA B L t t' → clS h h2 T C t' → Q (.inl none) h2) :
    ∀ d i, i + d = M → ∀ h1 (ts : Nat → Nat × (Nat → aE)) l7, ts 0 = t → (∀ j, j < i → itA B (itP B j) (ts j) (ts (j + 1))) → clS h h1 T C (ts i) → px_Wp sx 66 20 [some (.ref C), some (.ref r), some (.int (nI s)), some (.int (nI L)), some (.ref T), some (.int (nI (s + L))), some (.int (nI (s + itP B i))), l7] [] h1 Q := by
  intro d
  induction d with
  | zero =>
    intro i hi h1 ts l7 e0 e1 a
    have hi : i = M := by omega
    subst hi
    rw [il.2]
    simp only [pc66_20, pc66_22, pc66_24, pc66_59, if_pos (Int32.le_refl _)]
    exact hQ _ h1 (.inr ⟨i, ts, il, e0, rfl, e1⟩) a
  | succ d ih =>
    intro i hi h1 ts l7 e0 e1 a
    refine c_al_step eT hC sr hT hCT hCr w hn hB (il.1 i (by omega)) a (fun t' h2 l7 hi' a' => ?_)
    refine ih (i + 1) (by omega) h2 (px_up ts (i + 1) t') l7 (by rw [up_ne (by omega)]; exact e0) (fun j hj => ?_) (by rw [up_same]; exact a')
    by_cases x : j = i
    · subst x; rw [up_same, up_ne (by omega)]; exact hi'
    · rw [up_ne (by omega), up_ne (by omega)]; exact e1 j (by omega)
set_option maxRecDepth 16384 in
theorem c_apply {t : Nat × (Nat → aE)} (eT : entT (C + 1)) (hC : h.2[C]? = some (.inl (4, [.ref (C + 1)]))) (it : itC h (C + 1)) (sr : r + 1 < 85) (hT : treT T) (hCT : C + 2 < T ∨ T + 162 ≤ C) (hCr : 411 ≤ C ∧ C ≠ 413 ∧ C ≠ 414 ∧ C ≠ 415) (w : rowAt h r N n f) (hn : s + L ≤ n) (hB : ∀ j, j < L → f (s + j) &&& 255 = nI (B j) ∧ B j < 256) (tr : trR h T t.1 t.2) (ok : tOK t.1 t.2)
    (hQ : ∀ t' h2, lyA B L t t' → clS h h2 T C t' → Q (.inl none) h2) :
    px_Wp sx 66 0 [some (.ref C), some (.ref r), some (.int (nI s)), some (.int (nI L)), some (.ref T), none, none, none] [] h Q := by
  have hN := w.2.2
  have rC : r ≠ C + 1 ∧ r ≠ C + 2 ∧ r + 1 ≠ C + 1 ∧ r + 1 ≠ C + 2 := by omega
  have hcC : px_cls h C = some 4 := by unfold px_cls; rw [hC]
  have cl : ∀ h', chg (C + 1) h h' → clS h h' T C t := fun h' c => ⟨tr_frm tr ok.1 (fun x hx => c.1.2.2 x (by unfold trA at hx; omega)) (fun x hx => ⟨c.1.2.2 x (by unfold srcOK at hx; omega), c.1.2.2 (x + 1) (by unfold srcOK at hx; omega)⟩), ok, c.2.2, frm_mono c.1 (fun x hx => .inr hx), c.2.1⟩
  simp only [pc66_0, pc66_1, pc66_2, pc66_3, pc66_5, pc66_5n, pc66_6, pc66_6n, pc66_7, pc66_8, pc66_10, px_op_some, px_kv_ap, px_ki_ap, px_kl_ap, px_kn_ap, px_kh_ap, px_op_none, px_K_some, px_K_none, px_K_thr, px_kill, ↓reduceIte, if_true, if_false, true_and, and_true, nI_add, hcC, px_kill]
  refine c_isLayer eT hC it w rC.1 rC.2.1 rC.2.2.1 hn hB (fun M h' il c => ?_) (fun M h' nl c => ?_)
  · simp only [px_K_some, pc66_13, pc66_17, pc66_18, px_op_some, px_kv_ap, px_ki_ap, px_kl_ap, px_kn_ap, px_kh_ap, px_op_none, px_K_some, px_K_none, px_K_thr, px_kill, ↓reduceIte, if_true, if_false, true_and, and_true, yr_0, yr_1, tr_0, tr_1, tr_2, tr_3, px_rf, of_2, of_4, in_02, in_12, in_04, in_14, in_24, in_34, Nat.reduceLeDiff, in_01, lgc_self, Int32.reduceToNatClampNeg, wr_at, al_at, px_wr_len, px_al_len, px_wr_1, px_al_1, tg_0, tg_1, tg_2, tg_3, tg_12, tg_15, tg_17, tg_18, tg_i1, tg_b0, tg_b3, px_fit, Nat.reduceEqDiff, Nat.reduceLT, Nat.reduceAdd, Option.some.injEq, up_at, px_wr_wr, i32_le, Int32.reduceLE, Int32.reduceLT, mf_len, nar_0, nar_1, px_KH_some, px_KH_none, px_KH_thr, List.length_cons, List.length_nil, List.getElem?_cons_zero, List.getElem?_cons_succ, List.set_cons_zero, List.set_cons_succ, ↓reduceIte, Nat.lt_irrefl, ne_0_1, ne_0_2, ne_0_3, ne_0_4, ne_0_5, ne_1_0, ne_1_2, ne_1_3, ne_1_4, ne_1_5, ne_2_0, ne_2_1, ne_2_3, ne_2_4, ne_2_5, ne_3_0, ne_3_1, ne_3_2, ne_3_4, ne_3_5, ne_4_0, ne_4_1, ne_4_2, ne_4_3, ne_4_5, ne_5_0, ne_5_1, ne_5_2, ne_5_3, ne_5_4, hd_256_12, hd_256_16, hd_257_12, hd_258_12, hd_259_12, hd_260_12, hd_261_12, hd_261_13, hd_261_16, hd_262_12, hd_262_13, hd_262_16, hd_263_12, hd_263_13, hd_264_12, hd_264_13, hd_264_14, hd_265_12, hd_265_13, hd_265_14, hd_266_12, hd_267_12, hd_267_13, hd_267_14, hd_268_12, hd_269_12, hd_269_14, hd_270_12, hd_271_12, hd_272_12, hd_273_12, hd_273_13, hd_273_15, hd_274_12, hd_274_15, hd_275_12, hd_275_15, hd_276_12, nI_p1, nI_p2, nI_p3, nI_p4, nI_p5, not_true_eq_false, not_false_eq_true, and_self, mf_0, mf_1, mf_2, mf_3, mf_4, mf_5, mf_6, mf_7, mf_8, mf_9, mf_10, mf_11, mf_12, mf_13, mf_14, mf_15, mf_16, mf_17, mf_18, mf_19, mf_20, mf_21, mf_22, mf_23, mf_24, mf_25, mf_26, mf_27, mf_28, mf_29, mf_30, mf_31, mf_32, mf_33, mf_34, mf_35, mf_36, mf_37, mf_38, mf_39, mf_40, mf_41, mf_42, mf_43, mf_44, mf_45, mf_46, mf_47, mf_48, mf_49, mf_50, mf_51, mf_52, mf_53, mf_54, mf_55, mf_56, mf_57, mf_58, mf_59, mf_60, mf_61, mfs_0, mfs_2, mfs_17, mfs_20, mfs_26, mfs_32, mfs_34, mfs_36, mfs_38, mfs_43, mfs_44, mfs_45, mfs_46, mfs_47, iy_0, iy_1, iy_2, iy_3, iy_4, iy_5, iy_6, px_kill]
    exact c_al_l2 (t := t) eT hC sr hT hCT hCr w hn hB il hQ M 0 (by omega) h' (fun _ => t) none rfl (fun j hj => absurd hj (Nat.not_lt_zero j)) (cl h' c)
  · simp only [px_K_some, pc66_13, pc66_16, px_op_some, px_kv_ap, px_ki_ap, px_kl_ap, px_kn_ap, px_kh_ap, px_op_none, px_K_some, px_K_none, px_K_thr, px_kill, ↓reduceIte, if_true, if_false, true_and, and_true, yr_0, yr_1, tr_0, tr_1, tr_2, tr_3, px_rf, of_2, of_4, in_02, in_12, in_04, in_14, in_24, in_34, Nat.reduceLeDiff, in_01, lgc_self, Int32.reduceToNatClampNeg, wr_at, al_at, px_wr_len, px_al_len, px_wr_1, px_al_1, tg_0, tg_1, tg_2, tg_3, tg_12, tg_15, tg_17, tg_18, tg_i1, tg_b0, tg_b3, px_fit, Nat.reduceEqDiff, Nat.reduceLT, Nat.reduceAdd, Option.some.injEq, up_at, px_wr_wr, i32_le, Int32.reduceLE, Int32.reduceLT, mf_len, nar_0, nar_1, px_KH_some, px_KH_none, px_KH_thr, List.length_cons, List.length_nil, List.getElem?_cons_zero, List.getElem?_cons_succ, List.set_cons_zero, List.set_cons_succ, ↓reduceIte, Nat.lt_irrefl, ne_0_1, ne_0_2, ne_0_3, ne_0_4, ne_0_5, ne_1_0, ne_1_2, ne_1_3, ne_1_4, ne_1_5, ne_2_0, ne_2_1, ne_2_3, ne_2_4, ne_2_5, ne_3_0, ne_3_1, ne_3_2, ne_3_4, ne_3_5, ne_4_0, ne_4_1, ne_4_2, ne_4_3, ne_4_5, ne_5_0, ne_5_1, ne_5_2, ne_5_3, ne_5_4, hd_256_12, hd_256_16, hd_257_12, hd_258_12, hd_259_12, hd_260_12, hd_261_12, hd_261_13, hd_261_16, hd_262_12, hd_262_13, hd_262_16, hd_263_12, hd_263_13, hd_264_12, hd_264_13, hd_264_14, hd_265_12, hd_265_13, hd_265_14, hd_266_12, hd_267_12, hd_267_13, hd_267_14, hd_268_12, hd_269_12, hd_269_14, hd_270_12, hd_271_12, hd_272_12, hd_273_12, hd_273_13, hd_273_15, hd_274_12, hd_274_15, hd_275_12, hd_275_15, hd_276_12, nI_p1, nI_p2, nI_p3, nI_p4, nI_p5, not_true_eq_false, not_false_eq_true, and_self, mf_0, mf_1, mf_2, mf_3, mf_4, mf_5, mf_6, mf_7, mf_8, mf_9, mf_10, mf_11, mf_12, mf_13, mf_14, mf_15, mf_16, mf_17, mf_18, mf_19, mf_20, mf_21, mf_22, mf_23, mf_24, mf_25, mf_26, mf_27, mf_28, mf_29, mf_30, mf_31, mf_32, mf_33, mf_34, mf_35, mf_36, mf_37, mf_38, mf_39, mf_40, mf_41, mf_42, mf_43, mf_44, mf_45, mf_46, mf_47, mf_48, mf_49, mf_50, mf_51, mf_52, mf_53, mf_54, mf_55, mf_56, mf_57, mf_58, mf_59, mf_60, mf_61, mfs_0, mfs_2, mfs_17, mfs_20, mfs_26, mfs_32, mfs_34, mfs_36, mfs_38, mfs_43, mfs_44, mfs_45, mfs_46, mfs_47, iy_0, iy_1, iy_2, iy_3, iy_4, iy_5, iy_6]
    exact hQ t h' (.inl ⟨M, nl, rfl⟩) (cl h' c)
end CLAY
