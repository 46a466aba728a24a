/-! AN IMAGE'S TREE: grown by each side -/
def emp : Nat × (Nat → aE) := (0, fun _ => dirE 0 (fun _ => 0))
/-- t: all layers applied -/
def grw (S : yS) (nl : Nat) (Ly : Nat → Int64) (t : Nat × (Nat → aE)) : Prop := ∃ ts : Nat → Nat × (Nat → aE), ts 0 = emp ∧ ts nl = t ∧ ∀ i, i < nl → ∃ k, k < yB S ∧ yD S k = Ly i ∧ lyA (bvF (blB S k)) (yL S k) (ts i) (ts (i + 1))
set_option maxRecDepth 16384 in
theorem emp_ok : tOK emp.1 emp.2 := tOK_0 _
set_option maxRecDepth 16384 in
theorem grw_oks {S : yS} {nl : Nat} {Ly : Nat → Int64} {ts : Nat → Nat × (Nat → aE)} (e0 : ts 0 = emp) (e : ∀ i, i < nl → ∃ k, k < yB S ∧ yD S k = Ly i ∧ lyA (bvF (blB S k)) (yL S k) (ts i) (ts (i + 1))) : ∀ i, i ≤ nl → tOK (ts i).1 (ts i).2 := by
  intro i
  induction i with
  | zero => intro _; rw [e0]; exact emp_ok
  | succ i ih =>
    intro hi
    obtain ⟨k, -, -, l⟩ := e i (by omega)
    exact lyA_ok (ih (by omega)) l
set_option maxRecDepth 16384 in
theorem grw_ok {S : yS} {nl : Nat} {Ly : Nat → Int64} {t : Nat × (Nat → aE)} (g : grw S nl Ly t) : tOK t.1 t.2 := by
  obtain ⟨ts, e0, e1, e⟩ := g
  rw [← e1]; exact grw_oks e0 e nl (Nat.le_refl _)
set_option maxRecDepth 16384 in
theorem grw_det {S : yS} {nl : Nat} {Ly Ly' : Nat → Int64} {t t' : Nat × (Nat → aE)} (hw : WFy S) (hL : ∀ i, i < nl → Ly i = Ly' i) (g : grw S nl Ly t) (g' : grw S nl Ly' t') : t = t' := by
  obtain ⟨ts, e0, e1, e⟩ := g
  obtain ⟨ts', f0, f1, f⟩ := g'
  have : ∀ i, i ≤ nl → ts i = ts' i := by
    intro i
    induction i with
    | zero => intro _; rw [e0, f0]
    | succ i ih =>
      intro hi
      have x := ih (by omega)
      obtain ⟨k, k1, k2, k3⟩ := e i (by omega)
      obtain ⟨k', l1, l2, l3⟩ := f i (by omega)
      have : k = k' := hw.2.2.2.2.1 k k' k1 l1 (by rw [k2, l2]; exact hL i (by omega))
      subst this
      rw [← x] at l3
      exact lyA_det (grw_oks e0 e i (by omega)) k3 l3
  rw [← e1, ← f1]; exact this nl (Nat.le_refl _)
set_option maxRecDepth 16384 in
theorem bl_255 {S : yS} (hw : WFy S) {k m : Nat} (hk : k < yB S) (hm : m < yL S k) : blB S k m &&& 255 = blB S k m := hw.2.2.2.2.2.2 _ (by have := hw.2.2.2.2.2.1 k hk; omega)
/-- a tree's object with what belongs to it, whatever it holds -/
def trP (h : px_H) (T : Nat) : Prop := (∃ x, h.2[T]? = some (.inl (3, [.ref (T + 1), .int x]))) ∧ trC h T ∧ ∃ ra, h.2[T + 1]? = some (.inr (12, 80, .inr (.inr ra))) ∧ prm T ra
section CGROW
variable {sx : Nat × (Nat → Int32)} {h : px_H} {S : yS} {Y I C T nl sc : Nat} {Ly : Nat → Int64} {Q : px_O → px_H → Prop}
set_option maxRecDepth 16384 in
theorem c_grow_l (hw : WFy S) (cy : CY h Y S) (hY : Y = 2 ∨ Y = 13) (eT : entT (C + 1)) (hC : h.2[C]? = some (.inl (4, [.ref (C + 1)]))) (hT : treT T) (hCT : C + 2 < T ∨ T + 162 ≤ C) (hCr : 411 ≤ C ∧ C ≠ 413 ∧ C ≠ 414 ∧ C ≠ 415) (hTr : 87 ≤ T) (o : imO h I nl sc Ly) (hI : ¬ clA T C I ∧ ¬ clA T C (I + 1)) (hn : nl ≤ 12) (has : ∀ i, i < nl → hasD S (Ly i))
    (hQ : ∀ t h', grw S nl Ly t → clS h h' T C t → Q (.inl none) h') :
    ∀ d i, i + d = nl → ∀ h1 (ts : Nat → Nat × (Nat → aE)) l5, ts 0 = emp → (∀ j, j < i → ∃ k, k < yB S ∧ yD S k = Ly j ∧ lyA (bvF (blB S k)) (yL S k) (ts j) (ts (j + 1))) → clS h h1 T C (ts i) → px_Wp sx 65 8 [some (.ref C), some (.ref Y), some (.ref I), some (.ref T), some (.int (nI i)), l5] [] h1 Q := by
  intro d
  induction d with
  | zero =>
    intro i hi h1 ts l5 e0 e1 a
    have hi : i = nl := by omega
    subst hi
    have o1 := (a.2.2.2.1.2.2 I hI.1).trans o.1
    simp only [pc65_8, pc65_10, pc65_10n, pc65_11, pc65_14, pc65_65, px_op_some, px_kv_ap, px_ki_ap, px_kl_ap, px_kn_ap, px_kh_ap, px_op_none, px_K_some, px_K_none, px_K_thr, px_kill, ↓reduceIte, if_true, if_false, true_and, and_true, px_gf, px_pf, px_ai, px_aj, px_aa, px_wi, px_wj, px_wa, px_an, px_cls, List.getElem?_cons_zero, List.getElem?_cons_succ, o1, if_pos (Int32.le_refl _)]
    exact hQ _ h1 ⟨ts, e0, rfl, e1⟩ a
  | succ d ih =>
    intro i hi h1 ts l5 e0 e1 a
    have a' := a
    obtain ⟨tr, tok, it, fr, sh⟩ := a'
    have o1 := (fr.2.2 I hI.1).trans o.1
    have o2 := (fr.2.2 (I + 1) hI.2).trans o.2
    have cy1 : CY h1 Y S := CY_frm cy (fun r a b => fr.2.2 r (by unfold clA trA; omega))
    have hC1 := (fr.2.2 C (by unfold clA trA; omega)).trans hC
    obtain ⟨⟨f, a1, a2⟩, b, ⟨D, c1, c2⟩, ⟨st, d1, d2⟩, ⟨ln, f1, f2⟩, -⟩ := cy1
    obtain ⟨k, k1, k2⟩ := has i (by omega)
    have ge : ¬ nI nl ≤ nI i := nI_ge (by omega) (by omega)
    have ii : px_in (nI i) 12 = true := px_inb (by omega) (by decide)
    have ci : (nI i).toNatClampNeg = i := nI_clamp (by omega)
    have k60 := hw.2.2.1
    have ik : px_in (nI k) 60 = true := px_inb (by omega) (by decide)
    have ck : (nI k).toNatClampNeg = k := nI_clamp (by omega)
    have hcY : px_cls h1 Y = some 7 := by unfold px_cls; rw [b]
    have hcC : px_cls h1 C = some 4 := by unfold px_cls; rw [hC1]
    have b' := b
    unfold yrdF at b'
    rw [pc65_8]
    simp only [pc65_10, pc65_10n, pc65_11, pc65_14, pc65_17, pc65_17n, pc65_18, pc65_18n, pc65_19, pc65_22, pc65_24, pc65_25, px_op_some, px_kv_ap, px_ki_ap, px_kl_ap, px_kn_ap, px_kh_ap, px_op_none, px_K_some, px_K_none, px_K_thr, px_kill, ↓reduceIte, if_true, if_false, true_and, and_true, px_gf, px_pf, px_ai, px_aj, px_aa, px_wi, px_wj, px_wa, px_an, px_cls, yr_0, yr_1, tr_0, tr_1, tr_2, tr_3, px_rf, of_2, of_4, in_02, in_12, in_04, in_14, in_24, in_34, Nat.reduceLeDiff, in_01, lgc_self, Int32.reduceToNatClampNeg, wr_at, al_at, px_wr_len, px_al_len, px_wr_1, px_al_1, tg_0, tg_1, tg_2, tg_3, tg_12, tg_15, tg_17, tg_18, tg_i1, tg_b0, tg_b3, px_fit, Nat.reduceEqDiff, Nat.reduceLT, Nat.reduceAdd, Option.some.injEq, up_at, px_wr_wr, i32_le, Int32.reduceLE, Int32.reduceLT, mf_len, nar_0, nar_1, px_KH_some, px_KH_none, px_KH_thr, List.length_cons, List.length_nil, List.getElem?_cons_zero, List.getElem?_cons_succ, List.set_cons_zero, List.set_cons_succ, ↓reduceIte, Nat.lt_irrefl, ne_0_1, ne_0_2, ne_0_3, ne_0_4, ne_0_5, ne_1_0, ne_1_2, ne_1_3, ne_1_4, ne_1_5, ne_2_0, ne_2_1, ne_2_3, ne_2_4, ne_2_5, ne_3_0, ne_3_1, ne_3_2, ne_3_4, ne_3_5, ne_4_0, ne_4_1, ne_4_2, ne_4_3, ne_4_5, ne_5_0, ne_5_1, ne_5_2, ne_5_3, ne_5_4, hd_256_12, hd_256_16, hd_257_12, hd_258_12, hd_259_12, hd_260_12, hd_261_12, hd_261_13, hd_261_16, hd_262_12, hd_262_13, hd_262_16, hd_263_12, hd_263_13, hd_264_12, hd_264_13, hd_264_14, hd_265_12, hd_265_13, hd_265_14, hd_266_12, hd_267_12, hd_267_13, hd_267_14, hd_268_12, hd_269_12, hd_269_14, hd_270_12, hd_271_12, hd_272_12, hd_273_12, hd_273_13, hd_273_15, hd_274_12, hd_274_15, hd_275_12, hd_275_15, hd_276_12, nI_p1, nI_p2, nI_p3, nI_p4, nI_p5, not_true_eq_false, not_false_eq_true, and_self, mf_0, mf_1, mf_2, mf_3, mf_4, mf_5, mf_6, mf_7, mf_8, mf_9, mf_10, mf_11, mf_12, mf_13, mf_14, mf_15, mf_16, mf_17, mf_18, mf_19, mf_20, mf_21, mf_22, mf_23, mf_24, mf_25, mf_26, mf_27, mf_28, mf_29, mf_30, mf_31, mf_32, mf_33, mf_34, mf_35, mf_36, mf_37, mf_38, mf_39, mf_40, mf_41, mf_42, mf_43, mf_44, mf_45, mf_46, mf_47, mf_48, mf_49, mf_50, mf_51, mf_52, mf_53, mf_54, mf_55, mf_56, mf_57, mf_58, mf_59, mf_60, mf_61, mfs_0, mfs_2, mfs_17, mfs_20, mfs_26, mfs_32, mfs_34, mfs_36, mfs_38, mfs_43, mfs_44, mfs_45, mfs_46, mfs_47, iy_0, iy_1, iy_2, iy_3, iy_4, iy_5, iy_6, o1, o2, b', ge, ii, ci, tg_2]
    refine c_find hw.2.2.1 b c1 (fun v hv => ?_)
    have ev : v = nI k := by
      rcases hv with ⟨-, hv⟩ | ⟨j, j1, rfl, j2, -⟩
      · exact absurd ((c2 k k1).trans k2) (hv k k1)
      · have : j = k := hw.2.2.2.2.1 j k j1 k1 (by rw [← c2 j j1, j2, k2])
        rw [this]
    subst ev
    have nm : ¬ nI k = -1 := fun z => by have := nI_nm1 (show k < 1000 by omega); rw [this] at z; exact z
    have dk := d2 k k1
    have fk := f2 k k1
    simp only [px_K_some, pc65_28, pc65_30, pc65_32, pc65_33, pc65_36, pc65_36n, pc65_37, pc65_37n, pc65_38, pc65_41, pc65_41n, pc65_42, pc65_45, pc65_47, pc65_48, pc65_48n, pc65_49, pc65_52, pc65_54, pc65_55, pc65_55n, pc65_56, px_op_some, px_kv_ap, px_ki_ap, px_kl_ap, px_kn_ap, px_kh_ap, px_op_none, px_K_some, px_K_none, px_K_thr, px_kill, ↓reduceIte, if_true, if_false, true_and, and_true, px_gf, px_pf, px_ai, px_aj, px_aa, px_wi, px_wj, px_wa, px_an, px_cls, yr_0, yr_1, tr_0, tr_1, tr_2, tr_3, px_rf, of_2, of_4, in_02, in_12, in_04, in_14, in_24, in_34, Nat.reduceLeDiff, in_01, lgc_self, Int32.reduceToNatClampNeg, wr_at, al_at, px_wr_len, px_al_len, px_wr_1, px_al_1, tg_0, tg_1, tg_2, tg_3, tg_12, tg_15, tg_17, tg_18, tg_i1, tg_b0, tg_b3, px_fit, Nat.reduceEqDiff, Nat.reduceLT, Nat.reduceAdd, Option.some.injEq, up_at, px_wr_wr, i32_le, Int32.reduceLE, Int32.reduceLT, mf_len, nar_0, nar_1, px_KH_some, px_KH_none, px_KH_thr, List.length_cons, List.length_nil, List.getElem?_cons_zero, List.getElem?_cons_succ, List.set_cons_zero, List.set_cons_succ, ↓reduceIte, Nat.lt_irrefl, ne_0_1, ne_0_2, ne_0_3, ne_0_4, ne_0_5, ne_1_0, ne_1_2, ne_1_3, ne_1_4, ne_1_5, ne_2_0, ne_2_1, ne_2_3, ne_2_4, ne_2_5, ne_3_0, ne_3_1, ne_3_2, ne_3_4, ne_3_5, ne_4_0, ne_4_1, ne_4_2, ne_4_3, ne_4_5, ne_5_0, ne_5_1, ne_5_2, ne_5_3, ne_5_4, hd_256_12, hd_256_16, hd_257_12, hd_258_12, hd_259_12, hd_260_12, hd_261_12, hd_261_13, hd_261_16, hd_262_12, hd_262_13, hd_262_16, hd_263_12, hd_263_13, hd_264_12, hd_264_13, hd_264_14, hd_265_12, hd_265_13, hd_265_14, hd_266_12, hd_267_12, hd_267_13, hd_267_14, hd_268_12, hd_269_12, hd_269_14, hd_270_12, hd_271_12, hd_272_12, hd_273_12, hd_273_13, hd_273_15, hd_274_12, hd_274_15, hd_275_12, hd_275_15, hd_276_12, nI_p1, nI_p2, nI_p3, nI_p4, nI_p5, not_true_eq_false, not_false_eq_true, and_self, mf_0, mf_1, mf_2, mf_3, mf_4, mf_5, mf_6, mf_7, mf_8, mf_9, mf_10, mf_11, mf_12, mf_13, mf_14, mf_15, mf_16, mf_17, mf_18, mf_19, mf_20, mf_21, mf_22, mf_23, mf_24, mf_25, mf_26, mf_27, mf_28, mf_29, mf_30, mf_31, mf_32, mf_33, mf_34, mf_35, mf_36, mf_37, mf_38, mf_39, mf_40, mf_41, mf_42, mf_43, mf_44, mf_45, mf_46, mf_47, mf_48, mf_49, mf_50, mf_51, mf_52, mf_53, mf_54, mf_55, mf_56, mf_57, mf_58, mf_59, mf_60, mf_61, mfs_0, mfs_2, mfs_17, mfs_20, mfs_26, mfs_32, mfs_34, mfs_36, mfs_38, mfs_43, mfs_44, mfs_45, mfs_46, mfs_47, iy_0, iy_1, iy_2, iy_3, iy_4, iy_5, iy_6, b', hC1, d1, f1, ik, ck, dk, fk, nm, tg_i1, px_kill]
    have bnd := hw.2.2.2.2.2.1 k k1
    refine c_apply (B := bvF (blB S k)) (L := yL S k) eT hC1 it (show Y + 1 + 1 < 85 by omega) hT hCT hCr a1 (by omega) (fun j hj => ?_) tr tok (fun t' h2 ly cs => ?_)
    · rw [a2 _ (by omega)]
      have e := bvF_ok (blB S k) j
      rw [bl_255 hw k1 hj] at e
      exact e
    · simp only [px_K_none, pc65_59, pc65_62, px_kill, nI_1]
      refine ih (i + 1) (by omega) h2 (px_up ts (i + 1) t') _ (by rw [up_ne (by omega)]; exact e0) (fun j hj => ?_) (by rw [up_same]; exact ⟨cs.1, cs.2.1, cs.2.2.1, frm_trans fr cs.2.2.2.1, fun s => cs.2.2.2.2 (sh s)⟩)
      by_cases x : j = i
      · subst x; rw [up_same, up_ne (by omega)]; exact ⟨k, k1, k2, ly⟩
      · rw [up_ne (by omega), up_ne (by omega)]; exact e1 j (by omega)
set_option maxRecDepth 16384 in
theorem c_grow (hw : WFy S) (cy : CY h Y S) (hY : Y = 2 ∨ Y = 13) (eT : entT (C + 1)) (hC : h.2[C]? = some (.inl (4, [.ref (C + 1)]))) (it : itC h (C + 1)) (hT : treT T) (tp : trP h T) (hCT : C + 2 < T ∨ T + 162 ≤ C) (hCr : 411 ≤ C ∧ C ≠ 413 ∧ C ≠ 414 ∧ C ≠ 415) (hTr : 87 ≤ T) (o : imO h I nl sc Ly) (hI : ¬ clA T C I ∧ ¬ clA T C (I + 1)) (hn : nl ≤ 12) (has : ∀ i, i < nl → hasD S (Ly i))
    (hQ : ∀ t h', grw S nl Ly t → clS h h' T C t → Q (.inl none) h') :
    px_Wp sx 65 0 [some (.ref C), some (.ref Y), some (.ref I), some (.ref T), none, none] [] h Q := by
  obtain ⟨⟨x, t1⟩, t2, ra, t3, t4⟩ := tp
  have hl : T < h.2.length := (List.getElem?_eq_some_iff.mp t1).1
  simp only [pc65_0, pc65_0n, pc65_1, pc65_2, pc65_5, pc65_6, px_op_some, px_kv_ap, px_ki_ap, px_kl_ap, px_kn_ap, px_kh_ap, px_op_none, px_K_some, px_K_none, px_K_thr, px_kill, ↓reduceIte, if_true, if_false, true_and, and_true, px_gf, px_pf, px_ai, px_aj, px_aa, px_wi, px_wj, px_wa, px_an, px_cls, yr_0, yr_1, tr_0, tr_1, tr_2, tr_3, px_rf, of_2, of_4, in_02, in_12, in_04, in_14, in_24, in_34, Nat.reduceLeDiff, in_01, lgc_self, Int32.reduceToNatClampNeg, wr_at, al_at, px_wr_len, px_al_len, px_wr_1, px_al_1, tg_0, tg_1, tg_2, tg_3, tg_12, tg_15, tg_17, tg_18, tg_i1, tg_b0, tg_b3, px_fit, Nat.reduceEqDiff, Nat.reduceLT, Nat.reduceAdd, Option.some.injEq, up_at, px_wr_wr, i32_le, Int32.reduceLE, Int32.reduceLT, mf_len, nar_0, nar_1, px_KH_some, px_KH_none, px_KH_thr, List.length_cons, List.length_nil, List.getElem?_cons_zero, List.getElem?_cons_succ, List.set_cons_zero, List.set_cons_succ, ↓reduceIte, Nat.lt_irrefl, ne_0_1, ne_0_2, ne_0_3, ne_0_4, ne_0_5, ne_1_0, ne_1_2, ne_1_3, ne_1_4, ne_1_5, ne_2_0, ne_2_1, ne_2_3, ne_2_4, ne_2_5, ne_3_0, ne_3_1, ne_3_2, ne_3_4, ne_3_5, ne_4_0, ne_4_1, ne_4_2, ne_4_3, ne_4_5, ne_5_0, ne_5_1, ne_5_2, ne_5_3, ne_5_4, hd_256_12, hd_256_16, hd_257_12, hd_258_12, hd_259_12, hd_260_12, hd_261_12, hd_261_13, hd_261_16, hd_262_12, hd_262_13, hd_262_16, hd_263_12, hd_263_13, hd_264_12, hd_264_13, hd_264_14, hd_265_12, hd_265_13, hd_265_14, hd_266_12, hd_267_12, hd_267_13, hd_267_14, hd_268_12, hd_269_12, hd_269_14, hd_270_12, hd_271_12, hd_272_12, hd_273_12, hd_273_13, hd_273_15, hd_274_12, hd_274_15, hd_275_12, hd_275_15, hd_276_12, nI_p1, nI_p2, nI_p3, nI_p4, nI_p5, not_true_eq_false, not_false_eq_true, and_self, mf_0, mf_1, mf_2, mf_3, mf_4, mf_5, mf_6, mf_7, mf_8, mf_9, mf_10, mf_11, mf_12, mf_13, mf_14, mf_15, mf_16, mf_17, mf_18, mf_19, mf_20, mf_21, mf_22, mf_23, mf_24, mf_25, mf_26, mf_27, mf_28, mf_29, mf_30, mf_31, mf_32, mf_33, mf_34, mf_35, mf_36, mf_37, mf_38, mf_39, mf_40, mf_41, mf_42, mf_43, mf_44, mf_45, mf_46, mf_47, mf_48, mf_49, mf_50, mf_51, mf_52, mf_53, mf_54, mf_55, mf_56, mf_57, mf_58, mf_59, mf_60, mf_61, mfs_0, mfs_2, mfs_17, mfs_20, mfs_26, mfs_32, mfs_34, mfs_36, mfs_38, mfs_43, mfs_44, mfs_45, mfs_46, mfs_47, iy_0, iy_1, iy_2, iy_3, iy_4, iy_5, iy_6, t1, px_kill]
  refine c_grow_l hw cy hY eT hC hT hCT hCr hTr o hI hn has hQ nl 0 (by omega) _ (fun _ => emp) none rfl (fun j hj => absurd hj (Nat.not_lt_zero j)) ⟨⟨?_, fun k hk => ?_, ra, ?_, t4, fun i hi => absurd hi (Nat.not_lt_zero i)⟩, emp_ok, itC_frm it ?_ ?_, frm_wr (frm_refl _ _) (.inl (by unfold trA; omega)), fun s => shape_wr s (by rw [hT.1]; rfl)⟩
  · rw [wr_at, if_pos rfl, if_pos hl]; rfl
  · exact itC_frm (t2 k hk) (by rw [wr_at, if_neg (by omega)]) (by rw [wr_at, if_neg (by omega)])
  · rw [wr_at, if_neg (by omega)]; exact t3
  · rw [wr_at, if_neg (by omega)]
  · rw [wr_at, if_neg (by omega)]
end CGROW
def mGA (r : Nat) : Prop := mEL r ∨ r = 636
/-- the reference's tree is t -/
def mgS (h h1 : px_H) (V : Nat → Int32) (t : Nat × (Nat → aE)) : Prop := ∃ V1, h1.2[619]? = some (.inl (11, modF V1)) ∧ V1 20 = nI t.1 ∧ (∀ j, j ≠ 17 → j ≠ 20 → j ≠ 32 → V1 j = V j) ∧ mtE h1 (fun i => i < t.1) t.2 ∧ tOK t.1 t.2 ∧ (∃ g, h1.2[647]? = some (.inr (1, 240, .inl g))) ∧ (∃ row, h1.2[636]? = some (.inr (1, 40100, .inl row))) ∧ frm mGA h h1 ∧ (shape h → shape h1)
section MGROW
variable {sx : Nat × (Nat → Int32)} {h : px_H} {S : yS} {q nl : Nat} {V : Nat → Int32} {Ly : Nat → Int64} {Q : px_O → px_H → Prop}
set_option maxRecDepth 16384 in
theorem m_grow_l (hw : WFy S) (hl : 668 < h.2.length) (hq : q < 2) (ry : RY h q S) (hv : V 36 = nI nl) (hLy : h.2[649]? = some (.inr (2, 13, .inr (.inl Ly)))) (hn : nl ≤ 12) (has : ∀ i, i < nl → hasD S (Ly i))
    (hQ : ∀ t h', grw S nl Ly t → mgS h h' V t → Q (.inl none) h') :
    ∀ d i, i + d = nl → ∀ h1 (ts : Nat → Nat × (Nat → aE)), ts 0 = emp → (∀ j, j < i → ∃ k, k < yB S ∧ yD S k = Ly j ∧ lyA (bvF (blB S k)) (yL S k) (ts j) (ts (j + 1))) → mgS h h1 V (ts i) → px_Wp sx 174 7 [some (.ref 619), some (.int (nI q)), some (.int (nI i))] [] h1 Q := by
  intro d
  induction d with
  | zero =>
    intro i hi h1 ts e0 e1 a
    have hi : i = nl := by omega
    subst hi
    have a' := a
    obtain ⟨V1, b6, v20, vj, -⟩ := a'
    have v36 : V1 36 = nI i := (vj 36 (by decide) (by decide) (by decide)).trans hv
    simp only [pc174_7, pc174_8, pc174_8n, pc174_9, pc174_12, pc174_41, px_op_some, px_kv_ap, px_ki_ap, px_kl_ap, px_kn_ap, px_kh_ap, px_op_none, px_K_some, px_K_none, px_K_thr, px_kill, ↓reduceIte, if_true, if_false, true_and, and_true, px_gf, b6, mf_36, v36, if_pos (Int32.le_refl _)]
    exact hQ _ h1 ⟨ts, e0, rfl, e1⟩ a
  | succ d ih =>
    intro i hi h1 ts e0 e1 a
    obtain ⟨V1, b6, v20, vj, w, tok, ⟨g, bg⟩, ⟨row, br⟩, fr, sh⟩ := a
    have v36 : V1 36 = nI nl := (vj 36 (by decide) (by decide) (by decide)).trans hv
    have ry1 : RY h1 q S := RY_frm ry (fun r a b => fr.2.2 r (by unfold mGA mEL mEB mEA; omega))
    have hLy1 := (fr.2.2 649 (by unfold mGA mEL mEB mEA; omega)).trans hLy
    have hl1 : 668 < h1.2.length := by rw [fr.2.1]; exact hl
    obtain ⟨-, -, -, ⟨bl, g1, g2⟩, ⟨D, g3, g4⟩, ⟨frm_, sz, bt, us, U, k1, k2, k3, k4, k5, k6, k7⟩, -⟩ := ry1
    obtain ⟨k, m1, m2⟩ := has i (by omega)
    obtain ⟨z1, u, z2, z3, z4⟩ := k7 k m1
    have hB := hw.2.2.1
    have hR := hw.1
    have ge : ¬ nI nl ≤ nI i := nI_ge (by omega) (by omega)
    have ii : px_in (nI i) 13 = true := px_inb (by omega) (by decide)
    have ci : (nI i).toNatClampNeg = i := nI_clamp (by omega)
    have hc1 : px_cls h1 619 = some 11 := by unfold px_cls; rw [b6]
    rw [pc174_7]
    simp only [pc174_8, pc174_8n, pc174_9, pc174_12, pc174_15, pc174_15n, pc174_16, pc174_17, pc174_17n, pc174_18, pc174_19, pc174_19n, pc174_20, pc174_23, pc174_24, pc174_25, px_op_some, px_kv_ap, px_ki_ap, px_kl_ap, px_kn_ap, px_kh_ap, px_op_none, px_K_some, px_K_none, px_K_thr, px_kill, ↓reduceIte, if_true, if_false, true_and, and_true, px_gf, px_aj, b6, hLy1, mf_36, mf_37, v36, ge, ii, ci, and_self, hc1]
    refine m_find hq hB g2 b6 g1 g3 (fun v hv => ?_)
    have ev : v = nI k := by
      rcases hv with ⟨-, hv⟩ | ⟨j, j1, rfl, j2, -⟩
      · exact absurd ((g4 k m1).trans m2) (hv k m1)
      · have : j = k := hw.2.2.2.2.1 j k j1 m1 (by rw [← g4 j j1, j2, m2])
        rw [this]
    subst ev
    simp only [px_K_some, pc174_28, px_op_some, px_kv_ap, px_ki_ap, px_kl_ap, px_kn_ap, px_kh_ap, px_op_none, px_K_some, px_K_none, px_K_thr, px_kill, ↓reduceIte, if_true, if_false, true_and, and_true, hc1]
    have bnd := hw.2.2.2.2.2.1 k m1
    refine m_rowFromBlob (bb := blB S k) hl1 hq (by omega) b6 br k1 k2 k3 z2 z1 (by omega) (fun m hm => by rw [z4 m hm]; exact bl_255 hw m1 hm) (fun row' wr => ?_)
    have o6 : (outH h1 (px_up V1 17 (nI (yL S k))) row').2[619]? = some (.inl (11, modF (px_up V1 17 (nI (yL S k))))) := outH_o (by omega)
    have or_ : (outH h1 (px_up V1 17 (nI (yL S k))) row').2[636]? = some (.inr (1, 40100, .inl row')) := outH_r (by omega)
    have og : (outH h1 (px_up V1 17 (nI (yL S k))) row').2[647]? = some (.inr (1, 240, .inl g)) := by rw [outH_at (by decide) (by decide)]; exact bg
    have ow : mtE (outH h1 (px_up V1 17 (nI (yL S k))) row') (fun i_1 => i_1 < (ts i).1) (ts i).2 := mtE_frm w (fun r hr => outH_at (by unfold mEA at hr; omega) (by unfold mEA at hr; omega))
    have of_ : frm mGA h (outH h1 (px_up V1 17 (nI (yL S k))) row') := frm_wr (frm_wr fr (.inr rfl)) (.inl (.inl (.inr rfl)))
    have os : shape h → shape (outH h1 (px_up V1 17 (nI (yL S k))) row') := fun s => by
      have e : (px_wr h1 636 (.inr (1, 40100, .inl row'))).2[619]? = some (.inl (11, modF V1)) := by rw [wr_at, if_neg (by decide)]; exact b6
      exact shape_int (k := 17) (shape_ia (sh s) br) e rfl
    generalize outH h1 (px_up V1 17 (nI (yL S k))) row' = h2 at o6 or_ og ow of_ os ⊢
    have hc2 : px_cls h2 619 = some 11 := by unfold px_cls; rw [o6]
    simp only [px_K_none, pc174_31, pc174_31n, pc174_32, px_op_some, px_kv_ap, px_ki_ap, px_kl_ap, px_kn_ap, px_kh_ap, px_op_none, px_K_some, px_K_none, px_K_thr, px_kill, ↓reduceIte, if_true, if_false, true_and, and_true, hc2]
    refine m_applyLayer (B := bvF (blB S k)) (L := yL S k) o6 or_ (up_same _ _ _) (by omega) (fun j hj => ?_) (by rw [up_ne (by decide)]; exact v20) ow tok ⟨g, og⟩ (fun t' h3 ly as_ => ?_)
    · have e := bvF_ok (blB S k) j
      rw [bl_255 hw m1 hj] at e
      have e2 := wr.2 j hj
      rw [Nat.zero_add] at e2
      rw [e2]; exact e
    · obtain ⟨V3, c6, c20, cj, cw, ctok, cg, cfr, csh⟩ := as_
      simp only [px_K_none, pc174_35, pc174_38, px_kill, nI_1]
      refine ih (i + 1) (by omega) h3 (px_up ts (i + 1) t') (by rw [up_ne (by omega)]; exact e0) (fun j hj => ?_) ?_
      · by_cases x : j = i
        · subst x; rw [up_same, up_ne (by omega)]; exact ⟨k, m1, m2, ly⟩
        · rw [up_ne (by omega), up_ne (by omega)]; exact e1 j (by omega)
      · rw [up_same]
        refine ⟨V3, c6, c20, fun j a b c => ?_, cw, ctok, cg, ⟨row', (cfr.2.2 636 (by unfold mEL mEB mEA; omega)).trans or_⟩, frm_trans of_ (frm_mono cfr (fun r z => .inl z)), fun s => csh (os s)⟩
        rw [cj j b c, up_ne a]; exact vj j a b c
set_option maxRecDepth 16384 in
theorem m_growTree {P LN K Z C row g : Nat → Int32} (hw : WFy S) (hl : 668 < h.2.length) (hq : q < 2) (ry : RY h q S) (h6 : h.2[619]? = some (.inl (11, modF V))) (hv : V 36 = nI nl) (hLy : h.2[649]? = some (.inr (2, 13, .inr (.inl Ly)))) (mc : mtC h P LN K Z C) (hr : h.2[636]? = some (.inr (1, 40100, .inl row))) (hg : h.2[647]? = some (.inr (1, 240, .inl g))) (hn : nl ≤ 12) (has : ∀ i, i < nl → hasD S (Ly i))
    (hQ : ∀ t h', grw S nl Ly t → mgS h h' V t → Q (.inl none) h') :
    px_Wp sx 174 0 [some (.ref 619), some (.int (nI q)), none] [] h Q := by
  have L6 : 619 < h.2.length := (List.getElem?_eq_some_iff.mp h6).1
  obtain ⟨a1, a2, a3, a4, a5⟩ := mc
  simp only [pc174_0, pc174_0n, pc174_1, pc174_2, pc174_5, pc174_6, px_op_some, px_kv_ap, px_ki_ap, px_kl_ap, px_kn_ap, px_kh_ap, px_op_none, px_K_some, px_K_none, px_K_thr, px_kill, ↓reduceIte, if_true, if_false, true_and, and_true, yr_0, yr_1, tr_0, tr_1, tr_2, tr_3, px_rf, of_2, of_4, in_02, in_12, in_04, in_14, in_24, in_34, Nat.reduceLeDiff, in_01, lgc_self, Int32.reduceToNatClampNeg, wr_at, al_at, px_wr_len, px_al_len, px_wr_1, px_al_1, tg_0, tg_1, tg_2, tg_3, tg_12, tg_15, tg_17, tg_18, tg_i1, tg_b0, tg_b3, px_fit, Nat.reduceEqDiff, Nat.reduceLT, Nat.reduceAdd, Option.some.injEq, up_at, px_wr_wr, i32_le, Int32.reduceLE, Int32.reduceLT, mf_len, nar_0, nar_1, px_KH_some, px_KH_none, px_KH_thr, List.length_cons, List.length_nil, List.getElem?_cons_zero, List.getElem?_cons_succ, List.set_cons_zero, List.set_cons_succ, ↓reduceIte, Nat.lt_irrefl, ne_0_1, ne_0_2, ne_0_3, ne_0_4, ne_0_5, ne_1_0, ne_1_2, ne_1_3, ne_1_4, ne_1_5, ne_2_0, ne_2_1, ne_2_3, ne_2_4, ne_2_5, ne_3_0, ne_3_1, ne_3_2, ne_3_4, ne_3_5, ne_4_0, ne_4_1, ne_4_2, ne_4_3, ne_4_5, ne_5_0, ne_5_1, ne_5_2, ne_5_3, ne_5_4, hd_256_12, hd_256_16, hd_257_12, hd_258_12, hd_259_12, hd_260_12, hd_261_12, hd_261_13, hd_261_16, hd_262_12, hd_262_13, hd_262_16, hd_263_12, hd_263_13, hd_264_12, hd_264_13, hd_264_14, hd_265_12, hd_265_13, hd_265_14, hd_266_12, hd_267_12, hd_267_13, hd_267_14, hd_268_12, hd_269_12, hd_269_14, hd_270_12, hd_271_12, hd_272_12, hd_273_12, hd_273_13, hd_273_15, hd_274_12, hd_274_15, hd_275_12, hd_275_15, hd_276_12, nI_p1, nI_p2, nI_p3, nI_p4, nI_p5, not_true_eq_false, not_false_eq_true, and_self, mf_0, mf_1, mf_2, mf_3, mf_4, mf_5, mf_6, mf_7, mf_8, mf_9, mf_10, mf_11, mf_12, mf_13, mf_14, mf_15, mf_16, mf_17, mf_18, mf_19, mf_20, mf_21, mf_22, mf_23, mf_24, mf_25, mf_26, mf_27, mf_28, mf_29, mf_30, mf_31, mf_32, mf_33, mf_34, mf_35, mf_36, mf_37, mf_38, mf_39, mf_40, mf_41, mf_42, mf_43, mf_44, mf_45, mf_46, mf_47, mf_48, mf_49, mf_50, mf_51, mf_52, mf_53, mf_54, mf_55, mf_56, mf_57, mf_58, mf_59, mf_60, mf_61, mfs_0, mfs_2, mfs_17, mfs_20, mfs_26, mfs_32, mfs_34, mfs_36, mfs_38, mfs_43, mfs_44, mfs_45, mfs_46, mfs_47, iy_0, iy_1, iy_2, iy_3, iy_4, iy_5, iy_6, px_pf, h6, px_kill]
  refine m_grow_l (V := V) hw hl hq ry hv hLy hn has hQ nl 0 (by omega) _ (fun _ => emp) rfl (fun j hj => absurd hj (Nat.not_lt_zero j)) ⟨px_up V 20 0, ?_, by rw [up_same]; rfl, fun j a b c => up_ne b, ⟨P, LN, K, Z, C, ⟨?_, ?_, ?_, ?_, ?_⟩, fun i hi => absurd hi (Nat.not_lt_zero i)⟩, emp_ok, ⟨g, ?_⟩, ⟨row, ?_⟩, frm_wr (frm_refl _ _) (.inl (.inl (.inr rfl))), fun s => shape_int (k := 20) s h6 rfl⟩
  · rw [wr_at, if_pos rfl, if_pos L6]
  · rw [wr_at, if_neg (by decide)]; exact a1
  · rw [wr_at, if_neg (by decide)]; exact a2
  · rw [wr_at, if_neg (by decide)]; exact a3
  · rw [wr_at, if_neg (by decide)]; exact a4
  · rw [wr_at, if_neg (by decide)]; exact a5
  · rw [wr_at, if_neg (by decide)]; exact hg
  · rw [wr_at, if_neg (by decide)]; exact hr
end MGROW
