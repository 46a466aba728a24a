/-! TREES, the class's: insert, whole; a tree's templates -/
/-- a tree's place among the cells -/
def treT (T : Nat) : Prop := tmpl T = .inl (3, [.ref (T + 1), .int 0]) ∧ (∃ f, tmpl (T + 1) = .inr (12, 80, .inr (.inr f))) ∧ (∀ k, k < 80 → entT (T + 2 + 2 * k)) ∧ ∀ r, srcOK r → ¬ trA T r ∧ ¬ trA T (r + 1)
def chkE (O : Nat) : px_C → Bool
  | .inl (2, [.ref a, .int x, .int y, .null, .int z, .int w]) => a == O + 1 && x == 0 && y == 0 && z == 0 && w == 0
  | _ => false
set_option maxRecDepth 16384 in
theorem chkE_eq {O : Nat} {c : px_C} (h : chkE O c = true) : c = .inl (2, [.ref (O + 1), .int 0, .int 0, .null, .int 0, .int 0]) := by
  unfold chkE at h
  split at h
  · simp only [Bool.and_eq_true, beq_iff_eq] at h
    obtain ⟨⟨⟨⟨rfl, rfl⟩, rfl⟩, rfl⟩, rfl⟩ := h
    rfl
  · cases h
section CINS2
variable {sx : Nat × (Nat → Int32)} {h : px_H} {T n a O l : Nat} {E : Nat → aE} {p : Nat → Nat} {Q : px_O → px_H → Prop}
set_option maxRecDepth 16384 in
theorem c_insert_full (t : trR h T 80 E) (ha : a ≤ 80) (hQ : Q (.inl (some .null)) h) : px_Wp sx 60 0 [some (.ref T), some (.int (nI a)), some (.ref O), none, none] [] h Q := by
  obtain ⟨t1, t2, ra, t3, t4, t5⟩ := t
  have p0 : ¬ nI a < 0 := nI_pos (by omega)
  have g1 : ¬ nI 80 < nI a := nI_nlt ha (by decide)
  have g2 : ¬ nI 80 < 80 := by decide
  simp only [pc60_0, pc60_1, pc60_4, pc60_5, pc60_5n, pc60_6, pc60_9, pc60_12, pc60_12n, pc60_13, pc60_16, pc60_16n, pc60_17, pc60_20, pc60_21, pc60_24, pc60_25n, pc60_25, pc60_25n, px_op_some, px_kv_ap, px_ki_ap, px_kl_ap, px_kn_ap, px_kh_ap, px_op_none, px_K_some, px_K_none, px_K_thr, px_kill, ↓reduceIte, if_true, if_false, true_and, and_true, px_gf, px_pf, px_ai, px_aj, px_aa, px_wi, px_wj, px_wa, px_an, px_cls, yr_0, yr_1, tr_0, tr_1, tr_2, tr_3, px_rf, of_2, of_4, in_02, in_12, in_04, in_14, in_24, in_34, Nat.reduceLeDiff, in_01, lgc_self, Int32.reduceToNatClampNeg, wr_at, al_at, px_wr_len, px_al_len, px_wr_1, px_al_1, tg_0, tg_1, tg_2, tg_3, tg_12, tg_15, tg_17, tg_18, tg_i1, tg_b0, tg_b3, px_fit, Nat.reduceEqDiff, Nat.reduceLT, Nat.reduceAdd, Option.some.injEq, up_at, px_wr_wr, i32_le, Int32.reduceLE, Int32.reduceLT, mf_len, nar_0, nar_1, px_KH_some, px_KH_none, px_KH_thr, List.length_cons, List.length_nil, List.getElem?_cons_zero, List.getElem?_cons_succ, List.set_cons_zero, List.set_cons_succ, ↓reduceIte, Nat.lt_irrefl, ne_0_1, ne_0_2, ne_0_3, ne_0_4, ne_0_5, ne_1_0, ne_1_2, ne_1_3, ne_1_4, ne_1_5, ne_2_0, ne_2_1, ne_2_3, ne_2_4, ne_2_5, ne_3_0, ne_3_1, ne_3_2, ne_3_4, ne_3_5, ne_4_0, ne_4_1, ne_4_2, ne_4_3, ne_4_5, ne_5_0, ne_5_1, ne_5_2, ne_5_3, ne_5_4, hd_256_12, hd_256_16, hd_257_12, hd_258_12, hd_259_12, hd_260_12, hd_261_12, hd_261_13, hd_261_16, hd_262_12, hd_262_13, hd_262_16, hd_263_12, hd_263_13, hd_264_12, hd_264_13, hd_264_14, hd_265_12, hd_265_13, hd_265_14, hd_266_12, hd_267_12, hd_267_13, hd_267_14, hd_268_12, hd_269_12, hd_269_14, hd_270_12, hd_271_12, hd_272_12, hd_273_12, hd_273_13, hd_273_15, hd_274_12, hd_274_15, hd_275_12, hd_275_15, hd_276_12, nI_p1, nI_p2, nI_p3, nI_p4, nI_p5, not_true_eq_false, not_false_eq_true, and_self, mf_0, mf_1, mf_2, mf_3, mf_4, mf_5, mf_6, mf_7, mf_8, mf_9, mf_10, mf_11, mf_12, mf_13, mf_14, mf_15, mf_16, mf_17, mf_18, mf_19, mf_20, mf_21, mf_22, mf_23, mf_24, mf_25, mf_26, mf_27, mf_28, mf_29, mf_30, mf_31, mf_32, mf_33, mf_34, mf_35, mf_36, mf_37, mf_38, mf_39, mf_40, mf_41, mf_42, mf_43, mf_44, mf_45, mf_46, mf_47, mf_48, mf_49, mf_50, mf_51, mf_52, mf_53, mf_54, mf_55, mf_56, mf_57, mf_58, mf_59, mf_60, mf_61, mfs_0, mfs_2, mfs_17, mfs_20, mfs_26, mfs_32, mfs_34, mfs_36, mfs_38, mfs_43, mfs_44, mfs_45, mfs_46, mfs_47, iy_0, iy_1, iy_2, iy_3, iy_4, iy_5, iy_6, t1, t3, p0, g1, g2, tg_12]
  exact hQ
set_option maxRecDepth 16384 in
theorem c_insert {e0 : aE} (t : trR h T n E) (hT : treT T) (hn : n < 80) (han : a ≤ n) (b : enP h O l p) (hO : ¬ trA T O ∧ ¬ trA T (O + 1))
    (hQ : ∀ h' F, trX h' T (n + 1) (insE E a e0) a F l p → frm (trA T) h h' → (shape h → shape h') → Q (.inl (some (.ref F))) h') :
    px_Wp sx 60 0 [some (.ref T), some (.int (nI a)), some (.ref O), none, none] [] h Q := by
  obtain ⟨t1, t2, ra, t3, t4, t5⟩ := t
  have hl : T + 1 < h.2.length := (List.getElem?_eq_some_iff.mp t3).1
  have p0 : ¬ nI a < 0 := nI_pos (by omega)
  have g1 : ¬ nI n < nI a := nI_nlt han (by omega)
  have g2 : nI n < Int32.ofNat 80 := nI_lt (b := 80) hn (by decide)
  have inn : px_in (nI n) 80 = true := px_inb hn (by decide)
  have cn : (nI n).toNatClampNeg = n := nI_clamp (by omega)
  have ia : px_in (nI a) 80 = true := px_inb (by omega) (by decide)
  have ca : (nI a).toNatClampNeg = a := nI_clamp (by omega)
  obtain ⟨k, k1, k2⟩ := prm_at t4 hn
  simp only [pc60_0, pc60_1, pc60_4, pc60_5, pc60_5n, pc60_6, pc60_9, pc60_12, pc60_12n, pc60_13, pc60_16, pc60_16n, pc60_17, pc60_20, pc60_21, pc60_24, pc60_25n, pc60_25, pc60_26, pc60_26n, pc60_27, pc60_30, pc60_30n, pc60_31, pc60_34, pc60_35, pc60_35n, pc60_36, pc60_36n, pc60_37, pc60_40, px_op_some, px_kv_ap, px_ki_ap, px_kl_ap, px_kn_ap, px_kh_ap, px_op_none, px_K_some, px_K_none, px_K_thr, px_kill, ↓reduceIte, if_true, if_false, true_and, and_true, px_gf, px_pf, px_ai, px_aj, px_aa, px_wi, px_wj, px_wa, px_an, px_cls, yr_0, yr_1, tr_0, tr_1, tr_2, tr_3, px_rf, of_2, of_4, in_02, in_12, in_04, in_14, in_24, in_34, Nat.reduceLeDiff, in_01, lgc_self, Int32.reduceToNatClampNeg, wr_at, al_at, px_wr_len, px_al_len, px_wr_1, px_al_1, tg_0, tg_1, tg_2, tg_3, tg_12, tg_15, tg_17, tg_18, tg_i1, tg_b0, tg_b3, px_fit, Nat.reduceEqDiff, Nat.reduceLT, Nat.reduceAdd, Option.some.injEq, up_at, px_wr_wr, i32_le, Int32.reduceLE, Int32.reduceLT, mf_len, nar_0, nar_1, px_KH_some, px_KH_none, px_KH_thr, List.length_cons, List.length_nil, List.getElem?_cons_zero, List.getElem?_cons_succ, List.set_cons_zero, List.set_cons_succ, ↓reduceIte, Nat.lt_irrefl, ne_0_1, ne_0_2, ne_0_3, ne_0_4, ne_0_5, ne_1_0, ne_1_2, ne_1_3, ne_1_4, ne_1_5, ne_2_0, ne_2_1, ne_2_3, ne_2_4, ne_2_5, ne_3_0, ne_3_1, ne_3_2, ne_3_4, ne_3_5, ne_4_0, ne_4_1, ne_4_2, ne_4_3, ne_4_5, ne_5_0, ne_5_1, ne_5_2, ne_5_3, ne_5_4, hd_256_12, hd_256_16, hd_257_12, hd_258_12, hd_259_12, hd_260_12, hd_261_12, hd_261_13, hd_261_16, hd_262_12, hd_262_13, hd_262_16, hd_263_12, hd_263_13, hd_264_12, hd_264_13, hd_264_14, hd_265_12, hd_265_13, hd_265_14, hd_266_12, hd_267_12, hd_267_13, hd_267_14, hd_268_12, hd_269_12, hd_269_14, hd_270_12, hd_271_12, hd_272_12, hd_273_12, hd_273_13, hd_273_15, hd_274_12, hd_274_15, hd_275_12, hd_275_15, hd_276_12, nI_p1, nI_p2, nI_p3, nI_p4, nI_p5, not_true_eq_false, not_false_eq_true, and_self, mf_0, mf_1, mf_2, mf_3, mf_4, mf_5, mf_6, mf_7, mf_8, mf_9, mf_10, mf_11, mf_12, mf_13, mf_14, mf_15, mf_16, mf_17, mf_18, mf_19, mf_20, mf_21, mf_22, mf_23, mf_24, mf_25, mf_26, mf_27, mf_28, mf_29, mf_30, mf_31, mf_32, mf_33, mf_34, mf_35, mf_36, mf_37, mf_38, mf_39, mf_40, mf_41, mf_42, mf_43, mf_44, mf_45, mf_46, mf_47, mf_48, mf_49, mf_50, mf_51, mf_52, mf_53, mf_54, mf_55, mf_56, mf_57, mf_58, mf_59, mf_60, mf_61, mfs_0, mfs_2, mfs_17, mfs_20, mfs_26, mfs_32, mfs_34, mfs_36, mfs_38, mfs_43, mfs_44, mfs_45, mfs_46, mfs_47, iy_0, iy_1, iy_2, iy_3, iy_4, iy_5, iy_6, t1, t3, p0, g1, g2, inn, cn, k2, px_rf, tg_12, Nat.reduceLeDiff, px_kill]
  have ex := c_ins_l (sx := sx) (Q := Q) (O := O) (F := T + 2 + 2 * k) (ra := ra) t1 t2 hl hn han t4 (fun ra' r1 r2 r3 => ?_) (n - a) n (by omega) (Nat.le_refl _) ra (fun _ _ => rfl) (fun j j1 j2 => absurd j2 (by omega)) (fun _ _ => rfl)
  · rw [wr_id t3] at ex; exact ex
  have z1 : ∀ x : px_C, (px_wr h (T + 1) x).2[T]? = some (.inl (3, [.ref (T + 1), .int (nI n)])) := fun x => by rw [wr_at, if_neg (by omega)]; exact t1
  have z2 : ∀ x : px_C, (px_wr h (T + 1) x).2[T + 1]? = some x := fun x => by rw [wr_at, if_pos rfl, if_pos hl]
  obtain ⟨lF, kd, src, st, cF, g0, o1, o2⟩ := t2 k k1
  have f1 : (px_wr h (T + 1) (.inr (12, 80, .inr (.inr ra')))).2[T + 2 + 2 * k]? = some (.inl (2, enF (T + 2 + 2 * k) lF kd src st cF)) := by rw [wr_at, if_neg (by omega)]; exact o1
  have f2 : (px_wr (px_wr h (T + 1) (.inr (12, 80, .inr (.inr (px_up ra' a (some (T + 2 + 2 * k))))))) T (.inl (3, [.ref (T + 1), .int (nI (n + 1))]))).2[T + 2 + 2 * k]? = some (.inl (2, enF (T + 2 + 2 * k) lF kd src st cF)) := by rw [wr_at, if_neg (by omega), wr_at, if_neg (by omega)]; exact o1
  have f1' := f1
  have f2' := f2
  unfold enF at f1' f2'
  simp only [pc60_70, pc60_70n, pc60_71, pc60_74, pc60_75, pc60_75n, pc60_76, pc60_77, pc60_77n, pc60_78, pc60_78r, pc60_79, pc60_82, pc60_83, pc60_84, pc60_87, pc60_87n, pc60_88, pc60_88n, pc60_89, px_op_some, px_kv_ap, px_ki_ap, px_kl_ap, px_kn_ap, px_kh_ap, px_op_none, px_K_some, px_K_none, px_K_thr, px_kill, ↓reduceIte, if_true, if_false, true_and, and_true, px_gf, px_pf, px_wa, yr_0, yr_1, tr_0, tr_1, tr_2, tr_3, px_rf, of_2, of_4, in_02, in_12, in_04, in_14, in_24, in_34, Nat.reduceLeDiff, in_01, lgc_self, Int32.reduceToNatClampNeg, wr_at, al_at, px_wr_len, px_al_len, px_wr_1, px_al_1, tg_0, tg_1, tg_2, tg_3, tg_12, tg_15, tg_17, tg_18, tg_i1, tg_b0, tg_b3, px_fit, Nat.reduceEqDiff, Nat.reduceLT, Nat.reduceAdd, Option.some.injEq, up_at, px_wr_wr, i32_le, Int32.reduceLE, Int32.reduceLT, mf_len, nar_0, nar_1, px_KH_some, px_KH_none, px_KH_thr, List.length_cons, List.length_nil, List.getElem?_cons_zero, List.getElem?_cons_succ, List.set_cons_zero, List.set_cons_succ, ↓reduceIte, Nat.lt_irrefl, ne_0_1, ne_0_2, ne_0_3, ne_0_4, ne_0_5, ne_1_0, ne_1_2, ne_1_3, ne_1_4, ne_1_5, ne_2_0, ne_2_1, ne_2_3, ne_2_4, ne_2_5, ne_3_0, ne_3_1, ne_3_2, ne_3_4, ne_3_5, ne_4_0, ne_4_1, ne_4_2, ne_4_3, ne_4_5, ne_5_0, ne_5_1, ne_5_2, ne_5_3, ne_5_4, hd_256_12, hd_256_16, hd_257_12, hd_258_12, hd_259_12, hd_260_12, hd_261_12, hd_261_13, hd_261_16, hd_262_12, hd_262_13, hd_262_16, hd_263_12, hd_263_13, hd_264_12, hd_264_13, hd_264_14, hd_265_12, hd_265_13, hd_265_14, hd_266_12, hd_267_12, hd_267_13, hd_267_14, hd_268_12, hd_269_12, hd_269_14, hd_270_12, hd_271_12, hd_272_12, hd_273_12, hd_273_13, hd_273_15, hd_274_12, hd_274_15, hd_275_12, hd_275_15, hd_276_12, nI_p1, nI_p2, nI_p3, nI_p4, nI_p5, not_true_eq_false, not_false_eq_true, and_self, mf_0, mf_1, mf_2, mf_3, mf_4, mf_5, mf_6, mf_7, mf_8, mf_9, mf_10, mf_11, mf_12, mf_13, mf_14, mf_15, mf_16, mf_17, mf_18, mf_19, mf_20, mf_21, mf_22, mf_23, mf_24, mf_25, mf_26, mf_27, mf_28, mf_29, mf_30, mf_31, mf_32, mf_33, mf_34, mf_35, mf_36, mf_37, mf_38, mf_39, mf_40, mf_41, mf_42, mf_43, mf_44, mf_45, mf_46, mf_47, mf_48, mf_49, mf_50, mf_51, mf_52, mf_53, mf_54, mf_55, mf_56, mf_57, mf_58, mf_59, mf_60, mf_61, mfs_0, mfs_2, mfs_17, mfs_20, mfs_26, mfs_32, mfs_34, mfs_36, mfs_38, mfs_43, mfs_44, mfs_45, mfs_46, mfs_47, iy_0, iy_1, iy_2, iy_3, iy_4, iy_5, iy_6, z1, z2, ia, ca, f1', f2', tg_12, Nat.reduceLeDiff, Nat.reduceAdd, and_self, px_wr_wr, px_kill, nI_1, px_fit, List.length_cons, List.length_nil, Nat.reduceLT, List.set_cons_succ, List.set_cons_zero]
  generalize hH : px_wr (px_wr h (T + 1) (.inr (12, 80, .inr (.inr (px_up ra' a (some (T + 2 + 2 * k))))))) T (.inl (3, [.ref (T + 1), .int (nI (n + 1))])) = H at *
  have ne : ∀ {r : Nat}, r ≠ T → r ≠ T + 1 → H.2[r]? = h.2[r]? := fun x y => by rw [← hH, wr_at, if_neg (fun z => x z.symm), wr_at, if_neg (fun z => y z.symm)]
  have zT : H.2[T]? = some (.inl (3, [.ref (T + 1), .int (nI (n + 1))])) := by rw [← hH, wr_at, if_pos rfl, if_pos (by rw [px_wr_len]; omega)]
  have zA : H.2[T + 1]? = some (.inr (12, 80, .inr (.inr (px_up ra' a (some (T + 2 + 2 * k)))))) := by rw [← hH, wr_at, if_neg (by omega), wr_at, if_pos rfl, if_pos hl]
  have sH : shape h → shape H := fun s => by
    rw [← hH]
    exact shape_wr (shape_wr s (by obtain ⟨f, e⟩ := hT.2.1; rw [e]; rfl)) (by rw [hT.1]; rfl)
  have lH : T + 2 + 2 * k + 1 < H.2.length := by rw [← hH, px_wr_len, px_wr_len]; exact (List.getElem?_eq_some_iff.mp o2).1
  unfold trA at hO
  have bH : enP H O l p := by
    obtain ⟨⟨kd', src', st', cn', b1⟩, ⟨g', b2, b3⟩, b4⟩ := b
    exact ⟨⟨kd', src', st', cn', (ne (by omega) (by omega)).trans b1⟩, ⟨g', (ne (by omega) (by omega)).trans b2, b3⟩, b4⟩
  refine ⟨by unfold px_cls; rw [f2], c_copyPath bH f2 ((ne (by omega) (by omega)).trans o2) (by omega) (fun g hg => ?_)⟩
  simp only [px_K_none, pc60_92, pc60_92n, pc60_93n, pc60_93]
  have tn : ∀ {r : Nat}, r ≠ T + 2 + 2 * k → r ≠ T + 2 + 2 * k + 1 → (tpH H (T + 2 + 2 * k) l kd src st cF g).2[r]? = H.2[r]? := fun x y => tpH_at x y
  have pr2 : prm T (px_up ra' a (some (T + 2 + 2 * k))) := prm_ins (a := a) t4 hn han (fun j hj => by rw [up_ne (by omega)]; exact r1 j (by omega)) (by rw [up_same, k2]) (fun j j1 j2 => by rw [up_ne (by omega)]; exact r2 j j1 j2) (fun j hj => by rw [up_ne (by omega)]; exact r3 j hj)
  refine hQ _ _ ⟨(tn (by omega) (by omega)).trans zT, fun k' hk' => ?_, ⟨kd, src, st, cF, g, tpH_o lH, tpH_p lH, hg⟩, _, (tn (by omega) (by omega)).trans zA, pr2, up_same _ _ _, fun j hj hne => ?_⟩ (frm_trans (A := trA T) (by rw [← hH]; exact frm_wr (frm_wr (frm_refl _ _) ⟨by omega, by omega⟩) ⟨by omega, by omega⟩) (frm_mono tpH_frm (fun r hr => by unfold trA; omega))) (fun s => ent_shape_t (hT.2.2.1 k k1) (sH s))
  · by_cases x : k' = k
    · subst x; exact ⟨_, _, _, _, _, g, tpH_o lH, tpH_p lH⟩
    · exact itC_frm (t2 k' hk') ((tn (by omega) (by omega)).trans (ne (by omega) (by omega))) ((tn (by omega) (by omega)).trans (ne (by omega) (by omega)))
  · have src' : ∃ j', j' < n ∧ px_up ra' a (some (T + 2 + 2 * k)) j = ra j' ∧ insE E a e0 j = E j' := by
      rw [up_ne hne]
      unfold insE
      by_cases x : j < a
      · exact ⟨j, by omega, r1 j (by omega), if_pos x⟩
      · exact ⟨j - 1, by omega, r2 j (by omega) (by omega), by rw [if_neg x, if_neg hne]⟩
    obtain ⟨j', x1, x2, x3⟩ := src'
    obtain ⟨O', y1, y2⟩ := t5 j' x1
    obtain ⟨k', q1, q2⟩ := prm_at t4 (show j' < 80 by omega)
    rw [y1] at q2
    have hO' := Option.some.inj q2
    have kk : k' ≠ k := fun z => by
      subst z
      obtain ⟨π, p1, p2⟩ := t4
      have a1 := (p1 j' (by omega)).1
      have a2 := (p1 n hn).1
      rw [y1, hO'] at a1
      rw [k2] at a2
      have b1 := Option.some.inj a1
      have b2 := Option.some.inj a2
      have := p2 j' n (by omega) hn (by omega)
      omega
    subst hO'
    refine ⟨_, x2.trans y1, ?_⟩
    rw [x3]
    exact ent_frm y2 ((tn (by omega) (by omega)).trans (ne (by omega) (by omega))) ((tn (by omega) (by omega)).trans (ne (by omega) (by omega))) (fun r hr => by
      obtain ⟨w1, w2⟩ := hT.2.2.2 r hr
      unfold trA at w1 w2
      exact ⟨(tn (by omega) (by omega)).trans (ne (by omega) (by omega)), (tn (by omega) (by omega)).trans (ne (by omega) (by omega))⟩)
end CINS2
