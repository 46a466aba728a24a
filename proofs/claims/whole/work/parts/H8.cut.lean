/-! TREES, the class's: cut -/
section CCUT
variable {sx : Nat × (Nat → Int32)} {h : px_H} {T n a b : Nat} {E : Nat → aE} {Q : px_O → px_H → Prop}
set_option maxRecDepth 16384 in
theorem prm_swap {ra : Nat → Option Nat} {i j : Nat} (w : prm T ra) (hi : i < 80) (hj : j < 80) : prm T (px_up (px_up ra i (ra j)) j (ra i)) := by
  obtain ⟨π, p1, p2⟩ := w
  refine ⟨px_up (px_up π i (π j)) j (π i), fun k hk => ?_, fun x y hx hy e => ?_⟩
  · by_cases kj : k = j
    · subst kj; rw [up_same, up_same]; exact p1 i hi
    · rw [up_ne kj, up_ne kj]
      by_cases ki : k = i
      · subst ki; rw [up_same, up_same]; exact p1 j hj
      · rw [up_ne ki, up_ne ki]; exact p1 k hk
  · have val : ∀ k, k < 80 → ∃ k', k' < 80 ∧ px_up (px_up π i (π j)) j (π i) k = π k' ∧ (k = j ∧ k' = i ∨ k ≠ j ∧ k = i ∧ k' = j ∨ k ≠ j ∧ k ≠ i ∧ k' = k) := fun k hk => by
      by_cases kj : k = j
      · exact ⟨i, hi, by rw [kj, up_same], .inl ⟨kj, rfl⟩⟩
      · by_cases ki : k = i
        · exact ⟨j, hj, by rw [up_ne kj, ki, up_same], .inr (.inl ⟨kj, ki, rfl⟩)⟩
        · exact ⟨k, hk, by rw [up_ne kj, up_ne ki], .inr (.inr ⟨kj, ki, rfl⟩)⟩
    obtain ⟨x', x1, x2, x3⟩ := val x hx
    obtain ⟨y', y1, y2, y3⟩ := val y hy
    rw [x2, y2] at e
    have := p2 x' y' x1 y1 e
    omega
set_option maxRecDepth 16384 in
theorem c_cut_l {ra : Nat → Option Nat} {nn : Int32} (t1 : h.2[T]? = some (.inl (3, [.ref (T + 1), .int (nI n)]))) (t2 : trC h T) (hl : T + 1 < h.2.length) (hn : n ≤ 80) (hab : a ≤ b) (hbn : b ≤ n)
    (hQ : ∀ ra' l5, (∀ j, j < a → ra' j = ra j) → (∀ j, a ≤ j → j + (b - a) < n → ra' j = ra (j + (b - a))) → prm T ra' → px_Wp sx 58 58 [some (.ref T), some (.int (nI a)), some (.int (nI b)), some (.int (nI (b - a))), some (.int (nI n)), l5] [] (px_wr h (T + 1) (.inr (12, 80, .inr (.inr ra')))) Q) :
    ∀ d i, i + d = n → b ≤ i → ∀ ra' l5, (∀ j, j < a → ra' j = ra j) → (∀ j, a ≤ j → j + (b - a) < i → ra' j = ra (j + (b - a))) → (∀ j, i ≤ j → ra' j = ra j) → prm T ra' → px_Wp sx 58 7 [some (.ref T), some (.int (nI a)), some (.int (nI b)), some (.int (nI (b - a))), some (.int (nI i)), l5] [] (px_wr h (T + 1) (.inr (12, 80, .inr (.inr ra')))) Q := by
  have z1 : ∀ x : px_C, (px_wr h (T + 1) x).2[T]? = some (.inl (3, [.ref (T + 1), .int (nI n)])) := fun x => by rw [wr_at, if_neg (by omega)]; exact t1
  have z2 : ∀ x : px_C, (px_wr h (T + 1) x).2[T + 1]? = some x := fun x => by rw [wr_at, if_pos rfl, if_pos hl]
  have z3 : ∀ (x : px_C) k, k < 80 → ∃ fs, (px_wr h (T + 1) x).2[T + 2 + 2 * k]? = some (.inl (2, fs)) := fun x k hk => by
    obtain ⟨l, kd, src, st, cn, g, o1, -⟩ := t2 k hk
    exact ⟨_, by rw [wr_at, if_neg (by omega)]; exact o1⟩
  intro d
  induction d with
  | zero =>
    intro i hi hb ra' l5 r1 r2 r3 pr
    have hi : i = n := by omega
    subst hi
    rw [pc58_7]
    simp only [pc58_9, pc58_9n, pc58_10, pc58_13, px_op_some, px_kv_ap, px_ki_ap, px_kl_ap, px_kn_ap, px_kh_ap, px_op_none, px_K_some, px_K_none, px_K_thr, px_kill, ↓reduceIte, if_true, if_false, true_and, and_true, px_gf, List.getElem?_cons_zero, List.getElem?_cons_succ, px_op_some, px_kv_ap, px_ki_ap, px_kl_ap, px_kn_ap, px_kh_ap, if_true, z1, if_pos (Int32.le_refl _)]
    exact hQ ra' l5 r1 r2 pr
  | succ d ih =>
    intro i hi hb ra' l5 r1 r2 r3 pr
    have g1 : nI i < nI n := nI_lt (by omega) (by omega)
    have ii : px_in (nI i) 80 = true := px_inb (by omega) (by decide)
    have ci : (nI i).toNatClampNeg = i := nI_clamp (by omega)
    have ig : px_in (nI (i - (b - a))) 80 = true := px_inb (by omega) (by decide)
    have cg : (nI (i - (b - a))).toNatClampNeg = i - (b - a) := nI_clamp (by omega)
    have sub : nI i - nI (b - a) = nI (i - (b - a)) := nI_sub (by omega)
    obtain ⟨k1, q1, e1⟩ := prm_at pr (show i < 80 by omega)
    obtain ⟨k2, q2, e2⟩ := prm_at pr (show i - (b - a) < 80 by omega)
    obtain ⟨fs1, f1⟩ := z3 (.inr (12, 80, .inr (.inr ra'))) k1 q1
    obtain ⟨fs2, f2⟩ := z3 (.inr (12, 80, .inr (.inr ra'))) k2 q2
    obtain ⟨fs3, f3⟩ := z3 (.inr (12, 80, .inr (.inr (px_up ra' i (some (T + 2 + 2 * k2)))))) k1 q1
    have m12 : (12 : Nat) = 10 + 2 := rfl
    rw [pc58_7]
    simp only [pc58_9, pc58_9n, pc58_10, pc58_13, pc58_16, pc58_16n, pc58_17, pc58_20, pc58_22, pc58_23, pc58_23n, pc58_25, pc58_25n, pc58_26, pc58_29, pc58_31, pc58_31n, pc58_32, pc58_35, pc58_37, pc58_38, pc58_39, pc58_40, pc58_41, pc58_41n, pc58_42, pc58_45, pc58_47, pc58_48, pc58_49, pc58_49n, pc58_51, pc58_52, pc58_55, px_op_some, px_kv_ap, px_ki_ap, px_kl_ap, px_kn_ap, px_kh_ap, px_op_none, px_K_some, px_K_none, px_K_thr, px_kill, ↓reduceIte, if_true, if_false, true_and, and_true, px_gf, px_aa, px_wa, yr_0, yr_1, tr_0, tr_1, tr_2, tr_3, px_rf, of_2, of_4, in_02, in_12, in_04, in_14, in_24, in_34, Nat.reduceLeDiff, in_01, lgc_self, Int32.reduceToNatClampNeg, wr_at, al_at, px_wr_len, px_al_len, px_wr_1, px_al_1, tg_0, tg_1, tg_2, tg_3, tg_12, tg_15, tg_17, tg_18, tg_i1, tg_b0, tg_b3, px_fit, Nat.reduceEqDiff, Nat.reduceLT, Nat.reduceAdd, Option.some.injEq, up_at, px_wr_wr, i32_le, Int32.reduceLE, Int32.reduceLT, mf_len, nar_0, nar_1, px_KH_some, px_KH_none, px_KH_thr, List.length_cons, List.length_nil, List.getElem?_cons_zero, List.getElem?_cons_succ, List.set_cons_zero, List.set_cons_succ, ↓reduceIte, Nat.lt_irrefl, ne_0_1, ne_0_2, ne_0_3, ne_0_4, ne_0_5, ne_1_0, ne_1_2, ne_1_3, ne_1_4, ne_1_5, ne_2_0, ne_2_1, ne_2_3, ne_2_4, ne_2_5, ne_3_0, ne_3_1, ne_3_2, ne_3_4, ne_3_5, ne_4_0, ne_4_1, ne_4_2, ne_4_3, ne_4_5, ne_5_0, ne_5_1, ne_5_2, ne_5_3, ne_5_4, hd_256_12, hd_256_16, hd_257_12, hd_258_12, hd_259_12, hd_260_12, hd_261_12, hd_261_13, hd_261_16, hd_262_12, hd_262_13, hd_262_16, hd_263_12, hd_263_13, hd_264_12, hd_264_13, hd_264_14, hd_265_12, hd_265_13, hd_265_14, hd_266_12, hd_267_12, hd_267_13, hd_267_14, hd_268_12, hd_269_12, hd_269_14, hd_270_12, hd_271_12, hd_272_12, hd_273_12, hd_273_13, hd_273_15, hd_274_12, hd_274_15, hd_275_12, hd_275_15, hd_276_12, nI_p1, nI_p2, nI_p3, nI_p4, nI_p5, not_true_eq_false, not_false_eq_true, and_self, mf_0, mf_1, mf_2, mf_3, mf_4, mf_5, mf_6, mf_7, mf_8, mf_9, mf_10, mf_11, mf_12, mf_13, mf_14, mf_15, mf_16, mf_17, mf_18, mf_19, mf_20, mf_21, mf_22, mf_23, mf_24, mf_25, mf_26, mf_27, mf_28, mf_29, mf_30, mf_31, mf_32, mf_33, mf_34, mf_35, mf_36, mf_37, mf_38, mf_39, mf_40, mf_41, mf_42, mf_43, mf_44, mf_45, mf_46, mf_47, mf_48, mf_49, mf_50, mf_51, mf_52, mf_53, mf_54, mf_55, mf_56, mf_57, mf_58, mf_59, mf_60, mf_61, mfs_0, mfs_2, mfs_17, mfs_20, mfs_26, mfs_32, mfs_34, mfs_36, mfs_38, mfs_43, mfs_44, mfs_45, mfs_46, mfs_47, iy_0, iy_1, iy_2, iy_3, iy_4, iy_5, iy_6, z1, z2, g1, ii, ci, ig, cg, sub, e1, e2, f1, f2, f3, px_rf, tg_12, Nat.reduceLeDiff, Nat.reduceAdd, and_self, px_wr_wr, px_kill, nI_1]
    have psw := prm_swap (i := i) (j := i - (b - a)) pr (by omega) (by omega)
    rw [e1, e2] at psw
    refine ih (i + 1) (by omega) (by omega) _ _ (fun j hj => ?_) (fun j j1 j2 => ?_) (fun j hj => ?_) psw
    · rw [up_ne (by omega), up_ne (by omega)]; exact r1 j hj
    · by_cases x : j = i - (b - a)
      · subst x
        rw [up_same, ← e1, r3 i (Nat.le_refl _)]; congr 1; omega
      · rw [up_ne x, up_ne (by omega)]; exact r2 j j1 (by omega)
    · rw [up_ne (by omega), up_ne (by omega)]; exact r3 j (by omega)
set_option maxRecDepth 16384 in
theorem c_cut (t : trR h T n E) (hn : n ≤ 80) (hab : a ≤ b) (hbn : b ≤ n) (hT : tmpl T = .inl (3, [.ref (T + 1), .int 0]) ∧ ∃ f, tmpl (T + 1) = .inr (12, 80, .inr (.inr f))) (hsr : ∀ r, srcOK r → r ≠ T ∧ r ≠ T + 1 ∧ r + 1 ≠ T ∧ r + 1 ≠ T + 1)
    (hQ : ∀ h', trR h' T (n - (b - a)) (cutE E a b) → (∀ i, i < a → rA h' (T + 1) i = rA h (T + 1) i) → frm (fun r => r = T ∨ r = T + 1) h h' → (shape h → shape h') → Q (.inl none) h') :
    px_Wp sx 58 0 [some (.ref T), some (.int (nI a)), some (.int (nI b)), none, none, none] [] h Q := by
  obtain ⟨t1, t2, ra, t3, t4, t5⟩ := t
  have hl : T + 1 < h.2.length := (List.getElem?_eq_some_iff.mp t3).1
  have sub : nI b - nI a = nI (b - a) := nI_sub hab
  simp only [pc58_0, pc58_1, pc58_2, pc58_3, pc58_4, pc58_5, sub, px_kill]
  have ex := c_cut_l (sx := sx) (Q := Q) (nn := 0) (ra := ra) t1 t2 hl hn hab hbn (fun ra' l5 r1 r2 pr => ?_) (n - b) b (by omega) (Nat.le_refl _) ra none (fun j _ => rfl) (fun j j1 j2 => absurd j2 (by omega)) (fun j _ => rfl) t4
  · rw [wr_id t3] at ex; exact ex
  have z1 : (px_wr h (T + 1) (.inr (12, 80, .inr (.inr ra')))).2[T]? = some (.inl (3, [.ref (T + 1), .int (nI n)])) := by rw [wr_at, if_neg (by omega)]; exact t1
  have sub2 : nI n - nI (b - a) = nI (n - (b - a)) := nI_sub (by omega)
  simp only [pc58_58, pc58_58n, pc58_59, pc58_59r, pc58_60, pc58_63, pc58_64, pc58_65, pc58_68, px_op_some, px_kv_ap, px_ki_ap, px_kl_ap, px_kn_ap, px_kh_ap, px_op_none, px_K_some, px_K_none, px_K_thr, px_kill, ↓reduceIte, if_true, if_false, true_and, and_true, px_gf, px_pf, px_ai, px_aj, px_aa, px_wi, px_wj, px_wa, px_an, px_cls, yr_0, yr_1, tr_0, tr_1, tr_2, tr_3, px_rf, of_2, of_4, in_02, in_12, in_04, in_14, in_24, in_34, Nat.reduceLeDiff, in_01, lgc_self, Int32.reduceToNatClampNeg, wr_at, al_at, px_wr_len, px_al_len, px_wr_1, px_al_1, tg_0, tg_1, tg_2, tg_3, tg_12, tg_15, tg_17, tg_18, tg_i1, tg_b0, tg_b3, px_fit, Nat.reduceEqDiff, Nat.reduceLT, Nat.reduceAdd, Option.some.injEq, up_at, px_wr_wr, i32_le, Int32.reduceLE, Int32.reduceLT, mf_len, nar_0, nar_1, px_KH_some, px_KH_none, px_KH_thr, List.length_cons, List.length_nil, List.getElem?_cons_zero, List.getElem?_cons_succ, List.set_cons_zero, List.set_cons_succ, ↓reduceIte, Nat.lt_irrefl, ne_0_1, ne_0_2, ne_0_3, ne_0_4, ne_0_5, ne_1_0, ne_1_2, ne_1_3, ne_1_4, ne_1_5, ne_2_0, ne_2_1, ne_2_3, ne_2_4, ne_2_5, ne_3_0, ne_3_1, ne_3_2, ne_3_4, ne_3_5, ne_4_0, ne_4_1, ne_4_2, ne_4_3, ne_4_5, ne_5_0, ne_5_1, ne_5_2, ne_5_3, ne_5_4, hd_256_12, hd_256_16, hd_257_12, hd_258_12, hd_259_12, hd_260_12, hd_261_12, hd_261_13, hd_261_16, hd_262_12, hd_262_13, hd_262_16, hd_263_12, hd_263_13, hd_264_12, hd_264_13, hd_264_14, hd_265_12, hd_265_13, hd_265_14, hd_266_12, hd_267_12, hd_267_13, hd_267_14, hd_268_12, hd_269_12, hd_269_14, hd_270_12, hd_271_12, hd_272_12, hd_273_12, hd_273_13, hd_273_15, hd_274_12, hd_274_15, hd_275_12, hd_275_15, hd_276_12, nI_p1, nI_p2, nI_p3, nI_p4, nI_p5, not_true_eq_false, not_false_eq_true, and_self, mf_0, mf_1, mf_2, mf_3, mf_4, mf_5, mf_6, mf_7, mf_8, mf_9, mf_10, mf_11, mf_12, mf_13, mf_14, mf_15, mf_16, mf_17, mf_18, mf_19, mf_20, mf_21, mf_22, mf_23, mf_24, mf_25, mf_26, mf_27, mf_28, mf_29, mf_30, mf_31, mf_32, mf_33, mf_34, mf_35, mf_36, mf_37, mf_38, mf_39, mf_40, mf_41, mf_42, mf_43, mf_44, mf_45, mf_46, mf_47, mf_48, mf_49, mf_50, mf_51, mf_52, mf_53, mf_54, mf_55, mf_56, mf_57, mf_58, mf_59, mf_60, mf_61, mfs_0, mfs_2, mfs_17, mfs_20, mfs_26, mfs_32, mfs_34, mfs_36, mfs_38, mfs_43, mfs_44, mfs_45, mfs_46, mfs_47, iy_0, iy_1, iy_2, iy_3, iy_4, iy_5, iy_6, z1, sub2, px_kill]
  have ne : ∀ {r : Nat}, r ≠ T → r ≠ T + 1 → (px_wr (px_wr h (T + 1) (.inr (12, 80, .inr (.inr ra')))) T (.inl (3, [.ref (T + 1), .int (nI (n - (b - a)))]))).2[r]? = h.2[r]? := fun x y => by rw [wr_at, if_neg (fun z => x z.symm), wr_at, if_neg (fun z => y z.symm)]
  refine hQ _ ⟨?_, fun k hk => itC_frm (t2 k hk) (ne (by omega) (by omega)) (ne (by omega) (by omega)), ra', ?_, pr, fun i hi => ?_⟩ (fun i hi => ?_) (frm_wr (frm_wr (frm_refl _ _) (.inr rfl)) (.inl rfl)) (fun s => shape_wr (shape_wr s (by obtain ⟨f, e⟩ := hT.2; rw [e]; rfl)) (by rw [hT.1]; rfl))
  · rw [wr_at, if_pos rfl, if_pos (by rw [px_wr_len]; omega)]
  · rw [wr_at, if_neg (by omega), wr_at, if_pos rfl, if_pos hl]
  · have src : ∃ i', i' < n ∧ ra' i = ra i' ∧ cutE E a b i = E i' := by
      unfold cutE
      by_cases x : i < a
      · exact ⟨i, by omega, r1 i x, if_pos x⟩
      · exact ⟨i + (b - a), by omega, r2 i (by omega) (by omega), if_neg x⟩
    obtain ⟨i', x1, x2, x3⟩ := src
    obtain ⟨O, o1, o2⟩ := t5 i' x1
    obtain ⟨k, k1, k2⟩ := prm_at t4 (show i' < 80 by omega)
    rw [o1] at k2
    have := Option.some.inj k2
    subst this
    refine ⟨_, x2.trans o1, ?_⟩
    rw [x3]
    exact ent_frm o2 (ne (by omega) (by omega)) (ne (by omega) (by omega)) (fun r hr => by obtain ⟨y1, y2, y3, y4⟩ := hsr r hr; exact ⟨ne y1 y2, ne y3 y4⟩)
  · rw [rA_of (r := T + 1) (t := 12) (n := 80) (f := ra') (by rw [wr_at, if_neg (by omega), wr_at, if_pos rfl, if_pos hl]), rA_of t3]; exact r1 i hi
end CCUT
