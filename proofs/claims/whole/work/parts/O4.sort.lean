/-! A TREE SORTED, the class's -/
def tau (q i x : Nat) : Nat := if x < q then x else if x = q then i else if x ≤ i then x - 1 else x
section SORT
variable {sx : Nat × (Nat → Int32)} {h : px_H} {T n i q : Nat} {S G : Nat → aE} {Q : px_O → px_H → Prop}
set_option maxRecDepth 16384 in
theorem tau_v (q i x : Nat) : (x < q ∧ tau q i x = x) ∨ (x = q ∧ tau q i x = i) ∨ (q < x ∧ x ≤ i ∧ tau q i x = x - 1) ∨ (q < x ∧ i < x ∧ tau q i x = x) := by
  unfold tau
  split
  · omega
  · split
    · omega
    · split <;> omega
set_option maxRecDepth 16384 in
theorem tau_lt {x : Nat} (hq : q ≤ i) (hi : i < n) (hx : x < n) : tau q i x < n := by have := tau_v q i x; omega
set_option maxRecDepth 16384 in
theorem tau_on {y : Nat} (hq : q ≤ i) (hi : i < n) (hy : y < n) : ∃ x, x < n ∧ tau q i x = y := by
  by_cases a : y < q
  · exact ⟨y, hy, by have := tau_v q i y; omega⟩
  · by_cases b : y = i
    · exact ⟨q, by omega, by have := tau_v q i q; omega⟩
    · by_cases c : y < i
      · exact ⟨y + 1, by omega, by have := tau_v q i (y + 1); omega⟩
      · exact ⟨y, hy, by have := tau_v q i y; omega⟩
set_option maxRecDepth 16384 in
theorem tau_inj {x y : Nat} (hq : q ≤ i) (e : tau q i x = tau q i y) : x = y := by
  have h1 := tau_v q i x
  have h2 := tau_v q i y
  omega
set_option maxRecDepth 16384 in
theorem tau_tot (hq : q ≤ i) (hi : i < n) : totN (fun x => S (tau q i x)) n = totN S n := by
  have e1 : totN (fun x => S (tau q i x)) n = totN (insE (cutE S i (i + 1)) q (S i)) n := totN_congr n (fun x hx => by
    have t := tau_v q i x
    show eN (S (tau q i x)) = eN (insE (cutE S i (i + 1)) q (S i) x)
    unfold insE cutE
    by_cases a : x < q
    · rw [if_pos a, if_pos (by omega), show tau q i x = x by omega]
    · rw [if_neg a]
      by_cases b : x = q
      · rw [if_pos b, show tau q i x = i by omega]
      · rw [if_neg b]
        by_cases c : x - 1 < i
        · rw [if_pos c, show tau q i x = x - 1 by omega]
        · rw [if_neg c, show tau q i x = x by omega, show x - 1 + (i + 1 - i) = x by omega])
  have e2 := totN_ins (E := cutE S i (i + 1)) (e := S i) (g := q) (n - 1) (by omega)
  rw [show n - 1 + 1 = n by omega] at e2
  have e3 := totN_cut (E := S) (a := i) (b := i + 1) (by omega) (n - (i + 1))
  rw [show i + (n - (i + 1)) = n - 1 by omega, show i + 1 + (n - (i + 1)) = n by omega] at e3
  have e4 : totN S (i + 1) = totN S i + eN (S i) := rfl
  omega
set_option maxRecDepth 16384 in
theorem c_sort_i {ra : Nat → Option Nat} {O : Nat} (t1 : h.2[T]? = some (.inl (3, [.ref (T + 1), .int (nI n)]))) (t2 : trC h T) (t3 : h.2[T + 1]? = some (.inr (12, 80, .inr (.inr ra)))) (t4 : prm T ra) (t5 : ∀ i, i < n → ∃ O, ra i = some O ∧ entR h O (S i)) (hn : n ≤ 80) (hi : i < n) (hO : ra i = some O) (okp : ∀ i, i < n → pth (eP (S i)) (eL (S i))) (inj : ∀ i j, i < n → j < n → eP (S i) = eP (S j) → i = j) (srt : srtE i S) (hsr : ∀ r, srcOK r → r ≠ T + 1 ∧ r + 1 ≠ T + 1)
    (hX : ∀ q ra', q ≤ i → (∀ j, q ≤ j → j < i → plt (eP (S i)) (eP (S j))) → (∀ j, j < q → plt (eP (S j)) (eP (S i))) → (∀ j, j < q → ra' j = ra j) → ra' q = ra i → (∀ j, q < j → j ≤ i → ra' j = ra (j - 1)) → (∀ j, i < j → ra' j = ra j) → px_Wp sx 63 69 [some (.ref T), some (.int (nI i)), some (.ref O), some (.int (nI q))] [] (px_wr h (T + 1) (.inr (12, 80, .inr (.inr ra')))) Q) :
    ∀ d q, q = d → q ≤ i → (∀ j, q ≤ j → j < i → plt (eP (S i)) (eP (S j))) → ∀ ra', (∀ j, j ≤ q → ra' j = ra j) → (∀ j, q < j → j ≤ i → ra' j = ra (j - 1)) → (∀ j, i < j → ra' j = ra j) → px_Wp sx 63 19 [some (.ref T), some (.int (nI i)), some (.ref O), some (.int (nI q))] [] (px_wr h (T + 1) (.inr (12, 80, .inr (.inr ra')))) Q := by
  have hl : T + 1 < h.2.length := (List.getElem?_eq_some_iff.mp t3).1
  have z1 : ∀ x : px_C, (px_wr h (T + 1) x).2[T]? = some (.inl (3, [.ref (T + 1), .int (nI n)])) := fun x => by rw [wr_at, if_neg (by omega)]; exact t1
  have z2 : ∀ x : px_C, (px_wr h (T + 1) x).2[T + 1]? = some x := fun x => by rw [wr_at, if_pos rfl, if_pos hl]
  have oT : ∀ {j O'}, j < n → ra j = some O' → ∃ k, k < 80 ∧ O' = T + 2 + 2 * k := fun {j O'} hj e => by
    obtain ⟨k, k1, k2⟩ := prm_at t4 (show j < 80 by omega)
    rw [e] at k2
    exact ⟨k, k1, Option.some.inj k2⟩
  have en : ∀ {j O'} (x : px_C), j < n → ra j = some O' → entR (px_wr h (T + 1) x) O' (S j) := fun {j O'} x hj e => by
    obtain ⟨k, k1, k2⟩ := oT hj e
    obtain ⟨O2, o1, o2⟩ := t5 j hj
    rw [e] at o1
    have := Option.some.inj o1
    subst this
    exact ent_frm o2 (by rw [wr_at, if_neg (by omega)]) (by rw [wr_at, if_neg (by omega)]) (fun r hr => ⟨by rw [wr_at, if_neg (fun z => (hsr r hr).1 z.symm)], by rw [wr_at, if_neg (fun z => (hsr r hr).2 z.symm)]⟩)
  have m12 : (12 : Nat) = 10 + 2 := rfl
  have fin : ∀ q ra', q ≤ i → (∀ j, q ≤ j → j < i → plt (eP (S i)) (eP (S j))) → (∀ j, j < q → plt (eP (S j)) (eP (S i))) → (∀ j, j ≤ q → ra' j = ra j) → (∀ j, q < j → j ≤ i → ra' j = ra (j - 1)) → (∀ j, i < j → ra' j = ra j) → px_Wp sx 63 62 [some (.ref T), some (.int (nI i)), some (.ref O), some (.int (nI q))] [] (px_wr h (T + 1) (.inr (12, 80, .inr (.inr ra')))) Q := fun q ra' hq p1 p2 r1 r2 r3 => by
    have iq : px_in (nI q) 80 = true := px_inb (by omega) (by decide)
    have cq : (nI q).toNatClampNeg = q := nI_clamp (by omega)
    obtain ⟨src, st, cn, gg, y1, -⟩ := en (.inr (12, 80, .inr (.inr ra'))) hi hO
    simp only [pc63_62, pc63_62n, pc63_63, pc63_66, pc63_67, pc63_67n, pc63_68, px_op_some, px_kv_ap, px_ki_ap, px_kl_ap, px_kn_ap, px_kh_ap, px_op_none, px_K_some, px_K_none, px_K_thr, px_kill, ↓reduceIte, if_true, if_false, true_and, and_true, px_gf, px_wa, yr_0, yr_1, tr_0, tr_1, tr_2, tr_3, px_rf, of_2, of_4, in_02, in_12, in_04, in_14, in_24, in_34, Nat.reduceLeDiff, in_01, lgc_self, Int32.reduceToNatClampNeg, wr_at, al_at, px_wr_len, px_al_len, px_wr_1, px_al_1, tg_0, tg_1, tg_2, tg_3, tg_12, tg_15, tg_17, tg_18, tg_i1, tg_b0, tg_b3, px_fit, Nat.reduceEqDiff, Nat.reduceLT, Nat.reduceAdd, Option.some.injEq, up_at, px_wr_wr, i32_le, Int32.reduceLE, Int32.reduceLT, mf_len, nar_0, nar_1, px_KH_some, px_KH_none, px_KH_thr, List.length_cons, List.length_nil, List.getElem?_cons_zero, List.getElem?_cons_succ, List.set_cons_zero, List.set_cons_succ, ↓reduceIte, Nat.lt_irrefl, ne_0_1, ne_0_2, ne_0_3, ne_0_4, ne_0_5, ne_1_0, ne_1_2, ne_1_3, ne_1_4, ne_1_5, ne_2_0, ne_2_1, ne_2_3, ne_2_4, ne_2_5, ne_3_0, ne_3_1, ne_3_2, ne_3_4, ne_3_5, ne_4_0, ne_4_1, ne_4_2, ne_4_3, ne_4_5, ne_5_0, ne_5_1, ne_5_2, ne_5_3, ne_5_4, hd_256_12, hd_256_16, hd_257_12, hd_258_12, hd_259_12, hd_260_12, hd_261_12, hd_261_13, hd_261_16, hd_262_12, hd_262_13, hd_262_16, hd_263_12, hd_263_13, hd_264_12, hd_264_13, hd_264_14, hd_265_12, hd_265_13, hd_265_14, hd_266_12, hd_267_12, hd_267_13, hd_267_14, hd_268_12, hd_269_12, hd_269_14, hd_270_12, hd_271_12, hd_272_12, hd_273_12, hd_273_13, hd_273_15, hd_274_12, hd_274_15, hd_275_12, hd_275_15, hd_276_12, nI_p1, nI_p2, nI_p3, nI_p4, nI_p5, not_true_eq_false, not_false_eq_true, and_self, mf_0, mf_1, mf_2, mf_3, mf_4, mf_5, mf_6, mf_7, mf_8, mf_9, mf_10, mf_11, mf_12, mf_13, mf_14, mf_15, mf_16, mf_17, mf_18, mf_19, mf_20, mf_21, mf_22, mf_23, mf_24, mf_25, mf_26, mf_27, mf_28, mf_29, mf_30, mf_31, mf_32, mf_33, mf_34, mf_35, mf_36, mf_37, mf_38, mf_39, mf_40, mf_41, mf_42, mf_43, mf_44, mf_45, mf_46, mf_47, mf_48, mf_49, mf_50, mf_51, mf_52, mf_53, mf_54, mf_55, mf_56, mf_57, mf_58, mf_59, mf_60, mf_61, mfs_0, mfs_2, mfs_17, mfs_20, mfs_26, mfs_32, mfs_34, mfs_36, mfs_38, mfs_43, mfs_44, mfs_45, mfs_46, mfs_47, iy_0, iy_1, iy_2, iy_3, iy_4, iy_5, iy_6, z1, z2, iq, cq, y1, tg_12, Nat.reduceLeDiff, Nat.reduceAdd, and_self, px_wr_wr]
    refine hX q _ hq p1 p2 (fun j hj => ?_) ?_ (fun j j1 j2 => ?_) (fun j hj => ?_)
    · rw [up_ne (by omega)]; exact r1 j (by omega)
    · rw [up_same, hO]
    · rw [up_ne (by omega)]; exact r2 j j1 j2
    · rw [up_ne (by omega)]; exact r3 j hj
  intro d
  induction d with
  | zero =>
    intro q hq hqi p1 ra' r1 r2 r3
    subst hq
    have le : nI 0 ≤ 0 := Int32.le_refl _
    simp only [pc63_19, pc63_20, le, if_true]
    exact fin 0 ra' hqi p1 (fun j hj => absurd hj (Nat.not_lt_zero j)) r1 r2 r3
  | succ d ih =>
    intro q hq hqi p1 ra' r1 r2 r3
    have gt : ¬ nI q ≤ 0 := nI_ge (a := 0) (by omega) (by omega)
    have sub : nI q - 1 = nI (q - 1) := nI_sub (a := q) (b := 1) (by omega)
    have dec : nI q + -1 = nI (q - 1) := by
      obtain ⟨i', rfl⟩ : ∃ i', q = i' + 1 := ⟨q - 1, by omega⟩
      rw [nI_m1, Nat.add_sub_cancel]
    have iq : px_in (nI q) 80 = true := px_inb (by omega) (by decide)
    have cq : (nI q).toNatClampNeg = q := nI_clamp (by omega)
    have ig : px_in (nI (q - 1)) 80 = true := px_inb (by omega) (by decide)
    have cg : (nI (q - 1)).toNatClampNeg = q - 1 := nI_clamp (by omega)
    obtain ⟨O1, o1, -⟩ := t5 (q - 1) (by omega)
    have o1' : ra' (q - 1) = some O1 := by rw [r1 _ (by omega)]; exact o1
    have e1 := en (.inr (12, 80, .inr (.inr ra'))) (show q - 1 < n by omega) o1
    have e2 := en (.inr (12, 80, .inr (.inr ra'))) hi hO
    have e1' := e1
    have e2' := e2
    obtain ⟨src, st, cn, gg, y1, -⟩ := e1'
    obtain ⟨src2, st2, cn2, gg2, y2, -⟩ := e2'
    have hc : px_cls (px_wr h (T + 1) (.inr (12, 80, .inr (.inr ra')))) O1 = some 2 := by unfold px_cls; rw [y1]
    unfold enF at y1 y2
    rw [pc63_19]
    simp only [pc63_20, pc63_23, pc63_23n, pc63_24, pc63_27, pc63_28, pc63_29, pc63_30, pc63_31, pc63_31n, pc63_32, pc63_32n, pc63_33, pc63_36, px_op_some, px_kv_ap, px_ki_ap, px_kl_ap, px_kn_ap, px_kh_ap, px_op_none, px_K_some, px_K_none, px_K_thr, px_kill, ↓reduceIte, if_true, if_false, true_and, and_true, px_gf, px_aa, z1, z2, gt, sub, ig, cg, o1', y2, px_rf, tg_12, Nat.reduceLeDiff, and_self, List.getElem?_cons_zero, List.getElem?_cons_succ, hc]
    refine c_order (ent_enP e1 (okp _ (by omega))) (ent_enP e2 (okp _ hi)) (Nat.le_refl _) (okp _ (by omega)) (okp _ hi) (fun x hx => ?_)
    rw [cutP_all (okp _ hi)] at hx
    rcases hx with ⟨-, hx⟩ | ⟨x0, hx⟩ | ⟨x0, hx⟩
    · have := inj (q - 1) i (by omega) hi hx; omega
    · have le : x ≤ 0 := Int32.le_of_lt x0
      simp only [px_K_some, pc63_39, le, if_true]
      refine fin q ra' hqi p1 (fun j hj => ?_) r1 r2 r3
      by_cases z : j = q - 1
      · subst z; exact hx
      · exact plt_trans (srt j (q - 1) (by omega) (by omega)) hx
    · have le : ¬ x ≤ 0 := fun z => Int32.lt_irrefl (Int32.lt_of_lt_of_le x0 z)
      simp only [px_K_some, pc63_39, pc63_42, pc63_42n, pc63_43, pc63_46, pc63_47, pc63_47n, pc63_48, pc63_51, pc63_52, pc63_53, pc63_54, pc63_55, pc63_56, pc63_59, px_op_some, px_kv_ap, px_ki_ap, px_kl_ap, px_kn_ap, px_kh_ap, px_op_none, px_K_some, px_K_none, px_K_thr, px_kill, ↓reduceIte, if_true, if_false, true_and, and_true, px_gf, px_aa, px_wa, yr_0, yr_1, tr_0, tr_1, tr_2, tr_3, px_rf, of_2, of_4, in_02, in_12, in_04, in_14, in_24, in_34, Nat.reduceLeDiff, in_01, lgc_self, Int32.reduceToNatClampNeg, wr_at, al_at, px_wr_len, px_al_len, px_wr_1, px_al_1, tg_0, tg_1, tg_2, tg_3, tg_12, tg_15, tg_17, tg_18, tg_i1, tg_b0, tg_b3, px_fit, Nat.reduceEqDiff, Nat.reduceLT, Nat.reduceAdd, Option.some.injEq, up_at, px_wr_wr, i32_le, Int32.reduceLE, Int32.reduceLT, mf_len, nar_0, nar_1, px_KH_some, px_KH_none, px_KH_thr, List.length_cons, List.length_nil, List.getElem?_cons_zero, List.getElem?_cons_succ, List.set_cons_zero, List.set_cons_succ, ↓reduceIte, Nat.lt_irrefl, ne_0_1, ne_0_2, ne_0_3, ne_0_4, ne_0_5, ne_1_0, ne_1_2, ne_1_3, ne_1_4, ne_1_5, ne_2_0, ne_2_1, ne_2_3, ne_2_4, ne_2_5, ne_3_0, ne_3_1, ne_3_2, ne_3_4, ne_3_5, ne_4_0, ne_4_1, ne_4_2, ne_4_3, ne_4_5, ne_5_0, ne_5_1, ne_5_2, ne_5_3, ne_5_4, hd_256_12, hd_256_16, hd_257_12, hd_258_12, hd_259_12, hd_260_12, hd_261_12, hd_261_13, hd_261_16, hd_262_12, hd_262_13, hd_262_16, hd_263_12, hd_263_13, hd_264_12, hd_264_13, hd_264_14, hd_265_12, hd_265_13, hd_265_14, hd_266_12, hd_267_12, hd_267_13, hd_267_14, hd_268_12, hd_269_12, hd_269_14, hd_270_12, hd_271_12, hd_272_12, hd_273_12, hd_273_13, hd_273_15, hd_274_12, hd_274_15, hd_275_12, hd_275_15, hd_276_12, nI_p1, nI_p2, nI_p3, nI_p4, nI_p5, not_true_eq_false, not_false_eq_true, and_self, mf_0, mf_1, mf_2, mf_3, mf_4, mf_5, mf_6, mf_7, mf_8, mf_9, mf_10, mf_11, mf_12, mf_13, mf_14, mf_15, mf_16, mf_17, mf_18, mf_19, mf_20, mf_21, mf_22, mf_23, mf_24, mf_25, mf_26, mf_27, mf_28, mf_29, mf_30, mf_31, mf_32, mf_33, mf_34, mf_35, mf_36, mf_37, mf_38, mf_39, mf_40, mf_41, mf_42, mf_43, mf_44, mf_45, mf_46, mf_47, mf_48, mf_49, mf_50, mf_51, mf_52, mf_53, mf_54, mf_55, mf_56, mf_57, mf_58, mf_59, mf_60, mf_61, mfs_0, mfs_2, mfs_17, mfs_20, mfs_26, mfs_32, mfs_34, mfs_36, mfs_38, mfs_43, mfs_44, mfs_45, mfs_46, mfs_47, iy_0, iy_1, iy_2, iy_3, iy_4, iy_5, iy_6, z1, z2, le, sub, dec, iq, cq, ig, cg, o1', y1, px_rf, tg_12, Nat.reduceLeDiff, Nat.reduceAdd, and_self, px_wr_wr, px_kill]
      refine ih (q - 1) (by omega) (by omega) (fun j j1 j2 => ?_) _ (fun j hj => ?_) (fun j j1 j2 => ?_) (fun j hj => ?_)
      · by_cases z : j = q - 1
        · subst z; exact hx
        · exact p1 j (by omega) j2
      · rw [up_ne (by omega)]; exact r1 j (by omega)
      · by_cases z : j = q
        · subst z; rw [up_same]; exact o1.symm
        · rw [up_ne z]; exact r2 j (by omega) j2
      · rw [up_ne (by omega)]; exact r3 j hj
set_option maxRecDepth 16384 in
theorem c_sort (t : trR h T n G) (hn : n ≤ 80) (okp : ∀ i, i < n → pth (eP (G i)) (eL (G i))) (inj : ∀ i j, i < n → j < n → eP (G i) = eP (G j) → i = j) (hT : ∃ f, tmpl (T + 1) = .inr (12, 80, .inr (.inr f))) (hsr : ∀ r, srcOK r → r ≠ T + 1 ∧ r + 1 ≠ T + 1)
    (hQ : ∀ h' E', trR h' T n E' → arr n G E' → totN E' n = totN G n → frm (fun r => r = T + 1) h h' → (shape h → shape h') → Q (.inl none) h') :
    px_Wp sx 63 0 [some (.ref T), none, none, none] [] h Q := by
  have lp : ∀ d i, i + d = n ∨ (d = 0 ∧ n ≤ i ∧ i ≤ 80) → 1 ≤ i → ∀ h1 S l2 l3, trR h1 T n S → frm (fun r => r = T + 1) h h1 → (shape h → shape h1) → (∀ i, i < n → ∃ j, j < n ∧ S i = G j) → (∀ j, j < n → ∃ i, i < n ∧ S i = G j) → (∀ i j, i < n → j < n → eP (S i) = eP (S j) → i = j) → totN S n = totN G n → srtE i S → px_Wp sx 63 2 [some (.ref T), some (.int (nI i)), l2, l3] [] h1 Q := by
    intro d
    induction d with
    | zero =>
      intro i hi h1i h1 S l2 l3 t fr sh s1 s2 s3 s4 s5
      have t1 := t.1
      have le : nI n ≤ nI i := nI_le (by omega) (by omega)
      simp only [pc63_2, pc63_3, pc63_3n, pc63_4, pc63_7, pc63_75, px_op_some, px_kv_ap, px_ki_ap, px_kl_ap, px_kn_ap, px_kh_ap, px_op_none, px_K_some, px_K_none, px_K_thr, px_kill, ↓reduceIte, if_true, if_false, true_and, and_true, px_gf, t1, le, List.getElem?_cons_zero, List.getElem?_cons_succ]
      exact hQ h1 S t ⟨fun a b h1 h2 => s5 a b h1 (by omega), s1, s2⟩ s4 fr sh
    | succ d ih =>
      intro i hi h1i h1 S l2 l3 t fr sh s1 s2 s3 s4 s5
      have hin : i < n := by omega
      have ge : ¬ nI n ≤ nI i := nI_ge (by omega) (by omega)
      have ii : px_in (nI i) 80 = true := px_inb (by omega) (by decide)
      have ci : (nI i).toNatClampNeg = i := nI_clamp (by omega)
      obtain ⟨t1, t2, ra, t3, t4, t5⟩ := t
      have hl : T + 1 < h1.2.length := (List.getElem?_eq_some_iff.mp t3).1
      obtain ⟨O, o1, o2⟩ := t5 i hin
      have okS : ∀ i, i < n → pth (eP (S i)) (eL (S i)) := fun i hi => by obtain ⟨j, j1, j2⟩ := s1 i hi; rw [j2]; exact okp j j1
      rw [pc63_2]
      simp only [pc63_3, pc63_3n, pc63_4, pc63_7, pc63_10, pc63_10n, pc63_11, pc63_14, pc63_15, pc63_16, pc63_16n, pc63_17, pc63_18, px_op_some, px_kv_ap, px_ki_ap, px_kl_ap, px_kn_ap, px_kh_ap, px_op_none, px_K_some, px_K_none, px_K_thr, px_kill, ↓reduceIte, if_true, if_false, true_and, and_true, px_gf, px_aa, t1, t3, ge, ii, ci, o1, px_rf, tg_12, Nat.reduceLeDiff, and_self, List.getElem?_cons_zero, List.getElem?_cons_succ, px_kill]
      have key := c_sort_i (sx := sx) (Q := Q) (S := S) t1 t2 t3 t4 t5 hn hin o1 okS s3 s5 hsr (fun q ra' hq p1 p2 r1 r2 r3 r4 => ?_) i i rfl (Nat.le_refl _) (fun j j1 j2 => by omega) ra (fun j _ => rfl) (fun j j1 j2 => by omega) (fun j _ => rfl)
      · rw [wr_id t3] at key; exact key
      · simp only [pc63_69, pc63_72, nI_p1, px_kill]
        have pr := prm_ins t4 (show i < 80 by omega) hq r1 r2 r3 r4
        have ne : ∀ {r : Nat}, r ≠ T + 1 → (px_wr h1 (T + 1) (.inr (12, 80, .inr (.inr ra')))).2[r]? = h1.2[r]? := fun x => by rw [wr_at, if_neg (fun z => x z.symm)]
        have rt : ∀ x, x < n → ra' x = ra (tau q i x) := fun x hx => by
          rcases tau_v q i x with ⟨a, e⟩ | ⟨a, e⟩ | ⟨a, b, e⟩ | ⟨a, b, e⟩
          · rw [e]; exact r1 x a
          · rw [e, a]; exact r2
          · rw [e]; exact r3 x a b
          · rw [e]; exact r4 x b
        have tn : trR (px_wr h1 (T + 1) (.inr (12, 80, .inr (.inr ra')))) T n (fun x => S (tau q i x)) := by
          refine ⟨(ne (by omega)).trans t1, fun k hk => itC_frm (t2 k hk) (ne (by omega)) (ne (by omega)), ra', by rw [wr_at, if_pos rfl, if_pos hl], pr, fun x hx => ?_⟩
          obtain ⟨O', o1', o2'⟩ := t5 (tau q i x) (tau_lt hq hin hx)
          obtain ⟨k, k1, k2⟩ := prm_at t4 (show tau q i x < 80 by have := tau_lt hq hin hx; omega)
          rw [o1'] at k2
          have := Option.some.inj k2
          subst this
          exact ⟨_, (rt x hx).trans o1', ent_frm o2' (ne (by omega)) (ne (by omega)) (fun r hr => ⟨ne (hsr r hr).1, ne (hsr r hr).2⟩)⟩
        refine ih (i + 1) (by omega) (by omega) _ _ _ _ tn (frm_wr fr rfl) (fun s => shape_wr (sh s) (by obtain ⟨f, e⟩ := hT; rw [e]; rfl)) (fun x hx => s1 _ (tau_lt hq hin hx)) (fun j hj => ?_) (fun x y hx hy e => tau_inj hq (s3 _ _ (tau_lt hq hin hx) (tau_lt hq hin hy) e)) ((tau_tot hq hin).trans s4) (fun x y hxy hy => ?_)
        · obtain ⟨k, k1, k2⟩ := s2 j hj
          obtain ⟨x, x1, x2⟩ := tau_on hq hin k1
          exact ⟨x, x1, by show S (tau q i x) = _; rw [x2]; exact k2⟩
        · show plt (eP (S (tau q i x))) (eP (S (tau q i y)))
          have a := tau_v q i x
          have b := tau_v q i y
          by_cases c : x = q
          · have e1 : tau q i x = i := by omega
            rw [e1]
            exact p1 _ (by omega) (by omega)
          · by_cases c' : y = q
            · have e1 : tau q i y = i := by omega
              rw [e1]
              exact p2 _ (by omega)
            · exact s5 _ _ (by omega) (by omega)
  simp only [pc63_0, pc63_1, px_kill]
  have s0 : srtE 1 G := fun a b h1 h2 => by omega
  by_cases n0 : 1 ≤ n
  · exact lp (n - 1) 1 (by omega) (by omega) h G none none t (frm_refl _ _) (fun s => s) (fun i hi => ⟨i, hi, rfl⟩) (fun j hj => ⟨j, hj, rfl⟩) inj rfl s0
  · exact lp 0 1 (by omega) (by omega) h G none none t (frm_refl _ _) (fun s => s) (fun i hi => ⟨i, hi, rfl⟩) (fun j hj => ⟨j, hj, rfl⟩) inj rfl s0
end SORT
