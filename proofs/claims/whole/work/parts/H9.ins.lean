/-! TREES, the class's: insert -/
section CINS
variable {sx : Nat × (Nat → Int32)} {h : px_H} {T n a O l : Nat} {E : Nat → aE} {p : Nat → Nat} {Q : px_O → px_H → Prop}
/-- a tree but for its entry i, which has its path alone -/
def trX (h : px_H) (T n : Nat) (E : Nat → aE) (i F l : Nat) (p : Nat → Nat) : Prop := h.2[T]? = some (.inl (3, [.ref (T + 1), .int (nI n)])) ∧ trC h T ∧ (∃ kd src st cn g, h.2[F]? = some (.inl (2, enF F (nI l) kd src st cn)) ∧ h.2[F + 1]? = some (.inr (0, 35, .inl g)) ∧ ∀ j, j < l → g j = nI (p j)) ∧ ∃ ra, h.2[T + 1]? = some (.inr (12, 80, .inr (.inr ra))) ∧ prm T ra ∧ ra i = some F ∧ ∀ j, j < n → j ≠ i → ∃ O, ra j = some O ∧ entR h O (E j)
set_option maxRecDepth 16384 in
theorem trX_of {i : Nat} (t : trR h T n E) (hi : i < n) : ∃ F, trX h T n E i F (eL (E i)) (eP (E i)) := by
  obtain ⟨t1, t2, ra, t3, t4, t5⟩ := t
  obtain ⟨F, f1, src, st, cn, g, f2, f3, f4, -⟩ := t5 i hi
  exact ⟨F, t1, t2, ⟨_, src, st, cn, g, f2, f3, f4⟩, ra, t3, t4, f1, fun j hj _ => t5 j hj⟩
/-! the entry becomes what it shall be -/
set_option maxRecDepth 16384 in
theorem trX_set {i F : Nat} {e : aE} {kd st cn : Int32} {src : Value} (t : trX h T n E i F l p) (hn : n ≤ 80) (hi : i < 80) (el : eL e = l) (ep : eP e = p) (ek : kd = nI (eK e)) (hsr : ∀ r, srcOK r → ¬ trA T r ∧ ¬ trA T (r + 1))
    (hs : eK e = 1 ∧ src = .null ∧ st = 0 ∧ cn = 0 ∨ eK e = 2 ∧ ∃ r s N n f, srcT F r ∧ src = .ref r ∧ st = nI s ∧ cn = nI (eN e) ∧ rowAt h r N n f ∧ s + eN e ≤ n ∧ ∀ k, k < eN e → f (s + k) &&& 255 = eC e k) :
    trR (px_wr h F (.inl (2, enF F (nI l) kd src st cn))) T n (px_up E i e) ∧ ∃ k, k < 80 ∧ F = T + 2 + 2 * k := by
  obtain ⟨t1, t2, ⟨kd0, src0, st0, cn0, g, t3, t4, t5⟩, ra, t6, t7, t8, t9⟩ := t
  obtain ⟨k, k1, k2⟩ := prm_at t7 hi
  rw [t8] at k2
  have hF := Option.some.inj k2
  have lF : F < h.2.length := (List.getElem?_eq_some_iff.mp t3).1
  have ne : ∀ {r : Nat}, r ≠ F → (px_wr h F (.inl (2, enF F (nI l) kd src st cn))).2[r]? = h.2[r]? := fun x => by rw [wr_at, if_neg (fun z => x z.symm)]
  have zF : (px_wr h F (.inl (2, enF F (nI l) kd src st cn))).2[F]? = some (.inl (2, enF F (nI l) kd src st cn)) := by rw [wr_at, if_pos rfl, if_pos lF]
  have rw_ : ∀ r, srcOK r → (px_wr h F (.inl (2, enF F (nI l) kd src st cn))).2[r]? = h.2[r]? ∧ (px_wr h F (.inl (2, enF F (nI l) kd src st cn))).2[r + 1]? = h.2[r + 1]? := fun r hr => by
    obtain ⟨y1, y2⟩ := hsr r hr
    unfold trA at y1 y2
    exact ⟨ne (by omega), ne (by omega)⟩
  refine ⟨⟨(ne (by omega)).trans t1, fun k' hk' => ?_, ra, (ne (by omega)).trans t6, t7, fun j hj => ?_⟩, k, k1, hF⟩
  · by_cases x : T + 2 + 2 * k' = F
    · rw [x]; exact ⟨_, _, _, _, _, g, zF, (ne (by omega)).trans t4⟩
    · exact itC_frm (t2 k' hk') (ne x) (ne (by omega))
  · by_cases x : j = i
    · subst x
      refine ⟨F, t8, src, st, cn, g, ?_, (ne (by omega)).trans t4, ?_, ?_⟩
      · rw [up_same, el, ← ek]; exact zF
      · rw [up_same, el, ep]; exact t5
      · rw [up_same]
        rcases hs with hs | ⟨hs, r, s, N, m, f, s1, s2, s3, s4, s5, s6⟩
        · exact .inl hs
        · exact .inr ⟨hs, r, s, N, m, f, s1, s2, s3, s4, ⟨(rw_ r (srcT_ok s1)).1.trans s5.1, (rw_ r (srcT_ok s1)).2.trans s5.2.1, s5.2.2⟩, s6⟩
    · obtain ⟨O', o1, o2⟩ := t9 j hj x
      obtain ⟨k', q1, q2⟩ := prm_at t7 (show j < 80 by omega)
      rw [o1] at q2
      have hO := Option.some.inj q2
      have nF : O' ≠ F := fun z => by
        obtain ⟨π, p1, p2⟩ := t7
        have a1 := (p1 j (by omega)).1
        have a2 := (p1 i hi).1
        rw [o1] at a1
        rw [t8] at a2
        have b1 := Option.some.inj a1
        have b2 := Option.some.inj a2
        exact x (p2 j i (by omega) hi (by omega))
      refine ⟨O', o1, ?_⟩
      rw [up_ne x]
      exact ent_frm o2 (ne nF) (ne (by omega)) rw_
set_option maxRecDepth 16384 in
theorem c_ins_l {ra : Nat → Option Nat} {F : Nat} (t1 : h.2[T]? = some (.inl (3, [.ref (T + 1), .int (nI n)]))) (t2 : trC h T) (hl : T + 1 < h.2.length) (hn : n < 80) (han : a ≤ n) (pr : prm T ra)
    (hQ : ∀ ra', (∀ j, j ≤ a → ra' j = ra j) → (∀ j, a < j → j ≤ n → ra' j = ra (j - 1)) → (∀ j, n < j → ra' j = ra j) → px_Wp sx 60 70 [some (.ref T), some (.int (nI a)), some (.ref O), some (.ref F), some (.int (nI a))] [] (px_wr h (T + 1) (.inr (12, 80, .inr (.inr ra')))) Q) :
    ∀ d i, i = a + d → i ≤ n → ∀ ra', (∀ j, j ≤ i → ra' j = ra j) → (∀ j, i < j → j ≤ n → ra' j = ra (j - 1)) → (∀ j, n < j → ra' j = ra j) → px_Wp sx 60 42 [some (.ref T), some (.int (nI a)), some (.ref O), some (.ref F), some (.int (nI i))] [] (px_wr h (T + 1) (.inr (12, 80, .inr (.inr ra')))) Q := by
  have z1 : ∀ x : px_C, (px_wr h (T + 1) x).2[T]? = some (.inl (3, [.ref (T + 1), .int (nI n)])) := fun x => by rw [wr_at, if_neg (by omega)]; exact t1
  have z2 : ∀ x : px_C, (px_wr h (T + 1) x).2[T + 1]? = some x := fun x => by rw [wr_at, if_pos rfl, if_pos hl]
  have z3 : ∀ (x : px_C) k, k < 80 → ∃ fs, (px_wr h (T + 1) x).2[T + 2 + 2 * k]? = some (.inl (2, fs)) := fun x k hk => by
    obtain ⟨l, kd, src, st, cn, g, o1, -⟩ := t2 k hk
    exact ⟨_, by rw [wr_at, if_neg (by omega)]; exact o1⟩
  intro d
  induction d with
  | zero =>
    intro i hi hin ra' r1 r2 r3
    have hi : i = a := by omega
    subst hi
    rw [pc60_42]
    simp only [pc60_44, pc60_45, if_pos (Int32.le_refl _)]
    exact hQ ra' r1 r2 r3
  | succ d ih =>
    intro i hi hin ra' r1 r2 r3
    have g1 : nI a < nI i := nI_lt (by omega) (by omega)
    have ii : px_in (nI i) 80 = true := px_inb (by omega) (by decide)
    have ci : (nI i).toNatClampNeg = i := nI_clamp (by omega)
    have ig : px_in (nI (i - 1)) 80 = true := px_inb (by omega) (by decide)
    have cg : (nI (i - 1)).toNatClampNeg = i - 1 := nI_clamp (by omega)
    have sub : nI i - 1 = nI (i - 1) := nI_sub (a := i) (b := 1) (by omega)
    have dec : nI i + -1 = nI (i - 1) := by
      obtain ⟨i', rfl⟩ : ∃ i', i = i' + 1 := ⟨i - 1, by omega⟩
      rw [nI_m1, Nat.add_sub_cancel]
    obtain ⟨k1, q1, e1⟩ := prm_at pr (show i - 1 < 80 by omega)
    rw [← r1 (i - 1) (by omega)] at e1
    obtain ⟨fs1, f1⟩ := z3 (.inr (12, 80, .inr (.inr ra'))) k1 q1
    rw [pc60_42]
    simp only [pc60_44, pc60_45, pc60_48, pc60_48n, pc60_49, pc60_52, pc60_54, pc60_54n, pc60_55, pc60_58, pc60_60, pc60_61, pc60_62, pc60_63, pc60_64, pc60_67, px_op_some, px_kv_ap, px_ki_ap, px_kl_ap, px_kn_ap, px_kh_ap, px_op_none, px_K_some, px_K_none, px_K_thr, px_kill, ↓reduceIte, if_true, if_false, true_and, and_true, px_gf, px_aa, px_wa, yr_0, yr_1, tr_0, tr_1, tr_2, tr_3, px_rf, of_2, of_4, in_02, in_12, in_04, in_14, in_24, in_34, Nat.reduceLeDiff, in_01, lgc_self, Int32.reduceToNatClampNeg, wr_at, al_at, px_wr_len, px_al_len, px_wr_1, px_al_1, tg_0, tg_1, tg_2, tg_3, tg_12, tg_15, tg_17, tg_18, tg_i1, tg_b0, tg_b3, px_fit, Nat.reduceEqDiff, Nat.reduceLT, Nat.reduceAdd, Option.some.injEq, up_at, px_wr_wr, i32_le, Int32.reduceLE, Int32.reduceLT, mf_len, nar_0, nar_1, px_KH_some, px_KH_none, px_KH_thr, List.length_cons, List.length_nil, List.getElem?_cons_zero, List.getElem?_cons_succ, List.set_cons_zero, List.set_cons_succ, ↓reduceIte, Nat.lt_irrefl, ne_0_1, ne_0_2, ne_0_3, ne_0_4, ne_0_5, ne_1_0, ne_1_2, ne_1_3, ne_1_4, ne_1_5, ne_2_0, ne_2_1, ne_2_3, ne_2_4, ne_2_5, ne_3_0, ne_3_1, ne_3_2, ne_3_4, ne_3_5, ne_4_0, ne_4_1, ne_4_2, ne_4_3, ne_4_5, ne_5_0, ne_5_1, ne_5_2, ne_5_3, ne_5_4, hd_256_12, hd_256_16, hd_257_12, hd_258_12, hd_259_12, hd_260_12, hd_261_12, hd_261_13, hd_261_16, hd_262_12, hd_262_13, hd_262_16, hd_263_12, hd_263_13, hd_264_12, hd_264_13, hd_264_14, hd_265_12, hd_265_13, hd_265_14, hd_266_12, hd_267_12, hd_267_13, hd_267_14, hd_268_12, hd_269_12, hd_269_14, hd_270_12, hd_271_12, hd_272_12, hd_273_12, hd_273_13, hd_273_15, hd_274_12, hd_274_15, hd_275_12, hd_275_15, hd_276_12, nI_p1, nI_p2, nI_p3, nI_p4, nI_p5, not_true_eq_false, not_false_eq_true, and_self, mf_0, mf_1, mf_2, mf_3, mf_4, mf_5, mf_6, mf_7, mf_8, mf_9, mf_10, mf_11, mf_12, mf_13, mf_14, mf_15, mf_16, mf_17, mf_18, mf_19, mf_20, mf_21, mf_22, mf_23, mf_24, mf_25, mf_26, mf_27, mf_28, mf_29, mf_30, mf_31, mf_32, mf_33, mf_34, mf_35, mf_36, mf_37, mf_38, mf_39, mf_40, mf_41, mf_42, mf_43, mf_44, mf_45, mf_46, mf_47, mf_48, mf_49, mf_50, mf_51, mf_52, mf_53, mf_54, mf_55, mf_56, mf_57, mf_58, mf_59, mf_60, mf_61, mfs_0, mfs_2, mfs_17, mfs_20, mfs_26, mfs_32, mfs_34, mfs_36, mfs_38, mfs_43, mfs_44, mfs_45, mfs_46, mfs_47, iy_0, iy_1, iy_2, iy_3, iy_4, iy_5, iy_6, z1, z2, g1, ii, ci, ig, cg, sub, dec, e1, f1, px_rf, tg_12, Nat.reduceLeDiff, Nat.reduceAdd, and_self, px_wr_wr, px_kill]
    refine ih (i - 1) (by omega) (by omega) _ (fun j hj => ?_) (fun j j1 j2 => ?_) (fun j hj => ?_)
    · rw [up_ne (by omega)]; exact r1 j (by omega)
    · by_cases x : j = i
      · subst x; rw [up_same, ← e1, r1 _ (by omega)]
      · rw [up_ne x]; exact r2 j (by omega) j2
    · rw [up_ne (by omega)]; exact r3 j hj
set_option maxRecDepth 16384 in
theorem prm_ins {ra ra' : Nat → Option Nat} (w : prm T ra) (hn : n < 80) (han : a ≤ n) (r1 : ∀ j, j < a → ra' j = ra j) (r2 : ra' a = ra n) (r3 : ∀ j, a < j → j ≤ n → ra' j = ra (j - 1)) (r4 : ∀ j, n < j → ra' j = ra j) : prm T ra' := by
  obtain ⟨π, p1, p2⟩ := w
  have val : ∀ k, k < 80 → ∃ k', k' < 80 ∧ ra' k = ra k' ∧ (k < a ∧ k' = k ∨ k = a ∧ k' = n ∨ a < k ∧ k ≤ n ∧ k' = k - 1 ∨ n < k ∧ k' = k) := fun k hk => by
    rcases Nat.lt_trichotomy k a with x | x | x
    · exact ⟨k, hk, r1 k x, .inl ⟨x, rfl⟩⟩
    · exact ⟨n, hn, by rw [x]; exact r2, .inr (.inl ⟨x, rfl⟩)⟩
    · by_cases y : k ≤ n
      · exact ⟨k - 1, by omega, r3 k x y, .inr (.inr (.inl ⟨x, y, rfl⟩))⟩
      · exact ⟨k, hk, r4 k (by omega), .inr (.inr (.inr ⟨by omega, rfl⟩))⟩
  refine ⟨fun k => if k < a then π k else if k = a then π n else if k ≤ n then π (k - 1) else π k, ?_, ?_⟩
  · intro k hk
    show ra' k = some (T + 2 + 2 * (if k < a then π k else if k = a then π n else if k ≤ n then π (k - 1) else π k)) ∧ (if k < a then π k else if k = a then π n else if k ≤ n then π (k - 1) else π k) < 80
    rcases Nat.lt_trichotomy k a with x | x | x
    · rw [if_pos x, r1 k x]; exact p1 k hk
    · rw [if_neg (by omega), if_pos x, x, r2]; exact p1 n hn
    · rw [if_neg (by omega), if_neg (by omega)]
      by_cases y : k ≤ n
      · rw [if_pos y, r3 k x y]; exact p1 (k - 1) (by omega)
      · rw [if_neg y, r4 k (by omega)]; exact p1 k hk
  · intro x y hx hy e
    have e : (if x < a then π x else if x = a then π n else if x ≤ n then π (x - 1) else π x) = (if y < a then π y else if y = a then π n else if y ≤ n then π (y - 1) else π y) := e
    have e' : ∀ k, k < 80 → ∃ k', k' < 80 ∧ (if k < a then π k else if k = a then π n else if k ≤ n then π (k - 1) else π k) = π k' ∧ (k < a ∧ k' = k ∨ k = a ∧ k' = n ∨ a < k ∧ k ≤ n ∧ k' = k - 1 ∨ n < k ∧ k' = k) := fun k hk => by
      rcases Nat.lt_trichotomy k a with z | z | z
      · exact ⟨k, hk, if_pos z, .inl ⟨z, rfl⟩⟩
      · exact ⟨n, hn, by rw [if_neg (by omega), if_pos z], .inr (.inl ⟨z, rfl⟩)⟩
      · by_cases w : k ≤ n
        · exact ⟨k - 1, by omega, by rw [if_neg (by omega), if_neg (by omega), if_pos w], .inr (.inr (.inl ⟨z, w, rfl⟩))⟩
        · exact ⟨k, hk, by rw [if_neg (by omega), if_neg (by omega), if_neg w], .inr (.inr (.inr ⟨by omega, rfl⟩))⟩
    obtain ⟨x', x1, x2, x3⟩ := e' x hx
    obtain ⟨y', y1, y2, y3⟩ := e' y hy
    rw [x2, y2] at e
    have := p2 x' y' x1 y1 e
    omega
set_option maxRecDepth 16384 in
theorem c_copyPath {F : Nat} {kd st cn l0 : Int32} {src : Value} {g0 : Nat → Int32} (b : enP h O l p) (o1 : h.2[F]? = some (.inl (2, enF F l0 kd src st cn))) (o2 : h.2[F + 1]? = some (.inr (0, 35, .inl g0))) (hFO : F ≠ O + 1)
    (hQ : ∀ g, (∀ j, j < l → g j = nI (p j)) → Q (.inl none) (tpH h F l kd src st cn g)) : px_Wp sx 47 0 [some (.ref F), some (.ref O)] [] h Q := by
  obtain ⟨⟨kd', src', st', cn', b1⟩, ⟨g', b2, b3⟩, b4⟩ := b
  have hl : F + 1 < h.2.length := (List.getElem?_eq_some_iff.mp o2).1
  unfold enF at o1
  have cl : (nI l).toNatClampNeg = l := nI_clamp (by omega)
  have hp : px_cp h (O + 1) (F + 1) 0 0 (nI l) = some (px_wr h (F + 1) (.inr (0, 35, .inl (va_cpy g' g0 0 0 l)))) := by
    unfold px_cp
    rw [b2, o2]
    simp only [cl, show (0 : Int32).toNatClampNeg = 0 from rfl]
    rw [if_pos ⟨⟨by decide, by decide, nI_pos (by omega)⟩, by omega, by omega⟩]
    rfl
  have e1 : (px_wr h (F + 1) (.inr (0, 35, .inl (va_cpy g' g0 0 0 l)))).2[F]? = some (.inl (2, [.ref (F + 1), .int l0, .int kd, src, .int st, .int cn])) := by rw [wr_at, if_neg (by omega)]; exact o1
  have e2 : ∃ x, (px_wr h (F + 1) (.inr (0, 35, .inl (va_cpy g' g0 0 0 l)))).2[O]? = some (.inl (2, [.ref (O + 1), .int (nI l), .int kd', src', .int st', .int cn'])) ∧ x = 0 := by
    refine ⟨0, ?_, rfl⟩
    rw [wr_at]
    by_cases z : F + 1 = O
    · subst z; rw [o2] at b1; cases b1
    · rw [if_neg z]; exact b1
  obtain ⟨-, e2, -⟩ := e2
  simp only [pc47_0, pc47_0n, pc47_1, pc47_4, pc47_5, pc47_5n, pc47_6, pc47_9, pc47_10, pc47_10n, pc47_11, pc47_14, pc47_17, pc47_17n, pc47_18, pc47_18n, pc47_19, pc47_22, pc47_25, px_op_some, px_kv_ap, px_ki_ap, px_kl_ap, px_kn_ap, px_kh_ap, px_op_none, px_K_some, px_K_none, px_K_thr, px_kill, ↓reduceIte, if_true, if_false, true_and, and_true, px_gf, px_pf, yr_0, yr_1, tr_0, tr_1, tr_2, tr_3, px_rf, of_2, of_4, in_02, in_12, in_04, in_14, in_24, in_34, Nat.reduceLeDiff, in_01, lgc_self, Int32.reduceToNatClampNeg, wr_at, al_at, px_wr_len, px_al_len, px_wr_1, px_al_1, tg_0, tg_1, tg_2, tg_3, tg_12, tg_15, tg_17, tg_18, tg_i1, tg_b0, tg_b3, px_fit, Nat.reduceEqDiff, Nat.reduceLT, Nat.reduceAdd, Option.some.injEq, up_at, px_wr_wr, i32_le, Int32.reduceLE, Int32.reduceLT, mf_len, nar_0, nar_1, px_KH_some, px_KH_none, px_KH_thr, List.length_cons, List.length_nil, List.getElem?_cons_zero, List.getElem?_cons_succ, List.set_cons_zero, List.set_cons_succ, ↓reduceIte, Nat.lt_irrefl, ne_0_1, ne_0_2, ne_0_3, ne_0_4, ne_0_5, ne_1_0, ne_1_2, ne_1_3, ne_1_4, ne_1_5, ne_2_0, ne_2_1, ne_2_3, ne_2_4, ne_2_5, ne_3_0, ne_3_1, ne_3_2, ne_3_4, ne_3_5, ne_4_0, ne_4_1, ne_4_2, ne_4_3, ne_4_5, ne_5_0, ne_5_1, ne_5_2, ne_5_3, ne_5_4, hd_256_12, hd_256_16, hd_257_12, hd_258_12, hd_259_12, hd_260_12, hd_261_12, hd_261_13, hd_261_16, hd_262_12, hd_262_13, hd_262_16, hd_263_12, hd_263_13, hd_264_12, hd_264_13, hd_264_14, hd_265_12, hd_265_13, hd_265_14, hd_266_12, hd_267_12, hd_267_13, hd_267_14, hd_268_12, hd_269_12, hd_269_14, hd_270_12, hd_271_12, hd_272_12, hd_273_12, hd_273_13, hd_273_15, hd_274_12, hd_274_15, hd_275_12, hd_275_15, hd_276_12, nI_p1, nI_p2, nI_p3, nI_p4, nI_p5, not_true_eq_false, not_false_eq_true, and_self, mf_0, mf_1, mf_2, mf_3, mf_4, mf_5, mf_6, mf_7, mf_8, mf_9, mf_10, mf_11, mf_12, mf_13, mf_14, mf_15, mf_16, mf_17, mf_18, mf_19, mf_20, mf_21, mf_22, mf_23, mf_24, mf_25, mf_26, mf_27, mf_28, mf_29, mf_30, mf_31, mf_32, mf_33, mf_34, mf_35, mf_36, mf_37, mf_38, mf_39, mf_40, mf_41, mf_42, mf_43, mf_44, mf_45, mf_46, mf_47, mf_48, mf_49, mf_50, mf_51, mf_52, mf_53, mf_54, mf_55, mf_56, mf_57, mf_58, mf_59, mf_60, mf_61, mfs_0, mfs_2, mfs_17, mfs_20, mfs_26, mfs_32, mfs_34, mfs_36, mfs_38, mfs_43, mfs_44, mfs_45, mfs_46, mfs_47, iy_0, iy_1, iy_2, iy_3, iy_4, iy_5, iy_6, b1, o1, hp, e1, e2, px_fit, List.length_cons, List.length_nil, Nat.reduceAdd, Nat.reduceLT, and_self, List.set_cons_succ, List.set_cons_zero]
  exact hQ _ (fun j hj => by rw [vcp_at hj, Nat.zero_add]; exact b3 j hj)
end CINS
