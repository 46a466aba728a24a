/-! SEND: a transfer begins -/
set_option maxRecDepth 16384 in
theorem img_len {bb : Nat → Int32} {l nl ns : Nat} {pos na nv : Nat → Nat} (h : imgOK bb l nl ns pos na nv) : l ≤ 231 := by
  obtain ⟨h1, h2, -, -, -, h6, h7, h8⟩ := h
  have : ∀ s, s ≤ ns → pos s ≤ 3 + 8 * nl + 22 * s := by
    intro s
    induction s with
    | zero => intro _; omega
    | succ s ih =>
      intro hs
      have a := ih (by omega)
      obtain ⟨⟨b1, b2, b3, b4⟩, -, -, b5⟩ := h7 s (by omega)
      omega
  have := this ns (Nat.le_refl _)
  omega
set_option maxRecDepth 16384 in
theorem tra_at {t : Nat} (ht : t < 4) : tra4 0 t = some (25 + 5 * t) := by
  have : t = 0 ∨ t = 1 ∨ t = 2 ∨ t = 3 := by omega
  rcases this with rfl | rfl | rfl | rfl <;> rfl
/-- a transfer's object -/
def trF (X : Nat) (a b c d e g i j : Int32) (v : Int64) : List Value := [.int a, .int b, .int c, .int d, .int e, .int g, .int i, .int j, .long v, .ref (X + 1), .ref (X + 3)]
section SEND
variable {sx : Nat × (Nat → Int32)} {h : px_H} {Q : px_O → px_H → Prop}
set_option maxRecDepth 16384 in
theorem c_begin {X Y q j k k' s l R B n0 : Nat} {a b c d e g i jj x y : Int32} {v : Int64} {f st ln f0 : Nat → Int32} {D G : Nat → Int64} (hXY : Y + 11 ≤ X) (hX : h.2[X]? = some (.inl (8, trF X a b c d e g i jj v))) (wX : rowAt h (X + 1) 231 n0 f0) (hY : h.2[Y]? = some (.inl (7, yrdF Y x (nI B) y))) (w : rowAt h (Y + 1) 40000 R f) (hD : h.2[Y + 3]? = some (.inr (2, 60, .inr (.inl D)))) (hst : h.2[Y + 4]? = some (.inr (1, 60, .inl st))) (hln : h.2[Y + 5]? = some (.inr (1, 60, .inl ln))) (hG : h.2[Y + 9]? = some (.inr (2, 8, .inr (.inl G))))
    (hj : j < 8) (hB : B ≤ 60) (hk : k < B) (hd : D k = G j) (hu : ∀ a b, a < B → b < B → D a = D b → a = b) (hs : st k = nI s) (hl : ln k = nI l) (hl2 : l ≤ 231) (hsl : s + l ≤ R)
    (hQ : Q (.inl none) (rowH (px_wr h X (.inl (8, trF X 1 1 0 0 0 (nI q) (nI k') 0 v))) (X + 1) 231 l (va_cpy f f0 s 0 l))) :
    px_Wp sx 114 0 [some (.ref X), some (.int (nI q)), some (.ref Y), some (.int (nI j)), some (.int (nI k')), none] [] h Q := by
  have hlX := rowAt_lt wX
  have ij : px_in (nI j) 8 = true := px_inb hj (by decide)
  have cj : (nI j).toNatClampNeg = j := nI_clamp (by omega)
  have ik : px_in (nI k) 60 = true := px_inb (by omega) (by decide)
  have ck : (nI k).toNatClampNeg = k := nI_clamp (by omega)
  have z : ∀ x : px_C, (px_wr h X x).2[X]? = some x := fun x => by rw [wr_at, if_pos rfl, if_pos (by omega)]
  have z1 : ∀ x : px_C, (px_wr h X x).2[X + 1]? = some (.inl (1, [.ref (X + 1 + 1), .int (nI n0)])) := fun x => by rw [wr_at, if_neg (by omega)]; exact wX.1
  have fit1 : px_fit 1 (.int 1) = true := by decide
  have fit0 : px_fit 1 (.int 0) = true := by decide
  unfold trF at hX hQ
  have hw0 : ∀ x : px_C, rowAt (px_wr h X x) (X + 1) 231 n0 f0 := fun x => ⟨z1 x, by rw [wr_at, if_neg (by omega)]; exact wX.2.1, wX.2.2⟩
  have e0 := row_0 (hw0 (.inl (8, [.int 1, .int 1, .int 0, .int 0, .int 0, .int (nI q), .int (nI k'), .int 0, .long v, .ref (X + 1), .ref (X + 3)])))
  generalize hh1 : px_wr h X (.inl (8, [.int 1, .int 1, .int 0, .int 0, .int 0, .int (nI q), .int (nI k'), .int 0, .long v, .ref (X + 1), .ref (X + 3)])) = h1 at e0 hQ
  have r : ∀ k x, X ≠ k → h.2[k]? = some x → h1.2[k]? = some x := fun k x a e => by rw [← hh1, wr_at, if_neg a]; exact e
  have x1 : h1.2[X]? = some (.inl (8, [.int 1, .int 1, .int 0, .int 0, .int 0, .int (nI q), .int (nI k'), .int 0, .long v, .ref (X + 1), .ref (X + 3)])) := by rw [← hh1]; exact z _
  have lh1 : h1.2.length = h.2.length := by rw [← hh1, px_wr_len]
  have w1 : rowAt h1 (X + 1) 231 n0 f0 := by rw [← hh1]; exact hw0 _
  have r2 : ∀ k x, X ≠ k → X + 1 ≠ k → X + 2 ≠ k → h.2[k]? = some x → (rowH h1 (X + 1) 231 0 f0).2[k]? = some x := fun k x a b c e => by rw [rowH_at b c]; exact r k x a e
  have hY1 := hY
  unfold yrdF at hY1
  have sY := r2 Y _ (by omega) (by omega) (by omega) hY1
  have sYf := r2 Y _ (by omega) (by omega) (by omega) hY
  have sG := r2 (Y + 9) _ (by omega) (by omega) (by omega) hG
  have sD := r2 (Y + 3) _ (by omega) (by omega) (by omega) hD
  have sst := r2 (Y + 4) _ (by omega) (by omega) (by omega) hst
  have sln := r2 (Y + 5) _ (by omega) (by omega) (by omega) hln
  have sX : (rowH h1 (X + 1) 231 0 f0).2[X]? = some (.inl (8, [.int 1, .int 1, .int 0, .int 0, .int 0, .int (nI q), .int (nI k'), .int 0, .long v, .ref (X + 1), .ref (X + 3)])) := by rw [rowH_at (by omega) (by omega), ← hh1]; exact z _
  have hcY : px_cls (rowH h1 (X + 1) 231 0 f0) Y = some 7 := by unfold px_cls; rw [sY]
  have hcX : px_cls (rowH h1 (X + 1) 231 0 f0) (X + 1) = some 1 := by unfold px_cls; rw [rowH_r (by omega)]
  simp only [pc114_0, pc114_0n, pc114_1, pc114_2, pc114_5, pc114_5n, pc114_6, pc114_7, pc114_10, pc114_10n, pc114_11, pc114_12, pc114_15, pc114_15n, pc114_16, pc114_17, pc114_20, pc114_20n, pc114_21, pc114_22, pc114_25, pc114_25n, pc114_26, pc114_27, pc114_30, pc114_30n, pc114_31, pc114_33, pc114_36, pc114_36n, pc114_37, pc114_38, pc114_41, pc114_41n, pc114_42, pc114_45, pc114_46, pc114_49, pc114_49n, pc114_50, pc114_50n, pc114_51, pc114_54, pc114_55, pc114_56, px_op_some, px_kv_ap, px_ki_ap, px_kl_ap, px_kn_ap, px_kh_ap, px_op_none, px_K_some, px_K_none, px_K_thr, px_kill, ↓reduceIte, if_true, if_false, true_and, and_true, px_gf, px_pf, px_aj, hX, z, z1, List.length_cons, List.length_nil, Nat.reduceAdd, Nat.reduceLT, px_fit, and_self, List.set_cons_succ, List.set_cons_zero, List.getElem?_cons_zero, List.getElem?_cons_succ, px_wr_wr, decide_true, true_or, or_true, hh1, x1, w1.1, e0, sY, sG, ij, cj, hcY]
  refine c_find hB sYf sD (fun vv hv => ?_)
  rw [fst_is hv hk hd hu]
  simp only [px_K_some, pc114_59, pc114_61, pc114_63, pc114_64, pc114_67, pc114_67n, pc114_68, pc114_71, pc114_71n, pc114_72, pc114_75, pc114_75n, pc114_76, pc114_79, pc114_81, pc114_82, pc114_82n, pc114_83, pc114_86, pc114_88, pc114_89, px_kill, nI_nm1 (k := k) (by omega), if_false, px_gf, px_ai, tg_i1, sX, sY, sst, sln, if_true, List.getElem?_cons_zero, List.getElem?_cons_succ, px_op_some, px_kv_ap, px_ki_ap, px_kl_ap, px_kn_ap, px_kh_ap, ik, ck, hs, hl, and_self, hcX, true_and]
  refine r_addAll (n' := R) (N' := 40000) (f' := f) (rowAt_rowH (by omega) (by omega) (by omega)) ⟨r2 _ _ (by omega) (by omega) (by omega) w.1, r2 _ _ (by omega) (by omega) (by omega) w.2.1, w.2.2⟩ (by omega) (by omega) (by omega) hsl (by omega) ?_
  simp only [px_K_none, pc114_92, rowH_rowH, Nat.zero_add]
  exact hQ
set_option maxRecDepth 16384 in
theorem c_send_l {o : Nat → Int32} {l4 : Nat} {l1 l2 l3 : Int32} (h0 : h.2[0]? = some (.inl (0, iyaF))) (h24 : h.2[24]? = some (.inr (18, 4, .inr (.inr (tra4 0))))) (hX : ∀ t, t < 4 → ∃ fs, h.2[25 + 5 * t]? = some (.inl (8, .int (o t) :: fs)))
    (hQ : ∀ t, t < 4 → (∀ k, k < t → ¬ o k = 0) → o t = 0 → px_Wp sx 21 47 [some (.ref 0), some (.int l1), some (.int l2), some (.int l3), some (.ref l4), some (.int (nI t))] [] h Q)
    (hQ4 : (∀ k, k < 4 → ¬ o k = 0) → px_Wp sx 21 71 [some (.ref 0), some (.int l1), some (.int l2), some (.int l3), some (.ref l4), some (.int (nI 4))] [] h Q) :
    ∀ m k, k + m = 4 → (∀ j, j < k → ¬ o j = 0) → px_Wp sx 21 24 [some (.ref 0), some (.int l1), some (.int l2), some (.int l3), some (.ref l4), some (.int (nI k))] [] h Q := by
  intro m
  induction m with
  | zero =>
    intro k hk hn
    have hk : k = 4 := by omega
    subst hk
    simp only [pc21_24, pc21_26, pc21_26n, pc21_27, pc21_30, pc21_31, px_op_some, px_kv_ap, px_ki_ap, px_kl_ap, px_kn_ap, px_kh_ap, px_op_none, px_K_some, px_K_none, px_K_thr, px_kill, ↓reduceIte, if_true, if_false, true_and, and_true, px_gf, px_an, h0, h24, iy_1, tg_18, show Int32.ofNat 4 = nI 4 from rfl, if_pos (Int32.le_refl (nI 4))]
    exact hQ4 hn
  | succ m ih =>
    intro k hk hn
    have hge : ¬ Int32.ofNat 4 ≤ nI k := nI_ge (b := 4) (by omega) (by decide)
    have hin : px_in (nI k) 4 = true := px_inb (by omega) (by decide)
    have hcl : (nI k).toNatClampNeg = k := nI_clamp (by omega)
    obtain ⟨fs, hx⟩ := hX k (by omega)
    rw [pc21_24]
    by_cases e : o k = 0
    · simp only [pc21_26, pc21_26n, pc21_27, pc21_30, pc21_31, pc21_34, pc21_34n, pc21_35, pc21_38, pc21_40, pc21_41, pc21_44, px_op_some, px_kv_ap, px_ki_ap, px_kl_ap, px_kn_ap, px_kh_ap, px_op_none, px_K_some, px_K_none, px_K_thr, px_kill, ↓reduceIte, if_true, if_false, true_and, and_true, px_gf, px_an, px_aa, h0, h24, iy_1, tg_18, if_neg hge, hin, hcl, tra_at (t := k) (by omega), px_rf, and_self, Nat.reduceLeDiff, hx, List.getElem?_cons_zero, e, not_true_eq_false]
      exact hQ k (by omega) hn e
    · simp only [pc21_26, pc21_26n, pc21_27, pc21_30, pc21_31, pc21_34, pc21_34n, pc21_35, pc21_38, pc21_40, pc21_41, pc21_44, pc21_65, pc21_68, px_op_some, px_kv_ap, px_ki_ap, px_kl_ap, px_kn_ap, px_kh_ap, px_op_none, px_K_some, px_K_none, px_K_thr, px_kill, ↓reduceIte, if_true, if_false, true_and, and_true, px_gf, px_an, px_aa, h0, h24, iy_1, tg_18, if_neg hge, hin, hcl, tra_at (t := k) (by omega), px_rf, and_self, Nat.reduceLeDiff, hx, List.getElem?_cons_zero, e, not_false_eq_true, nI_1]
      refine ih (k + 1) (by omega) (fun j hj => ?_)
      by_cases z : j = k
      · rw [z]; exact e
      · exact hn j (by omega)
end SEND
