/-! LONGS OUT OF BYTES; A STRETCH COPIED INTO A ROW -/
/-- a long out of its bytes: the last m of them -/
def lgA (g : Nat → Int32) : Nat → Int64
  | 0 => 0
  | m + 1 => lgA g m <<< ((8 : Int32).toInt64 &&& 63) ||| (g (7 - m)).toInt64
set_option maxRecDepth 16384 in
theorem lgA_congr {g g' : Nat → Int32} (h : ∀ i, i < 8 → g i = g' i) : ∀ m, lgA g m = lgA g' m
  | 0 => rfl
  | m + 1 => by
    show lgA g m <<< _ ||| (g (7 - m)).toInt64 = lgA g' m <<< _ ||| (g' (7 - m)).toInt64
    rw [lgA_congr h m, h (7 - m) (by omega)]
section LONGS
variable {sx : Nat × (Nat → Int32)} {h : px_H} {r N n p : Nat} {f g : Nat → Int32} {Q : px_O → px_H → Prop}
set_option maxRecDepth 16384 in
theorem nI_m1 {m : Nat} : nI (m + 1) + -1 = nI m := by
  rw [← nI_1]
  show nI m + 1 + -1 = nI m
  rw [Int32.add_assoc, show (1 : Int32) + -1 = 0 by decide, Int32.add_zero]
set_option maxRecDepth 16384 in
theorem c_longAt_l (w : rowAt h r N n f) (hp : p + 8 ≤ n) (hg : ∀ i, i < 8 → f (p + i) &&& 255 = g i) (hQ : Q (.inl (some (.long (lgA g 8)))) h) :
    ∀ k m, m + k = 8 → px_Wp sx 32 6 [some (.ref r), some (.int (nI p)), some (.long (lgA g m)), none, some (.int (nI k + -1))] [] h Q := by
  have hn := w.2.2
  have hc : px_cls h r = some 1 := by unfold px_cls; rw [w.1]
  intro k
  induction k with
  | zero =>
    intro m hm
    have hm : m = 8 := by omega
    subst hm
    have e : nI 0 + -1 < 0 := by decide
    simp only [pc32_6, pc32_8, pc32_36, pc32_37, e, if_true]
    exact hQ
  | succ k ih =>
    intro m hm
    have e : ¬ nI k < 0 := nI_pos (by omega)
    have h0 : ¬ nI (p + k) < 0 := nI_pos (by omega)
    have h1 : ¬ nI n ≤ nI (p + k) := nI_ge (by omega) (by omega)
    have ck : (nI (p + k)).toNatClampNeg = p + k := nI_clamp (by omega)
    rw [nI_m1, pc32_6]
    simp only [pc32_8, pc32_11, pc32_12, pc32_14, pc32_15, pc32_15n, pc32_16, pc32_17, pc32_19, pc32_20, if_neg e, nI_add, hc, true_and]
    rw [r_at w]
    simp only [px_K_some, pc32_23, pc32_26, pc32_27, pc32_28, pc32_29, pc32_30, pc32_33, px_kill, if_neg h0, if_neg h1, ck]
    have e2 : f (p + k) &&& 255 &&& 255 = g (7 - m) := by rw [Int32.and_assoc, Int32.and_self, hg k (by omega)]; congr 1; omega
    rw [e2]
    exact ih (m + 1) (by omega)
set_option maxRecDepth 16384 in
theorem c_longAt (w : rowAt h r N n f) (hp : p + 8 ≤ n) (hg : ∀ i, i < 8 → f (p + i) &&& 255 = g i) (hQ : Q (.inl (some (.long (lgA g 8)))) h) :
    px_Wp sx 32 0 [some (.ref r), some (.int (nI p)), none, none, none] [] h Q := by
  simp only [pc32_0, pc32_1, pc32_2, pc32_4, px_kill]
  exact c_longAt_l w hp hg hQ 8 0 (by decide)
set_option maxRecDepth 16384 in
theorem m_longIn_l {A NA : Nat} (hA : h.2[A]? = some (.inr (1, NA, .inl f))) (hN : NA ≤ 100000) (hp : p + 8 ≤ NA) (hg : ∀ i, i < 8 → f (p + i) = g i) (hQ : Q (.inl (some (.long (lgA g 8)))) h) :
    ∀ k m, m + k = 8 → px_Wp sx 157 6 [some (.ref A), some (.int (nI p)), some (.long (lgA g m)), none, some (.int (nI k + -1))] [] h Q := by
  intro k
  induction k with
  | zero =>
    intro m hm
    have hm : m = 8 := by omega
    subst hm
    have e : nI 0 + -1 < 0 := by decide
    simp only [pc157_6, pc157_8, pc157_30, pc157_31, e, if_true]
    exact hQ
  | succ k ih =>
    intro m hm
    have e : ¬ nI k < 0 := nI_pos (by omega)
    have ii : px_in (nI (p + k)) NA = true := px_inb (by omega) (by omega)
    have ck : (nI (p + k)).toNatClampNeg = p + k := nI_clamp (by omega)
    rw [nI_m1, pc157_6]
    simp only [pc157_8, pc157_11, pc157_12, pc157_14, pc157_15, pc157_15n, pc157_16, pc157_17, pc157_19, pc157_20, pc157_21, pc157_22, pc157_23, pc157_24, pc157_27, px_op_some, px_kv_ap, px_ki_ap, px_kl_ap, px_kn_ap, px_kh_ap, px_op_none, px_K_some, px_K_none, px_K_thr, px_kill, ↓reduceIte, if_true, if_false, true_and, and_true, px_gf, px_pf, px_ai, px_aj, px_aa, px_wi, px_wj, px_wa, px_an, px_cls, if_neg e, nI_add, hA, tg_i1, ii, ck, and_self]
    have e2 : f (p + k) = g (7 - m) := by rw [hg k (by omega)]; congr 1; omega
    rw [e2]
    exact ih (m + 1) (by omega)
set_option maxRecDepth 16384 in
theorem m_longIn {A NA : Nat} (hA : h.2[A]? = some (.inr (1, NA, .inl f))) (hN : NA ≤ 100000) (hp : p + 8 ≤ NA) (hg : ∀ i, i < 8 → f (p + i) = g i) (hQ : Q (.inl (some (.long (lgA g 8)))) h) :
    px_Wp sx 157 0 [some (.ref A), some (.int (nI p)), none, none, none] [] h Q := by
  simp only [pc157_0, pc157_1, pc157_2, pc157_4, px_kill]
  exact m_longIn_l hA hN hp hg hQ 8 0 (by decide)
set_option maxRecDepth 16384 in
theorem r_addAll {r' N' n' s c : Nat} {f' : Nat → Int32} (w : rowAt h r N n f) (w' : rowAt h r' N' n' f') (hne : r ≠ r') (hne' : r + 1 ≠ r') (hne2 : r ≠ r' + 1) (hs : s + c ≤ n') (hc : n + c ≤ N) (hQ : Q (.inl none) (rowH h r N (n + c) (va_cpy f' f s n c))) :
    px_Wp sx 33 0 [some (.ref r), some (.ref r'), some (.int (nI s)), some (.int (nI c))] [] h Q := by
  have hn := w.2.2
  have hn' := w'.2.2
  have hl := rowAt_lt w
  have hcl : px_cls h r = some 1 := by unfold px_cls; rw [w.1]
  have s0 : ¬ nI s < 0 := nI_pos (by omega)
  have c0 : ¬ nI c < 0 := nI_pos (by omega)
  have g1 : ¬ nI (n' - s) < nI c := nI_nlt (by omega) (by omega)
  have g2 : ¬ nI (N - n) < nI c := nI_nlt (by omega) (by omega)
  have n0 : ¬ nI n < 0 := nI_pos (by omega)
  have cs : (nI s).toNatClampNeg = s := nI_clamp (by omega)
  have cc : (nI c).toNatClampNeg = c := nI_clamp (by omega)
  have cn : (nI n).toNatClampNeg = n := nI_clamp (by omega)
  obtain ⟨w1, w2, -⟩ := w
  obtain ⟨u1, u2, -⟩ := w'
  have hp : px_cp h (r' + 1) (r + 1) (nI s) (nI n) (nI c) = some (px_wr h (r + 1) (.inr (0, N, .inl (va_cpy f' f s n c)))) := by
    unfold px_cp
    rw [u2, w2]
    simp only [cs, cc, cn]
    rw [if_pos ⟨⟨s0, n0, c0⟩, by omega, by omega⟩]
    rfl
  have e : r + 1 ≠ r := by omega
  have e2 : (r + 1 = r') = False := eq_false hne'
  simp only [pc33_0, pc33_1, pc33_4, pc33_5, pc33_8, pc33_9, pc33_9n, pc33_10, pc33_13, pc33_14, pc33_15, pc33_18, pc33_18n, pc33_19, pc33_20, px_gf, u1, if_true, List.getElem?_cons_zero, List.getElem?_cons_succ, px_op_some, px_kv_ap, px_ki_ap, px_kl_ap, px_kn_ap, px_kh_ap, if_neg s0, if_neg c0, nI_sub (show s ≤ n' by omega), if_neg g1, hcl, true_and]
  rw [r_hasRoom ⟨w1, w2, hn⟩, if_neg g2]
  have e3 : (r + 1 = r) = False := eq_false e
  simp only [px_K_some, pc33_23, pc33_26, pc33_26n, pc33_27, pc33_30, pc33_31, pc33_31n, pc33_32, pc33_35, pc33_35n, pc33_36, pc33_39, pc33_40, pc33_43, pc33_43n, pc33_44, pc33_44r, pc33_45, pc33_48, pc33_49, pc33_50, pc33_53, ne_1_0, if_false, px_gf, u1, w1, if_true, List.getElem?_cons_zero, List.getElem?_cons_succ, px_op_some, px_kv_ap, px_ki_ap, px_kl_ap, px_kn_ap, px_kh_ap, hp, wr_at, e3, px_pf, px_fit, List.length_cons, List.length_nil, Nat.reduceAdd, Nat.reduceLT, and_self, List.set_cons_succ, List.set_cons_zero, nI_add, true_and]
  exact hQ
end LONGS
