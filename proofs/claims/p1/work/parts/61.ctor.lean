/-! CONSTRUCTORS WITH LOOPS -/
set_option maxRecDepth 16384 in
theorem hp_new {α : Type} (A l : List α) (c : α) : (A ++ (c :: l))[A.length]? = some c := by
  rw [List.getElem?_append_right (by omega), Nat.sub_self]; rfl
set_option maxRecDepth 16384 in
theorem px_inb {c N : Nat} (h : c < N) (hN : N < 2 ^ 31) : px_in (nI c) N = true := by
  unfold px_in; exact decide_eq_true (nI_in h hN)
set_option maxRecDepth 16384 in
theorem ent_call {sx : Nat × (Nat → Int32)} {w n : Nat} {pre l : List px_C} {Q : px_O → px_H → Prop} (hl : l.length = n) (hc : pre.length + n + 2 ≤ px_CT) (hs : w + 35 ≤ px_ST)
    (hQ : Q (.inl none) (w + 35, pre ++ (l ++ entC (pre.length + n)))) : px_Wp sx 40 0 [some (.ref (pre.length + n))] [] (w, pre ++ (l ++ [.inl (2, [.null, .int 0, .int 0, .null, .int 0, .int 0])])) Q := by
  subst hl
  have h := @ent_init sx w (pre ++ l) Q (by rw [List.length_append]; omega) hs
  simp only [List.length_append, List.append_assoc] at h
  exact h hQ
/-- i entries from b on -/
def entsC (b : Nat) : Nat → List px_C
  | 0 => []
  | i + 1 => entsC b i ++ entC (b + 2 * i)
set_option maxRecDepth 16384 in
theorem entsC_len (b i : Nat) : (entsC b i).length = 2 * i := by
  induction i with
  | zero => rfl
  | succ i ih => simp only [entsC, List.length_append, ih, entC, List.length_cons, List.length_nil]; omega
set_option maxRecDepth 16384 in
theorem ents_at (b i : Nat) (l : List px_C) : (entsC b i ++ l)[2 * i]? = l[0]? := by
  rw [List.getElem?_append_right (by rw [entsC_len]; omega), entsC_len, Nat.sub_self]
/-- the references to cells of n each from b on, the first i -/
def refsC (b n i : Nat) : Nat → Option Nat := fun j => if j < i then some (b + n * j) else none
set_option maxRecDepth 16384 in
theorem refsC_up (b n i : Nat) : px_up (refsC b n i) i (some (b + n * i)) = refsC b n (i + 1) := by
  funext j
  unfold px_up refsC
  by_cases h1 : j = i
  · subst h1; rw [if_pos rfl, if_pos (by omega)]
  · rw [if_neg h1]
    by_cases h2 : j < i
    · rw [if_pos h2, if_pos (by omega)]
    · rw [if_neg h2, if_neg (by omega)]
set_option maxRecDepth 16384 in
theorem refsC_0 (b n : Nat) : refsC b n 0 = fun _ => none := by
  funext j; unfold refsC; rw [if_neg (by omega)]
/-- a Tree's -/
def treC (b i : Nat) : List px_C := .inl (3, [.ref (b + 1), .int 0]) :: .inr (12, 80, .inr (.inr (refsC (b + 2) 2 i))) :: entsC (b + 2) i
set_option maxRecDepth 16384 in
theorem tre_loop {sx : Nat × (Nat → Int32)} {pre : List px_C} {Q : px_O → px_H → Prop} (hc : pre.length + 162 ≤ px_CT) (W : Nat) (hs : W ≤ px_ST) (hQ : Q (.inl none) (W, pre ++ treC pre.length 80)) :
    ∀ m i, i + m = 80 → ∀ w, w + 41 * m = W → px_Wp sx 54 15 [some (.ref pre.length), some (.int (nI i))] [] (w, pre ++ treC pre.length i) Q := by
  intro m
  induction m with
  | zero =>
    intro i hi w hw
    have hi : i = 80 := by omega
    subst hi
    have hw : w = W := by omega
    subst hw
    have hge : Int32.ofNat 80 ≤ nI 80 := nI_le (Nat.le_refl _) (by decide)
    simp only [treC, pc54_0, pc54_0n, pc54_1, pc54_4, pc54_4n, pc54_5, pc54_7, pc54_10, pc54_13, pc54_14, pc54_16, pc54_16n, pc54_17, pc54_20, pc54_21, pc54_24, pc54_24n, pc54_25, pc54_28, pc54_29, pc54_32, pc54_32r, pc54_33, pc54_36, pc54_37, pc54_40, pc54_43, pc54_15, px_op_some, px_kv_ap, px_ki_ap, px_kl_ap, px_kn_ap, px_kh_ap, px_op_none, px_K_some, px_K_none, px_K_thr, px_kill, ↓reduceIte, if_true, if_false, true_and, and_true, px_gf, px_pf, px_ai, px_aj, px_aa, px_wi, px_wj, px_wa, px_an, px_cls, hp_at, hp_at0, hp_wr, hp_wr0, hp_al, List.length_append, List.length_cons, List.length_nil, List.getElem?_cons_zero, List.getElem?_cons_succ, List.set_cons_zero, List.set_cons_succ, List.cons_append, List.nil_append, tg_0, tg_1, tg_2, tg_3, tg_12, tg_15, tg_17, tg_18, tg_i1, tg_b0, tg_b3, px_fit, Nat.reduceAdd, Nat.add_assoc, Int32.reduceToNatClampNeg, Int32.reduceLT, not_false_eq_true, Nat.reduceLeDiff, Nat.reduceLT, and_self, if_pos hge]
    exact hQ
  | succ m ih =>
    intro i hi w hw
    have hge : ¬ Int32.ofNat 80 ≤ nI i := nI_ge (by omega) (by decide)
    rw [pc54_15]
    simp only [treC, pc54_0, pc54_0n, pc54_1, pc54_4, pc54_4n, pc54_5, pc54_7, pc54_10, pc54_13, pc54_14, pc54_16, pc54_16n, pc54_17, pc54_20, pc54_21, pc54_24, pc54_24n, pc54_25, pc54_28, pc54_29, pc54_32, pc54_32r, pc54_33, pc54_36, pc54_37, pc54_40, pc54_43, px_op_some, px_kv_ap, px_ki_ap, px_kl_ap, px_kn_ap, px_kh_ap, px_op_none, px_K_some, px_K_none, px_K_thr, px_kill, ↓reduceIte, if_true, if_false, true_and, and_true, px_gf, px_pf, px_ai, px_aj, px_aa, px_wi, px_wj, px_wa, px_an, px_cls, hp_at, hp_at0, hp_wr, hp_wr0, hp_al, List.length_append, List.length_cons, List.length_nil, List.getElem?_cons_zero, List.getElem?_cons_succ, List.set_cons_zero, List.set_cons_succ, List.cons_append, List.nil_append, tg_0, tg_1, tg_2, tg_3, tg_12, tg_15, tg_17, tg_18, tg_i1, tg_b0, tg_b3, px_fit, Nat.reduceAdd, Nat.add_assoc, Int32.reduceToNatClampNeg, Int32.reduceLT, not_false_eq_true, Nat.reduceLeDiff, Nat.reduceLT, and_self, if_neg hge, entsC_len]
    refine ⟨⟨by omega, by omega⟩, ?_⟩
    refine ent_call (l := _ :: _ :: entsC (pre.length + 2) i) (by simp only [List.length_cons, entsC_len]) (by omega) (by omega) ?_
    have hin : px_in (nI i) 80 = true := px_inb (by omega) (by decide)
    have he : pre.length + (2 * i + 2) = pre.length + 2 + 2 * i := by omega
    simp only [pc54_0, pc54_0n, pc54_1, pc54_4, pc54_4n, pc54_5, pc54_7, pc54_10, pc54_13, pc54_14, pc54_16, pc54_16n, pc54_17, pc54_20, pc54_21, pc54_24, pc54_24n, pc54_25, pc54_28, pc54_29, pc54_32, pc54_32r, pc54_33, pc54_36, pc54_37, pc54_40, pc54_43, px_op_some, px_kv_ap, px_ki_ap, px_kl_ap, px_kn_ap, px_kh_ap, px_op_none, px_K_some, px_K_none, px_K_thr, px_kill, ↓reduceIte, if_true, if_false, true_and, and_true, px_gf, px_pf, px_ai, px_aj, px_aa, px_wi, px_wj, px_wa, px_an, px_cls, hp_at, hp_at0, hp_wr, hp_wr0, hp_al, List.length_append, List.length_cons, List.length_nil, List.getElem?_cons_zero, List.getElem?_cons_succ, List.set_cons_zero, List.set_cons_succ, List.cons_append, List.nil_append, tg_0, tg_1, tg_2, tg_3, tg_12, tg_15, tg_17, tg_18, tg_i1, tg_b0, tg_b3, px_fit, Nat.reduceAdd, Nat.add_assoc, Int32.reduceToNatClampNeg, Int32.reduceLT, not_false_eq_true, Nat.reduceLeDiff, Nat.reduceLT, and_self, ents_at, entC, hin, nI_clamp (show i < 2 ^ 31 by omega), nI_1]
    have hh := ih (i + 1) (by omega) (w + 41) (by omega)
    rw [treC, ← refsC_up, entsC, entC, ← he] at hh
    exact hh
set_option maxRecDepth 16384 in
theorem tre_init {sx : Nat × (Nat → Int32)} {w : Nat} {pre : List px_C} {Q : px_O → px_H → Prop} (hc : pre.length + 162 ≤ px_CT) (hs : w + 3360 ≤ px_ST)
    (hQ : Q (.inl none) (w + 3360, pre ++ treC pre.length 80)) : px_Wp sx 54 0 [some (.ref pre.length), none] [] (w, pre ++ [.inl (3, [.null, .int 0])]) Q := by
  simp only [pc54_0, pc54_0n, pc54_1, pc54_4, pc54_4n, pc54_5, pc54_7, pc54_10, pc54_13, pc54_14, pc54_16, pc54_16n, pc54_17, pc54_20, pc54_21, pc54_24, pc54_24n, pc54_25, pc54_28, pc54_29, pc54_32, pc54_32r, pc54_33, pc54_36, pc54_37, pc54_40, pc54_43, px_op_some, px_kv_ap, px_ki_ap, px_kl_ap, px_kn_ap, px_kh_ap, px_op_none, px_K_some, px_K_none, px_K_thr, px_kill, ↓reduceIte, if_true, if_false, true_and, and_true, px_gf, px_pf, px_ai, px_aj, px_aa, px_wi, px_wj, px_wa, px_an, px_cls, hp_at, hp_at0, hp_wr, hp_wr0, hp_al, List.length_append, List.length_cons, List.length_nil, List.getElem?_cons_zero, List.getElem?_cons_succ, List.set_cons_zero, List.set_cons_succ, List.cons_append, List.nil_append, tg_0, tg_1, tg_2, tg_3, tg_12, tg_15, tg_17, tg_18, tg_i1, tg_b0, tg_b3, px_fit, Nat.reduceAdd, Nat.add_assoc, Int32.reduceToNatClampNeg, Int32.reduceLT, not_false_eq_true, Nat.reduceLeDiff, Nat.reduceLT, and_self]
  refine ⟨by omega, ?_⟩
  have h := tre_loop (sx := sx) hc (w + 3360) hs hQ 80 0 rfl (w + 80) (by omega)
  rw [treC, refsC_0, entsC, nI_0] at h
  exact h
