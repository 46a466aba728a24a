/-! TWO FILES WITH THE SAME BYTES -/
def sameB (a b : aE) : Prop := eN a = eN b ∧ ∀ k, k < eN a → eC a k = eC b k
section SAME
variable {sx : Nat × (Nat → Int32)} {h : px_H} {O O2 n n' i j : Nat} {a b : aE} {V : Nat → Int32} {T E : Nat → aE} {Q : px_O → px_H → Prop}
set_option maxRecDepth 16384 in
theorem c_byteAt {k : Nat} (w : entR h O a) (k2 : eK a = 2) (hk : k < eN a) : px_Wp sx 53 0 [some (.ref O), some (.int (nI k))] [] h Q ↔ Q (.inl (some (.int (eC a k)))) h := by
  obtain ⟨src, st, cn, g, o2, o3, o4, o5⟩ := w
  rcases o5 with ⟨k1, -⟩ | ⟨-, r, s, N, nr, f, q1, rfl, rfl, rfl, w, q2, q3⟩
  · omega
  · have hN := w.2.2
    have w1 := w.1
    have hcr : px_cls h r = some 1 := by unfold px_cls; rw [w1]
    unfold enF at o2
    have mp : ¬ nI k < 0 := nI_pos (by omega)
    have ge : ¬ nI (eN a) ≤ nI k := nI_ge hk (by omega)
    have v1 : ¬ nI (s + k) < 0 := nI_pos (by omega)
    have v2 : ¬ nI nr ≤ nI (s + k) := nI_ge (by omega) (by omega)
    have v3 : (nI (s + k)).toNatClampNeg = s + k := nI_clamp (by omega)
    simp only [pc53_0, pc53_0n, pc53_1, pc53_4n, pc53_4, pc53_7, pc53_8, pc53_11, pc53_12, pc53_12n, pc53_13, pc53_16, pc53_19, pc53_19n, pc53_20, pc53_23, pc53_23n, pc53_24, pc53_27, pc53_28, pc53_29, px_op_some, px_kv_ap, px_ki_ap, px_kl_ap, px_kn_ap, px_kh_ap, px_op_none, px_K_some, px_K_none, px_K_thr, px_kill, ↓reduceIte, if_true, if_false, true_and, and_true, px_gf, o2, List.getElem?_cons_zero, List.getElem?_cons_succ, mp, ge, nI_add, hcr]
    rw [r_at w, if_neg v1, if_neg v2, v3, q3 k hk]
    simp only [px_K_some, pc53_32, pc53_35, pc53_36, px_op_some, px_kv_ap, px_ki_ap, px_kl_ap, px_kn_ap, px_kh_ap, px_op_none, px_K_some, px_K_none, px_K_thr, px_kill, ↓reduceIte, if_true, if_false, true_and, and_true]
set_option maxRecDepth 16384 in
theorem c_sameBytes (w : entR h O a) (w2 : entR h O2 b) (k1 : eK a = 2) (k2 : eK b = 2) (ha : eN a ≤ 3000) (hb : eN b ≤ 3000) (hQ : ∀ x, says x (sameB a b) → Q (.inl (some (.int x))) h) : px_Wp sx 52 0 [some (.ref O), some (.ref O2), none] [] h Q := by
  have w' := w
  have w2' := w2
  obtain ⟨src, st, cn, g, o2, o3, o4, o5⟩ := w'
  obtain ⟨src', st', cn', g', p2, p3, p4, p5⟩ := w2'
  have ec : cn = nI (eN a) := by
    rcases o5 with ⟨z, -⟩ | ⟨-, r, s, N, nr, f, -, -, -, rfl, -⟩
    · omega
    · rfl
  have ec2 : cn' = nI (eN b) := by
    rcases p5 with ⟨z, -⟩ | ⟨-, r, s, N, nr, f, -, -, -, rfl, -⟩
    · omega
    · rfl
  subst ec ec2
  have hc1 : px_cls h O = some 2 := by unfold px_cls; rw [o2]
  have hc2 : px_cls h O2 = some 2 := by unfold px_cls; rw [p2]
  unfold enF at o2 p2
  by_cases x : eN a = eN b
  · have e : nI (eN a) = nI (eN b) := by rw [x]
    have lp : ∀ d k, k + d = eN a → (∀ j, j < k → eC a j = eC b j) → px_Wp sx 52 15 [some (.ref O), some (.ref O2), some (.int (nI k))] [] h Q := by
      intro d
      induction d with
      | zero =>
        intro k hk q
        have hk : k = eN a := by omega
        subst hk
        have le : nI (eN a) ≤ nI (eN a) := Int32.le_refl _
        simp only [pc52_15, pc52_16, pc52_16n, pc52_17, pc52_20, pc52_44, pc52_45, px_op_some, px_kv_ap, px_ki_ap, px_kl_ap, px_kn_ap, px_kh_ap, px_op_none, px_K_some, px_K_none, px_K_thr, px_kill, ↓reduceIte, if_true, if_false, true_and, and_true, px_gf, o2, List.getElem?_cons_zero, List.getElem?_cons_succ, le, nar_1]
        exact hQ 1 (.inl ⟨rfl, x, q⟩)
      | succ d ih =>
        intro k hk q
        have ge : ¬ nI (eN a) ≤ nI k := nI_ge (by omega) (by omega)
        simp only [pc52_15, pc52_16, pc52_16n, pc52_17, pc52_20, pc52_23, pc52_23n, pc52_24, pc52_25, px_op_some, px_kv_ap, px_ki_ap, px_kl_ap, px_kn_ap, px_kh_ap, px_op_none, px_K_some, px_K_none, px_K_thr, px_kill, ↓reduceIte, if_true, if_false, true_and, and_true, px_gf, o2, List.getElem?_cons_zero, List.getElem?_cons_succ, ge, hc1]
        rw [c_byteAt w k1 (by omega)]
        simp only [px_K_some, pc52_28, pc52_28n, pc52_29, pc52_30, px_op_some, px_kv_ap, px_ki_ap, px_kl_ap, px_kn_ap, px_kh_ap, px_op_none, px_K_some, px_K_none, px_K_thr, px_kill, ↓reduceIte, if_true, if_false, true_and, and_true, hc2]
        rw [c_byteAt w2 k2 (by omega)]
        by_cases y : eC a k = eC b k
        · simp only [px_K_some, pc52_33, pc52_38, pc52_41, px_op_some, px_kv_ap, px_ki_ap, px_kl_ap, px_kn_ap, px_kh_ap, px_op_none, px_K_some, px_K_none, px_K_thr, px_kill, ↓reduceIte, if_true, if_false, true_and, and_true, y, nI_p1, px_kill]
          refine ih (k + 1) (by omega) (fun j hj => ?_)
          by_cases z : j = k
          · subst z; exact y
          · exact q j (by omega)
        · simp only [px_K_some, pc52_33, pc52_36, pc52_37, px_op_some, px_kv_ap, px_ki_ap, px_kl_ap, px_kn_ap, px_kh_ap, px_op_none, px_K_some, px_K_none, px_K_thr, px_kill, ↓reduceIte, if_true, if_false, true_and, and_true, y, nar_0]
          exact hQ 0 (.inr ⟨rfl, fun z => y (z.2 k (by omega))⟩)
    simp only [pc52_0, pc52_0n, pc52_1, pc52_4, pc52_4n, pc52_5, pc52_8, pc52_11, pc52_12, pc52_13, pc52_14, px_op_some, px_kv_ap, px_ki_ap, px_kl_ap, px_kn_ap, px_kh_ap, px_op_none, px_K_some, px_K_none, px_K_thr, px_kill, ↓reduceIte, if_true, if_false, true_and, and_true, px_gf, o2, p2, List.getElem?_cons_zero, List.getElem?_cons_succ, e, px_kill]
    exact lp (eN a) 0 (by omega) (fun j hj => absurd hj (Nat.not_lt_zero j))
  · have e : ¬ nI (eN a) = nI (eN b) := fun z => x ((nI_eq (by omega) (by omega)).mp z)
    simp only [pc52_0, pc52_0n, pc52_1, pc52_4, pc52_4n, pc52_5, pc52_8, pc52_11, pc52_12, px_op_some, px_kv_ap, px_ki_ap, px_kl_ap, px_kn_ap, px_kh_ap, px_op_none, px_K_some, px_K_none, px_K_thr, px_kill, ↓reduceIte, if_true, if_false, true_and, and_true, px_gf, o2, p2, List.getElem?_cons_zero, List.getElem?_cons_succ, e, nar_0]
    exact hQ 0 (.inr ⟨rfl, fun z => x z.1⟩)
/-! the reference: the old entry i, the new entry j -/
set_option maxRecDepth 16384 in
theorem m_sameFile (h6 : h.2[619]? = some (.inl (11, modF V))) (wo : moE h n T) (we : mtE h (fun i => i < n') E) (hi : i < n) (hj : j < n') (hQ : ∀ x, says x (eK (T i) = 2 ∧ sameB (T i) (E j)) → Q (.inl (some (.int x))) h) : px_Wp sx 211 0 [some (.ref 619), some (.int (nI i)), some (.int (nI j)), none, none] [] h Q := by
  obtain ⟨P, LN, K, Z, C, ⟨a1, a2, a3, a4, a5⟩, w2⟩ := wo
  obtain ⟨P', LN', K', Z', C', ⟨b1, b2, b3, b4, b5⟩, v2⟩ := we
  obtain ⟨i46, oki, r1, r2, r3, r4, r5⟩ := w2 i hi
  obtain ⟨j82, okj, s1, s2, s3, s4, s5⟩ := v2 j hj
  have ni := eN_le oki
  have nj := eN_le okj
  have ii : px_in (nI i) 46 = true := px_inb i46 (by decide)
  have ci : (nI i).toNatClampNeg = i := nI_clamp (by omega)
  have ij : px_in (nI j) 82 = true := px_inb j82 (by decide)
  have cj : (nI j).toNatClampNeg = j := nI_clamp (by omega)
  have out : ∀ k, k ≤ eN (E j) → Q (.inl (some (.int 0))) h → px_Wp sx 211 34 [some (.ref 619), some (.int (nI i)), some (.int (nI j)), some (.int 0), some (.int (nI k))] [] h Q := fun k hk q => by
    by_cases x : k = eN (E j)
    · have le : nI (eN (E j)) ≤ nI k := nI_le (by omega) (by omega)
      simp only [pc211_34, pc211_36, pc211_36n, pc211_37, pc211_40, pc211_41, pc211_42, pc211_90, pc211_91, px_op_some, px_kv_ap, px_ki_ap, px_kl_ap, px_kn_ap, px_kh_ap, px_op_none, px_K_some, px_K_none, px_K_thr, px_kill, ↓reduceIte, if_true, if_false, true_and, and_true, px_gf, px_ai, h6, mf_24, b4, ij, cj, s3, le, tg_i1, and_self, nar_0]
      exact q
    · have ge : ¬ nI (eN (E j)) ≤ nI k := nI_ge (by omega) (by omega)
      simp only [pc211_34, pc211_36, pc211_36n, pc211_37, pc211_40, pc211_41, pc211_42, pc211_45, pc211_46, pc211_90, pc211_91, px_op_some, px_kv_ap, px_ki_ap, px_kl_ap, px_kn_ap, px_kh_ap, px_op_none, px_K_some, px_K_none, px_K_thr, px_kill, ↓reduceIte, if_true, if_false, true_and, and_true, px_gf, px_ai, h6, mf_24, b4, ij, cj, s3, ge, tg_i1, and_self, nar_0]
      exact q
  have lp : eK (T i) = 2 → eN (T i) = eN (E j) → ∀ d k, k + d = eN (E j) → (∀ q, q < k → eC (T i) q = eC (E j) q) → px_Wp sx 211 34 [some (.ref 619), some (.int (nI i)), some (.int (nI j)), some (.int 1), some (.int (nI k))] [] h Q := by
    intro k2 en d
    induction d with
    | zero =>
      intro k hk q
      have hk : k = eN (E j) := by omega
      subst hk
      have le : nI (eN (E j)) ≤ nI (eN (E j)) := Int32.le_refl _
      simp only [pc211_34, pc211_36, pc211_36n, pc211_37, pc211_40, pc211_41, pc211_42, pc211_90, pc211_91, px_op_some, px_kv_ap, px_ki_ap, px_kl_ap, px_kn_ap, px_kh_ap, px_op_none, px_K_some, px_K_none, px_K_thr, px_kill, ↓reduceIte, if_true, if_false, true_and, and_true, px_gf, px_ai, h6, mf_24, b4, ij, cj, s3, le, tg_i1, and_self, nar_1]
      exact hQ 1 (.inl ⟨rfl, k2, en, fun t ht => q t (by omega)⟩)
    | succ d ih =>
      intro k hk q
      have ge : ¬ nI (eN (E j)) ≤ nI k := nI_ge (by omega) (by omega)
      have x1 : px_in (nI (1001 * i + k)) 46046 = true := px_inb (by omega) (by decide)
      have x2 : (nI (1001 * i + k)).toNatClampNeg = 1001 * i + k := nI_clamp (by omega)
      have y1 : px_in (nI (1001 * j + k)) 82082 = true := px_inb (by omega) (by decide)
      have y2 : (nI (1001 * j + k)).toNatClampNeg = 1001 * j + k := nI_clamp (by omega)
      have r5k := r5 k (by omega)
      have s5k := s5 k (by omega)
      by_cases y : eC (T i) k = eC (E j) k
      · rw [pc211_34]
        simp only [pc211_36, pc211_36n, pc211_37, pc211_40, pc211_41, pc211_42, pc211_45, pc211_46, pc211_49, pc211_49n, pc211_50, pc211_53, pc211_56, pc211_57, pc211_58, pc211_60, pc211_61, pc211_62, pc211_62n, pc211_63, pc211_66, pc211_69, pc211_70, pc211_71, pc211_73, pc211_74, pc211_75, pc211_78, pc211_79, pc211_82, pc211_83, pc211_84, pc211_87, px_op_some, px_kv_ap, px_ki_ap, px_kl_ap, px_kn_ap, px_kh_ap, px_op_none, px_K_some, px_K_none, px_K_thr, px_kill, ↓reduceIte, if_true, if_false, true_and, and_true, px_gf, px_ai, h6, mf_24, mf_25, mf_31, b4, a5, b5, ij, cj, s3, ge, ne_1_0, mul_1001, nI_add, x1, x2, y1, y2, r5k, s5k, y, tg_i1, and_self, not_true_eq_false, nI_p1, px_kill]
        refine ih (k + 1) (by omega) (fun t ht => ?_)
        by_cases z : t = k
        · subst z; exact y
        · exact q t (by omega)
      · rw [pc211_34]
        simp only [pc211_36, pc211_36n, pc211_37, pc211_40, pc211_41, pc211_42, pc211_45, pc211_46, pc211_49, pc211_49n, pc211_50, pc211_53, pc211_56, pc211_57, pc211_58, pc211_60, pc211_61, pc211_62, pc211_62n, pc211_63, pc211_66, pc211_69, pc211_70, pc211_71, pc211_73, pc211_74, pc211_75, pc211_78, pc211_79, pc211_82, pc211_83, pc211_84, pc211_87, px_op_some, px_kv_ap, px_ki_ap, px_kl_ap, px_kn_ap, px_kh_ap, px_op_none, px_K_some, px_K_none, px_K_thr, px_kill, ↓reduceIte, if_true, if_false, true_and, and_true, px_gf, px_ai, h6, mf_24, mf_25, mf_31, b4, a5, b5, ij, cj, s3, ge, ne_1_0, mul_1001, nI_add, x1, x2, y1, y2, r5k, s5k, y, tg_i1, and_self, not_false_eq_true, nI_p1, px_kill]
        exact out (k + 1) (by omega) (hQ 0 (.inr ⟨rfl, fun z => y (z.2.2 k (by omega))⟩))
  by_cases k2 : eK (T i) = 2
  · have e2 : nI (eK (T i)) = 2 := by rw [k2]; rfl
    by_cases en : eN (T i) = eN (E j)
    · have e3 : nI (eN (T i)) = nI (eN (E j)) := by rw [en]
      simp only [pc211_0, pc211_0n, pc211_1, pc211_4, pc211_5, pc211_6, pc211_7, pc211_10, pc211_10n, pc211_11, pc211_14, pc211_15, pc211_16, pc211_16n, pc211_17, pc211_20, pc211_21, pc211_22, pc211_25, pc211_26, pc211_29, pc211_30, pc211_31, pc211_32, px_op_some, px_kv_ap, px_ki_ap, px_kl_ap, px_kn_ap, px_kh_ap, px_op_none, px_K_some, px_K_none, px_K_thr, px_kill, ↓reduceIte, if_true, if_false, true_and, and_true, px_gf, px_ai, h6, mf_29, mf_30, mf_24, a3, a4, b4, ii, ci, ij, cj, r2, r3, s3, e2, e3, tg_i1, and_self, not_true_eq_false, px_kill]
      exact lp k2 en (eN (E j)) 0 (by omega) (fun q hq => absurd hq (Nat.not_lt_zero q))
    · have e3 : ¬ nI (eN (T i)) = nI (eN (E j)) := fun z => en ((nI_eq (by omega) (by omega)).mp z)
      simp only [pc211_0, pc211_0n, pc211_1, pc211_4, pc211_5, pc211_6, pc211_7, pc211_10, pc211_10n, pc211_11, pc211_14, pc211_15, pc211_16, pc211_16n, pc211_17, pc211_20, pc211_21, pc211_22, pc211_25, pc211_26, pc211_29, pc211_30, pc211_31, pc211_32, px_op_some, px_kv_ap, px_ki_ap, px_kl_ap, px_kn_ap, px_kh_ap, px_op_none, px_K_some, px_K_none, px_K_thr, px_kill, ↓reduceIte, if_true, if_false, true_and, and_true, px_gf, px_ai, h6, mf_29, mf_30, mf_24, a3, a4, b4, ii, ci, ij, cj, r2, r3, s3, e2, e3, tg_i1, and_self, not_true_eq_false, not_false_eq_true, px_kill]
      exact out 0 (Nat.zero_le _) (hQ 0 (.inr ⟨rfl, fun z => en z.2.1⟩))
  · have e2 : ¬ nI (eK (T i)) = 2 := fun z => k2 ((nI_eq (b := 2) (by rcases oki.2 with ⟨z, -⟩ | ⟨z, -⟩ <;> omega) (by decide)).mp z)
    simp only [pc211_0, pc211_0n, pc211_1, pc211_4, pc211_5, pc211_6, pc211_7, pc211_29, pc211_30, pc211_31, pc211_32, px_op_some, px_kv_ap, px_ki_ap, px_kl_ap, px_kn_ap, px_kh_ap, px_op_none, px_K_some, px_K_none, px_K_thr, px_kill, ↓reduceIte, if_true, if_false, true_and, and_true, px_gf, px_ai, h6, mf_29, a3, ii, ci, r2, e2, tg_i1, and_self, not_false_eq_true, px_kill]
    exact out 0 (Nat.zero_le _) (hQ 0 (.inr ⟨rfl, fun z => k2 z.1⟩))
end SAME
