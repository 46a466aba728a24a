/-! NAMES of a path; paths taken from the line -/
section NAMES
variable {sx : Nat × (Nat → Int32)} {h : px_H} {O l A NA a s c : Nat} {p B : Nat → Nat} {f V X : Nat → Int32} {Q : px_O → px_H → Prop}
set_option maxRecDepth 16384 in
theorem scn_1 {B : Nat → Nat} {f : Nat} (j : Nat) : (scn B f (j + 1)).1 = if B (f + j) = 47 then (scn B f j).1 + 1 else (scn B f j).1 := by
  show (if B (f + j) = 47 then ((scn B f j).1 + 1, 0) else ((scn B f j).1, (scn B f j).2 + 1)).1 = _
  split <;> rfl
set_option maxRecDepth 16384 in
theorem scn_le {B : Nat → Nat} {f : Nat} : ∀ j, (scn B f j).1 ≤ j + 1
  | 0 => Nat.le_refl _
  | j + 1 => by
    have := scn_le (B := B) (f := f) j
    rw [scn_1]; split <;> omega
set_option maxRecDepth 16384 in
theorem c_names (w : enP h O l p) (hp : pth p l) (hQ : Q (.inl (some (.int (nI (scn p 0 l).1)))) h) : px_Wp sx 49 0 [some (.ref O), none, none] [] h Q := by
  obtain ⟨⟨kd, src, st, cn, o1⟩, ⟨g, g1, g2⟩, l35⟩ := w
  have lp : ∀ d j, j + d = l → px_Wp sx 49 4 [some (.ref O), some (.int (nI (scn p 0 j).1)), some (.int (nI j))] [] h Q := by
    intro d
    induction d with
    | zero =>
      intro j hj
      have hj : j = l := by omega
      subst hj
      have le : nI j ≤ nI j := Int32.le_refl _
      simp only [pc49_4, pc49_5, pc49_5n, pc49_6, pc49_9, pc49_37, pc49_38, px_op_some, px_kv_ap, px_ki_ap, px_kl_ap, px_kn_ap, px_kh_ap, px_op_none, px_K_some, px_K_none, px_K_thr, px_kill, ↓reduceIte, if_true, if_false, true_and, and_true, px_gf, o1, List.getElem?_cons_zero, List.getElem?_cons_succ, le]
      exact hQ
    | succ d ih =>
      intro j hj
      have ge : ¬ nI l ≤ nI j := nI_ge (by omega) (by omega)
      have ij : px_in (nI j) 35 = true := px_inb (by omega) (by decide)
      have cj : (nI j).toNatClampNeg = j := nI_clamp (by omega)
      have gj := g2 j (by omega)
      have pj := pth_pos hp (show j < l by omega)
      have go := ih (j + 1) (by omega)
      rw [scn_1, Nat.zero_add] at go
      by_cases x : p j = 47
      · rw [if_pos x] at go
        have e : nI (p j) = 47 := by rw [x]; rfl
        rw [pc49_4]
        simp only [pc49_5, pc49_5n, pc49_6, pc49_9, pc49_12, pc49_13, pc49_13n, pc49_14, pc49_17, pc49_18, pc49_19, pc49_21, pc49_24, pc49_25, pc49_28, pc49_29, pc49_30, pc49_31, pc49_34, px_op_some, px_kv_ap, px_ki_ap, px_kl_ap, px_kn_ap, px_kh_ap, px_op_none, px_K_some, px_K_none, px_K_thr, px_kill, ↓reduceIte, if_true, if_false, true_and, and_true, px_gf, px_ai, o1, g1, List.getElem?_cons_zero, List.getElem?_cons_succ, ge, ij, cj, gj, e, tg_b0, and_self, not_true_eq_false, nI_p1, px_kill]
        exact go
      · rw [if_neg x] at go
        have e : ¬ nI (p j) = 47 := fun z => x ((nI_eq (b := 47) (by omega) (by decide)).mp z)
        have z0 : nI (scn p 0 j).1 + 0 = nI (scn p 0 j).1 := Int32.add_zero _
        rw [pc49_4]
        simp only [pc49_5, pc49_5n, pc49_6, pc49_9, pc49_12, pc49_13, pc49_13n, pc49_14, pc49_17, pc49_18, pc49_19, pc49_21, pc49_24, pc49_25, pc49_28, pc49_29, pc49_30, pc49_31, pc49_34, px_op_some, px_kv_ap, px_ki_ap, px_kl_ap, px_kn_ap, px_kh_ap, px_op_none, px_K_some, px_K_none, px_K_thr, px_kill, ↓reduceIte, if_true, if_false, true_and, and_true, px_gf, px_ai, o1, g1, List.getElem?_cons_zero, List.getElem?_cons_succ, ge, ij, cj, gj, e, tg_b0, and_self, not_false_eq_true, nI_p1, z0, px_kill]
        exact go
  simp only [pc49_0, pc49_1, pc49_2, pc49_3, px_kill]
  exact lp l 0 (by omega)
set_option maxRecDepth 16384 in
theorem m_namesIn (hA : h.2[A]? = some (.inr (1, NA, .inl f))) (hN : NA ≤ 100000) (ha : a + l ≤ NA) (hl : l ≤ 1000) (hf : ∀ j, j < l → f (a + j) = nI (p j) ∧ p j < 1000) (hQ : Q (.inl (some (.int (nI (scn p 0 l).1)))) h) : px_Wp sx 204 0 [some (.ref A), some (.int (nI a)), some (.int (nI (a + l))), none, none] [] h Q := by
  have lp : ∀ d j, j + d = l → px_Wp sx 204 5 [some (.ref A), some (.int (nI a)), some (.int (nI (a + l))), some (.int (nI (scn p 0 j).1)), some (.int (nI (a + j)))] [] h Q := by
    intro d
    induction d with
    | zero =>
      intro j hj
      have hj : j = l := by omega
      subst hj
      have le : nI (a + j) ≤ nI (a + j) := Int32.le_refl _
      simp only [pc204_5, pc204_7, pc204_8, pc204_34, pc204_35, px_op_some, px_kv_ap, px_ki_ap, px_kl_ap, px_kn_ap, px_kh_ap, px_op_none, px_K_some, px_K_none, px_K_thr, px_kill, ↓reduceIte, if_true, if_false, true_and, and_true, le]
      exact hQ
    | succ d ih =>
      intro j hj
      have ge : ¬ nI (a + l) ≤ nI (a + j) := nI_ge (by omega) (by omega)
      have ij : px_in (nI (a + j)) NA = true := px_inb (by omega) (by omega)
      have cj : (nI (a + j)).toNatClampNeg = a + j := nI_clamp (by omega)
      obtain ⟨gj, pj⟩ := hf j (by omega)
      have go := ih (j + 1) (by omega)
      rw [scn_1, Nat.zero_add] at go
      by_cases x : p j = 47
      · rw [if_pos x] at go
        have e : nI (p j) = 47 := by rw [x]; rfl
        rw [pc204_5]
        simp only [pc204_7, pc204_8, pc204_11, pc204_11n, pc204_12, pc204_14, pc204_15, pc204_17, pc204_20, pc204_21, pc204_22, pc204_23, pc204_26, pc204_27, pc204_28, pc204_31, px_op_some, px_kv_ap, px_ki_ap, px_kl_ap, px_kn_ap, px_kh_ap, px_op_none, px_K_some, px_K_none, px_K_thr, px_kill, ↓reduceIte, if_true, if_false, true_and, and_true, px_ai, hA, ge, ij, cj, gj, e, tg_i1, and_self, not_true_eq_false, nI_p1, px_kill]
        exact go
      · rw [if_neg x] at go
        have e : ¬ nI (p j) = 47 := fun z => x ((nI_eq (b := 47) (by omega) (by decide)).mp z)
        rw [pc204_5]
        simp only [pc204_7, pc204_8, pc204_11, pc204_11n, pc204_12, pc204_14, pc204_15, pc204_17, pc204_20, pc204_21, pc204_22, pc204_23, pc204_26, pc204_27, pc204_28, pc204_31, px_op_some, px_kv_ap, px_ki_ap, px_kl_ap, px_kn_ap, px_kh_ap, px_op_none, px_K_some, px_K_none, px_K_thr, px_kill, ↓reduceIte, if_true, if_false, true_and, and_true, px_ai, hA, ge, ij, cj, gj, e, tg_i1, and_self, not_false_eq_true, nI_p1, px_kill]
        exact go
  simp only [pc204_0, pc204_1, pc204_2, pc204_3, px_kill]
  exact lp l 0 (by omega)
/-! the path from s on, c signs -/
set_option maxRecDepth 16384 in
theorem m_takePath (hS : shape h) (h6 : h.2[619]? = some (.inl (11, modF V))) (hX : h.2[654]? = some (.inr (1, 9000, .inl X))) (hs : s + c ≤ 9000) (hc : c ≤ 240) (hx : ∀ j, j < c → X (s + j) = nI (B (s + j)))
    (hQ : ∀ h1, h1.2[619]? = some (.inl (11, modF (px_up V 32 (nI c)))) → mpt h1 (patF B s c) c → frm (fun r => r = 619 ∨ r = 647) h h1 → shape h1 → Q (.inl none) h1) :
    px_Wp sx 193 0 [some (.ref 619), some (.int (nI s)), some (.int (nI (s + c))), none] [] h Q := by
  have L6 : 619 < h.2.length := (List.getElem?_eq_some_iff.mp h6).1
  have sb : nI (s + c) - nI s = nI c := by rw [nI_sub (by omega), Nat.add_sub_cancel_left]
  have lp : ∀ d k, k + d = c → ∀ h1 G, frm (fun r => r = 619 ∨ r = 647) h h1 → shape h1 → h1.2[619]? = some (.inl (11, modF (px_up V 32 (nI c)))) → h1.2[647]? = some (.inr (1, 240, .inl G)) → (∀ j, j < k → G j = nI (B (s + j))) → px_Wp sx 193 9 [some (.ref 619), some (.int (nI s)), some (.int (nI (s + c))), some (.int (nI k))] [] h1 Q := by
    intro d
    induction d with
    | zero =>
      intro k hk h1 G fr sh c6 c7 q
      have hk : k = c := by omega
      subst hk
      have le : nI k ≤ nI k := Int32.le_refl _
      have u : px_up V 32 (nI k) 32 = nI k := up_same _ _ _
      simp only [pc193_9, pc193_10, pc193_10n, pc193_11, pc193_14, pc193_37, px_op_some, px_kv_ap, px_ki_ap, px_kl_ap, px_kn_ap, px_kh_ap, px_op_none, px_K_some, px_K_none, px_K_thr, px_kill, ↓reduceIte, if_true, if_false, true_and, and_true, px_gf, c6, mf_32, u, le]
      exact hQ h1 c6 ⟨G, c7, fun j hj => by rw [patF_lt hj]; exact q j hj⟩ fr sh
    | succ d ih =>
      intro k hk h1 G fr sh c6 c7 q
      have ge : ¬ nI c ≤ nI k := nI_ge (by omega) (by omega)
      have u : px_up V 32 (nI c) 32 = nI c := up_same _ _ _
      have cX : h1.2[654]? = some (.inr (1, 9000, .inl X)) := frm_at fr (by omega) hX
      have i1 : px_in (nI k) 240 = true := px_inb (by omega) (by decide)
      have j1 : (nI k).toNatClampNeg = k := nI_clamp (by omega)
      have i2 : px_in (nI (s + k)) 9000 = true := px_inb (by omega) (by decide)
      have j2 : (nI (s + k)).toNatClampNeg = s + k := nI_clamp (by omega)
      have xk := hx k (by omega)
      have L7 : 647 < h1.2.length := (List.getElem?_eq_some_iff.mp c7).1
      rw [pc193_9]
      simp only [pc193_10, pc193_10n, pc193_11, pc193_14, pc193_17, pc193_17n, pc193_18, pc193_21, pc193_22, pc193_22n, pc193_23, pc193_26, pc193_27, pc193_28, pc193_29, pc193_30, pc193_31, pc193_34, px_op_some, px_kv_ap, px_ki_ap, px_kl_ap, px_kn_ap, px_kh_ap, px_op_none, px_K_some, px_K_none, px_K_thr, px_kill, ↓reduceIte, if_true, if_false, true_and, and_true, px_gf, px_ai, px_wi, c6, mf_32, mf_33, mf_48, u, ge, c7, cX, nI_add, i1, j1, i2, j2, xk, nar1, tg_i1, and_self, nI_p1, px_kill]
      refine ih (k + 1) (by omega) _ _ (frm_wr fr (.inr rfl)) (shape_ia sh c7) (by rw [wr_at, if_neg (by decide)]; exact c6) (by rw [wr_at, if_pos rfl, if_pos L7]) (fun j hj => ?_)
      by_cases x : j = k
      · subst x; exact up_same _ _ _
      · rw [up_ne x]; exact q j (by omega)
  simp only [pc193_0, pc193_0n, pc193_1, pc193_2, pc193_3, pc193_4, pc193_7, pc193_8, px_op_some, px_kv_ap, px_ki_ap, px_kl_ap, px_kn_ap, px_kh_ap, px_op_none, px_K_some, px_K_none, px_K_thr, px_kill, ↓reduceIte, if_true, if_false, true_and, and_true, px_pf, h6, mfs_32, mf_len, sb, Nat.reduceLT, px_fit, and_self, px_kill]
  exact lp c 0 (by omega) _ (iA h 647) (frm_wr (frm_refl _ _) (.inl rfl)) (shape_mod hS) (by rw [wr_at, if_pos rfl, if_pos L6]) (by rw [wr_at, if_neg (by decide)]; exact at_647 hS) (fun j hj => absurd hj (Nat.not_lt_zero j))
set_option maxRecDepth 16384 in
theorem m_takeOther (hS : shape h) (h6 : h.2[619]? = some (.inl (11, modF V))) (hX : h.2[654]? = some (.inr (1, 9000, .inl X))) (hs : s + c ≤ 9000) (hc : c ≤ 240) (hx : ∀ j, j < c → X (s + j) = nI (B (s + j)))
    (hQ : ∀ h1, h1.2[619]? = some (.inl (11, modF (px_up V 34 (nI c)))) → mpo h1 (patF B s c) c → frm (fun r => r = 619 ∨ r = 648) h h1 → shape h1 → Q (.inl none) h1) :
    px_Wp sx 197 0 [some (.ref 619), some (.int (nI s)), some (.int (nI (s + c))), none] [] h Q := by
  have L6 : 619 < h.2.length := (List.getElem?_eq_some_iff.mp h6).1
  have sb : nI (s + c) - nI s = nI c := by rw [nI_sub (by omega), Nat.add_sub_cancel_left]
  have lp : ∀ d k, k + d = c → ∀ h1 G, frm (fun r => r = 619 ∨ r = 648) h h1 → shape h1 → h1.2[619]? = some (.inl (11, modF (px_up V 34 (nI c)))) → h1.2[648]? = some (.inr (1, 240, .inl G)) → (∀ j, j < k → G j = nI (B (s + j))) → px_Wp sx 197 9 [some (.ref 619), some (.int (nI s)), some (.int (nI (s + c))), some (.int (nI k))] [] h1 Q := by
    intro d
    induction d with
    | zero =>
      intro k hk h1 G fr sh c6 c7 q
      have hk : k = c := by omega
      subst hk
      have le : nI k ≤ nI k := Int32.le_refl _
      have u : px_up V 34 (nI k) 34 = nI k := up_same _ _ _
      simp only [pc197_9, pc197_10, pc197_10n, pc197_11, pc197_14, pc197_37, px_op_some, px_kv_ap, px_ki_ap, px_kl_ap, px_kn_ap, px_kh_ap, px_op_none, px_K_some, px_K_none, px_K_thr, px_kill, ↓reduceIte, if_true, if_false, true_and, and_true, px_gf, c6, mf_34, u, le]
      exact hQ h1 c6 ⟨G, c7, fun j hj => by rw [patF_lt hj]; exact q j hj⟩ fr sh
    | succ d ih =>
      intro k hk h1 G fr sh c6 c7 q
      have ge : ¬ nI c ≤ nI k := nI_ge (by omega) (by omega)
      have u : px_up V 34 (nI c) 34 = nI c := up_same _ _ _
      have cX : h1.2[654]? = some (.inr (1, 9000, .inl X)) := frm_at fr (by omega) hX
      have i1 : px_in (nI k) 240 = true := px_inb (by omega) (by decide)
      have j1 : (nI k).toNatClampNeg = k := nI_clamp (by omega)
      have i2 : px_in (nI (s + k)) 9000 = true := px_inb (by omega) (by decide)
      have j2 : (nI (s + k)).toNatClampNeg = s + k := nI_clamp (by omega)
      have xk := hx k (by omega)
      have L7 : 648 < h1.2.length := (List.getElem?_eq_some_iff.mp c7).1
      rw [pc197_9]
      simp only [pc197_10, pc197_10n, pc197_11, pc197_14, pc197_17, pc197_17n, pc197_18, pc197_21, pc197_22, pc197_22n, pc197_23, pc197_26, pc197_27, pc197_28, pc197_29, pc197_30, pc197_31, pc197_34, px_op_some, px_kv_ap, px_ki_ap, px_kl_ap, px_kn_ap, px_kh_ap, px_op_none, px_K_some, px_K_none, px_K_thr, px_kill, ↓reduceIte, if_true, if_false, true_and, and_true, px_gf, px_ai, px_wi, c6, mf_34, mf_35, mf_48, u, ge, c7, cX, nI_add, i1, j1, i2, j2, xk, nar1, tg_i1, and_self, nI_p1, px_kill]
      refine ih (k + 1) (by omega) _ _ (frm_wr fr (.inr rfl)) (shape_ia sh c7) (by rw [wr_at, if_neg (by decide)]; exact c6) (by rw [wr_at, if_pos rfl, if_pos L7]) (fun j hj => ?_)
      by_cases x : j = k
      · subst x; exact up_same _ _ _
      · rw [up_ne x]; exact q j (by omega)
  simp only [pc197_0, pc197_0n, pc197_1, pc197_2, pc197_3, pc197_4, pc197_7, pc197_8, px_op_some, px_kv_ap, px_ki_ap, px_kl_ap, px_kn_ap, px_kh_ap, px_op_none, px_K_some, px_K_none, px_K_thr, px_kill, ↓reduceIte, if_true, if_false, true_and, and_true, px_pf, h6, mfs_34, mf_len, sb, Nat.reduceLT, px_fit, and_self, px_kill]
  exact lp c 0 (by omega) _ (iA h 648) (frm_wr (frm_refl _ _) (.inl rfl)) (shape_mod hS) (by rw [wr_at, if_pos rfl, if_pos L6]) (by rw [wr_at, if_neg (by decide)]; exact at_648 hS) (fun j hj => absurd hj (Nat.not_lt_zero j))
end NAMES
