/-! THE CHANGES from an old tree to a new one -/
def befO (n : Nat) (E : Nat → aE) (m : Nat) (F : Nat → aE) (i j : Nat) : Prop := i < n ∧ (j < m → plt (eP (E i)) (eP (F j)))
def befN (n : Nat) (E : Nat → aE) (m : Nat) (F : Nat → aE) (i j : Nat) : Prop := j < m ∧ (i < n → plt (eP (F j)) (eP (E i)))
def gonP (n : Nat) (E : Nat → aE) (m : Nat) (F : Nat → aE) (i : Nat) : Prop := homeL (eP (E i)) (eL (E i)) = 0 ∨ ((∃ j, j < m ∧ eP (F j) = cutP (eP (E i)) (homeL (eP (E i)) (eL (E i))) ∧ eK (F j) = 1) ∧ ¬ ∃ w, w < n ∧ eP (E w) = cutP (eP (E i)) (homeL (eP (E i)) (eL (E i))) ∧ isE n E m F w)
noncomputable def gonK (n : Nat) (E : Nat → aE) (m : Nat) (F : Nat → aE) (i : Nat) : Nat := pif (gonP n E m F i) 3 0
noncomputable def botK (n : Nat) (E : Nat → aE) (m : Nat) (F : Nat → aE) (i j : Nat) : Nat := if eK (F j) = 2 then pif (eK (E i) = 2 ∧ sameB (E i) (F j)) 0 2 else if eK (E i) = 2 then 1 else pif (isE n E m F i) 4 0
noncomputable def chF (n : Nat) (E : Nat → aE) (m : Nat) (F : Nat → aE) : Nat → Nat → Nat → Nat → (Nat → Int32) → Nat × (Nat → Int32)
  | 0, _, _, a, g => (a, g)
  | d + 1, i, j, a, g => if n ≤ i ∧ m ≤ j then (a, g) else pif (befO n E m F i j) (chF n E m F d (i + 1) j (a + itmN (gonK n E m F i) (E i)) (itmB g a (gonK n E m F i) (E i))) (pif (befN n E m F i j) (chF n E m F d i (j + 1) (a + itmN (eK (F j)) (F j)) (itmB g a (eK (F j)) (F j))) (chF n E m F d (i + 1) (j + 1) (a + itmN (botK n E m F i j) (F j)) (itmB g a (botK n E m F i j) (F j))))
section CHG
variable {sx : Nat × (Nat → Int32)} {h : px_H} {T T' n m i j a d : Nat} {E F : Nat → aE} {f g V : Nat → Int32} {Q : px_O → px_H → Prop}
set_option maxRecDepth 16384 in
theorem chF_e (hi : n ≤ i) (hj : m ≤ j) : chF n E m F (d + 1) i j a g = (a, g) := if_pos ⟨hi, hj⟩
set_option maxRecDepth 16384 in
theorem chF_o (w : befO n E m F i j) : chF n E m F (d + 1) i j a g = chF n E m F d (i + 1) j (a + itmN (gonK n E m F i) (E i)) (itmB g a (gonK n E m F i) (E i)) := by
  show (if n ≤ i ∧ m ≤ j then (a, g) else _) = _
  rw [if_neg (by have := w.1; omega), pif_t w]
set_option maxRecDepth 16384 in
theorem chF_n (w : befN n E m F i j) : chF n E m F (d + 1) i j a g = chF n E m F d i (j + 1) (a + itmN (eK (F j)) (F j)) (itmB g a (eK (F j)) (F j)) := by
  have no : ¬ befO n E m F i j := fun z => plt_asym (w.2 z.1) (z.2 w.1)
  show (if n ≤ i ∧ m ≤ j then (a, g) else _) = _
  rw [if_neg (by have := w.1; omega), pif_f no, pif_t w]
set_option maxRecDepth 16384 in
theorem chF_b (hi : i < n) (hj : j < m) (e : eP (E i) = eP (F j)) : chF n E m F (d + 1) i j a g = chF n E m F d (i + 1) (j + 1) (a + itmN (botK n E m F i j) (F j)) (itmB g a (botK n E m F i j) (F j)) := by
  have n1 : ¬ befO n E m F i j := fun z => by have := z.2 hj; rw [e] at this; exact plt_irr _ this
  have n2 : ¬ befN n E m F i j := fun z => by have := z.2 hi; rw [e] at this; exact plt_irr _ this
  show (if n ≤ i ∧ m ≤ j then (a, g) else _) = _
  rw [if_neg (by omega), pif_f n1, pif_f n2]
set_option maxRecDepth 16384 in
theorem itN_le {k : Nat} {e : aE} (ok : eOK e) : itmN k e ≤ 39 + itmM k e := by
  unfold itmN
  have := ok.1.2.1
  split <;> omega
set_option maxRecDepth 16384 in
theorem gon_le (ok : eOK (E i)) : itmN (gonK n E m F i) (E i) ≤ 39 := by
  have h1 := itN_le (k := gonK n E m F i) ok
  have h2 : itmM (gonK n E m F i) (E i) = 0 := by
    unfold itmM
    refine if_neg ?_
    unfold gonK
    rcases Classical.em (gonP n E m F i) with z | z
    · rw [pif_t z]; omega
    · rw [pif_f z]; omega
  omega
set_option maxRecDepth 16384 in
theorem itM_le {k : Nat} {e : aE} : itmM k e ≤ eN e := by unfold itmM; split <;> omega
set_option maxRecDepth 16384 in
theorem bot_4 : botK n E m F i j ≤ 4 := by
  unfold botK
  split
  · rcases Classical.em (eK (E i) = 2 ∧ sameB (E i) (F j)) with z | z
    · rw [pif_t z]; omega
    · rw [pif_f z]; omega
  · split
    · omega
    · rcases Classical.em (isE n E m F i) with z | z
      · rw [pif_t z]; omega
      · rw [pif_f z]; omega
set_option maxRecDepth 16384 in
theorem bot_2 (e : botK n E m F i j = 2) : eK (F j) = 2 := by
  unfold botK at e
  split at e
  · assumption
  · split at e
    · omega
    · rcases Classical.em (isE n E m F i) with z | z
      · rw [pif_t z] at e; omega
      · rw [pif_f z] at e; omega
/-- where a step leads -/
def room (m : Nat) (F : Nat → aE) (i j a : Nat) : Prop := a ≤ 39 * (i + j) + totN F j
set_option maxRecDepth 16384 in
theorem room_o (ok : eOK (E i)) (w : room m F i j a) : room m F (i + 1) j (a + itmN (gonK n E m F i) (E i)) := by
  have := gon_le (n := n) (m := m) (F := F) ok
  unfold room at w ⊢; omega
set_option maxRecDepth 16384 in
theorem room_n {k i' : Nat} (ok : eOK (F j)) (w : room m F i j a) (hi : i ≤ i') : room m F i' (j + 1) (a + itmN k (F j)) := by
  have h1 := itN_le (k := k) ok
  have h2 := itM_le (k := k) (e := F j)
  have h3 : totN F (j + 1) = totN F j + eN (F j) := rfl
  unfold room at w ⊢; omega
set_option maxRecDepth 16384 in
theorem chF_le (ok : tOK n E) (ok' : tOK m F) : ∀ d i j a g, i ≤ n → j ≤ m → room m F i j a → (chF n E m F d i j a g).1 ≤ 39 * (n + m) + totN F m := by
  have tm : ∀ j, j ≤ m → totN F j ≤ totN F m := fun j hj => by have := totN_mono (E := F) (m - j) j; rw [show j + (m - j) = m by omega] at this; exact this
  intro d
  induction d with
  | zero => intro i j a g hi hj w; have := tm j hj; unfold room at w; show a ≤ _; omega
  | succ d ih =>
    intro i j a g hi hj w
    by_cases e : n ≤ i ∧ m ≤ j
    · rw [chF_e e.1 e.2]; have := tm j hj; unfold room at w; show a ≤ _; omega
    · rcases Classical.em (befO n E m F i j) with z | z
      · rw [chF_o z]; exact ih _ _ _ _ z.1 hj (room_o (ok.2.1 i z.1) w)
      · rcases Classical.em (befN n E m F i j) with y | y
        · rw [chF_n y]; exact ih _ _ _ _ hi y.1 (room_n (ok'.2.1 j y.1) w (Nat.le_refl _))
        · have : i < n ∧ j < m ∧ eP (E i) = eP (F j) := by
            rcases Nat.lt_or_ge i n with x | x
            · rcases Nat.lt_or_ge j m with v | v
              · rcases plt_tri' (ok.2.1 i x).1 (ok'.2.1 j v).1 with u | u | u
                · exact ⟨x, v, u⟩
                · exact absurd ⟨x, fun _ => u⟩ z
                · exact absurd ⟨v, fun _ => u⟩ y
              · exact absurd ⟨x, fun q => absurd q (by omega)⟩ z
            · exact absurd ⟨by omega, fun q => absurd q (by omega)⟩ y
          rw [chF_b this.1 this.2.1 this.2.2]
          exact ih _ _ _ _ this.1 this.2.1 (room_n (ok'.2.1 j this.2.1) w (by omega))
set_option maxRecDepth 16384 in
theorem c_orderOf (t : trR h T n E) (t' : trR h T' m F) (ok : tOK n E) (ok' : tOK m F) (hi : i ≤ n) (hj : j ≤ m) (ne : i < n ∨ j < m)
    (hQ : ∀ x, ((x < 0 ∧ befO n E m F i j) ∨ (0 < x ∧ befN n E m F i j) ∨ (x = 0 ∧ i < n ∧ j < m ∧ eP (E i) = eP (F j))) → Q (.inl (some (.int x))) h) :
    px_Wp sx 71 0 [some (.ref T), some (.int (nI i)), some (.ref T'), some (.int (nI j))] [] h Q := by
  have h80 := ok.1
  have h80' := ok'.1
  obtain ⟨t1, t2, ra, t3, t4, t5⟩ := t
  obtain ⟨s1, s2, ra', s3, s4, s5⟩ := t'
  by_cases x : i < n
  · have lt : nI i < nI n := nI_lt x (by omega)
    by_cases y : j < m
    · have lt' : nI j < nI m := nI_lt y (by omega)
      have ii : px_in (nI i) 80 = true := px_inb (by omega) (by decide)
      have ci : (nI i).toNatClampNeg = i := nI_clamp (by omega)
      have ij : px_in (nI j) 80 = true := px_inb (by omega) (by decide)
      have cj : (nI j).toNatClampNeg = j := nI_clamp (by omega)
      obtain ⟨O, o1, o2⟩ := t5 i x
      obtain ⟨O', p1, p2⟩ := s5 j y
      have o3 := o2
      have p3 := p2
      obtain ⟨src, st, cn, gg, y1, -⟩ := o3
      obtain ⟨src', st', cn', gg', y1', -⟩ := p3
      unfold enF at y1 y1'
      have hcO : px_cls h O = some 2 := by unfold px_cls; rw [y1]
      have oki := (ok.2.1 i x).1
      have okj := (ok'.2.1 j y).1
      simp only [pc71_0, pc71_1, pc71_1n, pc71_2, pc71_5, pc71_8, pc71_9, pc71_10, pc71_11, pc71_11n, pc71_12, pc71_15, pc71_18, pc71_19, pc71_22, pc71_22n, pc71_23, pc71_26, pc71_27, pc71_28, pc71_28n, pc71_29, pc71_32, pc71_33, pc71_34, pc71_34n, pc71_35, pc71_38, pc71_39, pc71_40, pc71_43, px_op_some, px_kv_ap, px_ki_ap, px_kl_ap, px_kn_ap, px_kh_ap, px_op_none, px_K_some, px_K_none, px_K_thr, px_kill, ↓reduceIte, if_true, if_false, true_and, and_true, px_gf, px_aa, t1, s1, t3, s3, lt, lt', ii, ci, ij, cj, o1, p1, y1', px_rf, tg_12, Nat.reduceLeDiff, and_self, List.getElem?_cons_zero, List.getElem?_cons_succ, hcO]
      refine c_order (ent_enP o2 oki) (ent_enP p2 okj) (Nat.le_refl _) oki okj (fun v hv => ?_)
      rw [cutP_all okj] at hv
      simp only [px_K_some, pc71_46]
      rcases hv with ⟨rfl, hv⟩ | ⟨v1, hv⟩ | ⟨v1, hv⟩
      · exact hQ _ (.inr (.inr ⟨rfl, x, y, hv⟩))
      · exact hQ _ (.inl ⟨v1, x, fun _ => hv⟩)
      · exact hQ _ (.inr (.inl ⟨v1, y, fun _ => hv⟩))
    · have lt' : ¬ nI j < nI m := fun z => Int32.lt_irrefl (Int32.lt_of_lt_of_le z (nI_le (by omega) (by omega)))
      simp only [pc71_0, pc71_1, pc71_1n, pc71_2, pc71_5, pc71_8, pc71_9, pc71_10, pc71_11, pc71_11n, pc71_12, pc71_15, pc71_18, pc71_19, pc71_22, pc71_22n, pc71_23, pc71_26, pc71_27, pc71_28, pc71_28n, pc71_29, pc71_32, pc71_33, pc71_34, pc71_34n, pc71_35, pc71_38, pc71_39, pc71_40, pc71_43, pc71_46, px_op_some, px_kv_ap, px_ki_ap, px_kl_ap, px_kn_ap, px_kh_ap, px_op_none, px_K_some, px_K_none, px_K_thr, px_kill, ↓reduceIte, if_true, if_false, true_and, and_true, px_gf, t1, s1, lt, lt', List.getElem?_cons_zero, List.getElem?_cons_succ]
      exact hQ _ (.inl ⟨by decide, x, fun z => absurd z y⟩)
  · have lt : ¬ nI i < nI n := fun z => Int32.lt_irrefl (Int32.lt_of_lt_of_le z (nI_le (by omega) (by omega)))
    simp only [pc71_0, pc71_1, pc71_1n, pc71_2, pc71_5, pc71_8, pc71_9, px_op_some, px_kv_ap, px_ki_ap, px_kl_ap, px_kn_ap, px_kh_ap, px_op_none, px_K_some, px_K_none, px_K_thr, px_kill, ↓reduceIte, if_true, if_false, true_and, and_true, px_gf, t1, lt, List.getElem?_cons_zero, List.getElem?_cons_succ]
    exact hQ _ (.inr (.inl ⟨by decide, by omega, fun z => absurd z x⟩))
set_option maxRecDepth 16384 in
theorem c_isGone (t : trR h T n E) (t' : trR h T' m F) (ok : tOK n E) (ok' : tOK m F) (hi : i < n) (hQ : ∀ x, says x (gonP n E m F i) → Q (.inl (some (.int x))) h) :
    px_Wp sx 72 0 [some (.ref T), some (.int (nI i)), some (.ref T'), none, none] [] h Q := by
  have h80 := ok.1
  have h80' := ok'.1
  have hcT : px_cls h T = some 3 := by unfold px_cls; rw [t.1]
  have hcT' : px_cls h T' = some 3 := by unfold px_cls; rw [t'.1]
  have tt := t
  obtain ⟨t1, t2, ra, t3, t4, t5⟩ := tt
  obtain ⟨O, x1, x2⟩ := t5 i hi
  have x3 := x2
  obtain ⟨src, st, cn, gg, y1, -⟩ := x3
  unfold enF at y1
  have hcO : px_cls h O = some 2 := by unfold px_cls; rw [y1]
  have oki := (ok.2.1 i hi).1
  have l35 := oki.2.1
  have hh := (home_lt (p := eP (E i)) (eL (E i))).1
  have ii : px_in (nI i) 80 = true := px_inb (by omega) (by decide)
  have ci : (nI i).toNatClampNeg = i := nI_clamp (by omega)
  simp only [pc72_0, pc72_0n, pc72_1, pc72_4, pc72_5, pc72_6, pc72_6n, pc72_7, pc72_7n, pc72_8, px_op_some, px_kv_ap, px_ki_ap, px_kl_ap, px_kn_ap, px_kh_ap, px_op_none, px_K_some, px_K_none, px_K_thr, px_kill, ↓reduceIte, if_true, if_false, true_and, and_true, px_gf, px_aa, t1, t3, ii, ci, x1, px_rf, tg_12, Nat.reduceLeDiff, and_self, List.getElem?_cons_zero, List.getElem?_cons_succ, hcO, px_kill]
  refine c_home (ent_enP x2 oki) oki ?_
  by_cases x : homeL (eP (E i)) (eL (E i)) = 0
  · have e : nI (homeL (eP (E i)) (eL (E i))) = 0 := by rw [x]; rfl
    simp only [px_K_some, pc72_11, pc72_13, pc72_15, pc72_18, pc72_19, e, not_true_eq_false, if_false, px_kill, nar_1]
    exact hQ 1 (.inl ⟨rfl, .inl x⟩)
  · have e : ¬ nI (homeL (eP (E i)) (eL (E i))) = 0 := fun z => x ((nI_eq (b := 0) (by omega) (by decide)).mp z)
    simp only [px_K_some, pc72_11, pc72_13, pc72_15, pc72_20, pc72_20n, pc72_21, pc72_21n, pc72_22, pc72_22n, pc72_23, pc72_25, e, not_false_eq_true, if_true, px_kill, hcT', true_and]
    refine c_search t' ok' (ent_enP x2 oki) oki hh (by omega) (fun v hv => ?_)
    have fls : ¬ (∃ j, j < m ∧ eP (F j) = cutP (eP (E i)) (homeL (eP (E i)) (eL (E i))) ∧ eK (F j) = 1) → ∀ k : Int32, ¬ k = 1 → px_Wp sx 72 31 [some (.ref T), some (.int (nI i)), some (.ref T'), some (.ref O), some (.int (nI (homeL (eP (E i)) (eL (E i)))))] [.int k] h Q := fun no k k1 => by
      simp only [pc72_31, pc72_32, pc72_54, pc72_55, k1, not_false_eq_true, if_true, nar_0]
      exact hQ 0 (.inr ⟨rfl, fun z => z.elim x (fun z => no z.1)⟩)
    rcases hv with ⟨j, j1, rfl, j2⟩ | ⟨g, g1, rfl⟩
    · simp only [px_K_some, pc72_28, hcT', true_and]
      refine c_kind_in t' ok' j1 ?_
      rw [px_K_some]
      by_cases k : eK (F j) = 1
      · have k1 : nI (eK (F j)) = 1 := by rw [k]; rfl
        simp only [pc72_31, pc72_32, pc72_35, pc72_35n, pc72_36, pc72_36n, pc72_37, pc72_37n, pc72_38, pc72_40, k1, not_true_eq_false, if_false, hcT, true_and]
        refine c_search t ok (ent_enP x2 oki) oki hh (by omega) (fun v hv => ?_)
        obtain ⟨w, w1, w2, w3⟩ := ok.2.2.2 i hi x
        have vw : v = nI w := by
          rcases hv with ⟨u, u1, rfl, u2⟩ | ⟨g, g1, rfl⟩
          · rw [srt_uniq ok u1 w1 (u2.trans w2.symm)]
          · rcases Nat.lt_or_ge w g with z | z
            · have := g1.2.1 w z; rw [w2] at this; exact absurd this (plt_irr _)
            · have := g1.2.2 w z w1; rw [w2] at this; exact absurd this (plt_irr _)
        subst vw
        simp only [px_K_some, pc72_43, pc72_43n, pc72_44]
        refine c_isEmptied t t' ok ok' w1 (fun y hy => ?_)
        rcases hy with ⟨rfl, hy⟩ | ⟨rfl, hy⟩
        · simp only [px_K_some, pc72_47, pc72_50, pc72_51, pc72_54, pc72_55, ne_1_0, not_false_eq_true, if_true, nar_0]
          exact hQ 0 (.inr ⟨rfl, fun z => z.elim x (fun z => z.2 ⟨w, w1, w2, hy⟩)⟩)
        · simp only [px_K_some, pc72_47, pc72_50, pc72_51, pc72_54, pc72_55, not_true_eq_false, if_false, nar_1]
          refine hQ 1 (.inl ⟨rfl, .inr ⟨⟨j, j1, j2, k⟩, ?_⟩⟩)
          rintro ⟨u, u1, u2, u3⟩
          rw [srt_uniq ok u1 w1 (u2.trans w2.symm)] at u3
          exact hy u3
      · have kk := (ok'.2.1 j j1).2
        refine fls (fun z => ?_) _ (fun z => k ((nI_eq (b := 1) (by omega) (by decide)).mp z))
        obtain ⟨u, u1, u2, u3⟩ := z
        rw [srt_uniq ok' u1 j1 (u2.trans j2.symm)] at u3
        exact k u3
    · simp only [px_K_some, pc72_28, hcT', true_and]
      refine c_kind_no t' (by have := g1.1; omega) ?_
      rw [px_K_some]
      refine fls (fun z => ?_) _ (by decide)
      obtain ⟨u, u1, u2, u3⟩ := z
      rcases Nat.lt_or_ge u g with z | z
      · have := g1.2.1 u z; rw [u2] at this; exact plt_irr _ this
      · have := g1.2.2 u z u1; rw [u2] at this; exact plt_irr _ this
set_option maxRecDepth 16384 in
theorem c_kindOfBoth (t : trR h T n E) (t' : trR h T' m F) (ok : tOK n E) (ok' : tOK m F) (hi : i < n) (hj : j < m) (hQ : Q (.inl (some (.int (nI (botK n E m F i j))))) h) :
    px_Wp sx 75 0 [some (.ref T), some (.int (nI i)), some (.ref T'), some (.int (nI j)), none, none] [] h Q := by
  have h80 := ok.1
  have h80' := ok'.1
  have tt := t
  have tt' := t'
  obtain ⟨t1, t2, ra, t3, t4, t5⟩ := tt
  obtain ⟨s1, s2, ra', s3, s4, s5⟩ := tt'
  have ii : px_in (nI i) 80 = true := px_inb (by omega) (by decide)
  have ci : (nI i).toNatClampNeg = i := nI_clamp (by omega)
  have ij : px_in (nI j) 80 = true := px_inb (by omega) (by decide)
  have cj : (nI j).toNatClampNeg = j := nI_clamp (by omega)
  obtain ⟨O, o1, o2⟩ := t5 i hi
  obtain ⟨O', p1, p2⟩ := s5 j hj
  have o3 := o2
  have p3 := p2
  obtain ⟨src, st, cn, gg, y1, -⟩ := o3
  obtain ⟨src', st', cn', gg', y1', -⟩ := p3
  unfold enF at y1 y1'
  have hcO : px_cls h O = some 2 := by unfold px_cls; rw [y1]
  have oki := ok.2.1 i hi
  have okj := ok'.2.1 j hj
  have ni := eN_le oki
  have nj := eN_le okj
  unfold botK at hQ
  have n12 : ¬ (1 : Int32) = 2 := by decide
  have ki : nI (eK (E i)) = 2 ∧ eK (E i) = 2 ∨ nI (eK (E i)) = 1 ∧ eK (E i) = 1 := by
    rcases oki.2 with z | z
    · exact .inr ⟨by rw [z.1]; rfl, z.1⟩
    · exact .inl ⟨by rw [z.1]; rfl, z.1⟩
  have kj : nI (eK (F j)) = 2 ∧ eK (F j) = 2 ∨ nI (eK (F j)) = 1 ∧ eK (F j) = 1 := by
    rcases okj.2 with z | z
    · exact .inr ⟨by rw [z.1]; rfl, z.1⟩
    · exact .inl ⟨by rw [z.1]; rfl, z.1⟩
  rcases kj with ⟨kj, kj'⟩ | ⟨kj, kj'⟩
  · rw [if_pos kj'] at hQ
    rcases ki with ⟨ki, ki'⟩ | ⟨ki, ki'⟩
    · simp only [pc75_0, pc75_0n, pc75_1, pc75_4, pc75_5, pc75_6, pc75_6n, pc75_8, pc75_8n, pc75_9, pc75_12, pc75_13, pc75_14, pc75_14n, pc75_16, pc75_16n, pc75_18, pc75_21, pc75_22, pc75_25, pc75_25n, pc75_27, pc75_30, pc75_31, pc75_34, pc75_34n, pc75_36, pc75_36n, pc75_38, px_op_some, px_kv_ap, px_ki_ap, px_kl_ap, px_kn_ap, px_kh_ap, px_op_none, px_K_some, px_K_none, px_K_thr, px_kill, ↓reduceIte, if_true, if_false, true_and, and_true, px_gf, px_aa, t1, s1, t3, s3, ii, ci, ij, cj, o1, p1, y1, y1', kj, ki, px_rf, tg_12, Nat.reduceLeDiff, and_self, List.getElem?_cons_zero, List.getElem?_cons_succ, not_true_eq_false, hcO, px_kill]
      refine c_sameBytes o2 p2 ki' kj' (by omega) (by omega) (fun x hx => ?_)
      rcases hx with ⟨rfl, hx⟩ | ⟨rfl, hx⟩
      · rw [pif_t ⟨ki', hx⟩] at hQ
        simp only [px_K_some, pc75_41, pc75_44, pc75_45, pc75_48, pc75_49, ne_1_0, if_false]
        exact hQ
      · rw [pif_f (fun z => hx z.2)] at hQ
        simp only [px_K_some, pc75_41, pc75_44, pc75_45, pc75_48, pc75_49, if_true]
        exact hQ
    · rw [pif_f (fun z => by omega)] at hQ
      simp only [pc75_0, pc75_0n, pc75_1, pc75_4, pc75_5, pc75_6, pc75_6n, pc75_8, pc75_8n, pc75_9, pc75_12, pc75_13, pc75_14, pc75_14n, pc75_16, pc75_16n, pc75_18, pc75_21, pc75_22, pc75_25, pc75_25n, pc75_27, pc75_30, pc75_31, pc75_34, pc75_34n, pc75_36, pc75_36n, pc75_38, pc75_41, pc75_44, pc75_45, pc75_48, pc75_49, px_op_some, px_kv_ap, px_ki_ap, px_kl_ap, px_kn_ap, px_kh_ap, px_op_none, px_K_some, px_K_none, px_K_thr, px_kill, ↓reduceIte, if_true, if_false, true_and, and_true, px_gf, px_aa, t1, s1, t3, s3, ii, ci, ij, cj, o1, p1, y1, y1', kj, ki, px_rf, tg_12, Nat.reduceLeDiff, and_self, List.getElem?_cons_zero, List.getElem?_cons_succ, not_true_eq_false, n12, not_false_eq_true, px_kill]
      exact hQ
  · rw [if_neg (by omega)] at hQ
    rcases ki with ⟨ki, ki'⟩ | ⟨ki, ki'⟩
    · rw [if_pos ki'] at hQ
      simp only [pc75_0, pc75_0n, pc75_1, pc75_4, pc75_5, pc75_6, pc75_6n, pc75_8, pc75_8n, pc75_9, pc75_12, pc75_13, pc75_14, pc75_14n, pc75_16, pc75_16n, pc75_18, pc75_21, pc75_22, pc75_50, pc75_50n, pc75_52, pc75_55, pc75_56, pc75_59, pc75_60, px_op_some, px_kv_ap, px_ki_ap, px_kl_ap, px_kn_ap, px_kh_ap, px_op_none, px_K_some, px_K_none, px_K_thr, px_kill, ↓reduceIte, if_true, if_false, true_and, and_true, px_gf, px_aa, t1, s1, t3, s3, ii, ci, ij, cj, o1, p1, y1, y1', kj, ki, px_rf, tg_12, Nat.reduceLeDiff, and_self, List.getElem?_cons_zero, List.getElem?_cons_succ, not_true_eq_false, n12, not_false_eq_true, px_kill]
      exact hQ
    · rw [if_neg (by omega)] at hQ
      simp only [pc75_0, pc75_0n, pc75_1, pc75_4, pc75_5, pc75_6, pc75_6n, pc75_8, pc75_8n, pc75_9, pc75_12, pc75_13, pc75_14, pc75_14n, pc75_16, pc75_16n, pc75_18, pc75_21, pc75_22, pc75_50, pc75_50n, pc75_52, pc75_55, pc75_56, pc75_59, pc75_60, pc75_61, pc75_61n, pc75_62, pc75_63, pc75_63n, pc75_64, px_op_some, px_kv_ap, px_ki_ap, px_kl_ap, px_kn_ap, px_kh_ap, px_op_none, px_K_some, px_K_none, px_K_thr, px_kill, ↓reduceIte, if_true, if_false, true_and, and_true, px_gf, px_aa, t1, s1, t3, s3, ii, ci, ij, cj, o1, p1, y1, y1', kj, ki, px_rf, tg_12, Nat.reduceLeDiff, and_self, List.getElem?_cons_zero, List.getElem?_cons_succ, n12, not_false_eq_true, px_kill]
      refine c_isEmptied t t' ok ok' hi (fun x hx => ?_)
      rcases hx with ⟨rfl, hx⟩ | ⟨rfl, hx⟩
      · rw [pif_t hx] at hQ
        simp only [px_K_some, pc75_67, pc75_70, pc75_71, pc75_74, pc75_75, ne_1_0, if_false]
        exact hQ
      · rw [pif_f hx] at hQ
        simp only [px_K_some, pc75_67, pc75_70, pc75_71, pc75_74, pc75_75, if_true]
        exact hQ
/-! the class's changes: old tree at T, new tree at T', written to the row at 85 -/
set_option maxRecDepth 16384 in
theorem c_changes {x : Int32} {r0 : Nat} (hl : 86 < h.2.length) (w1 : h.2[85]? = some (.inl (1, [.ref 86, .int x]))) (w2 : h.2[86]? = some (.inr (0, 4120, .inl f))) (t : trR h T n E) (t' : trR h T' m F) (hT : 87 ≤ T) (hT' : 87 ≤ T') (sh : tSH n E) (sh' : tSH m F)
    (hQ : ∀ f', bytA f' (chF n E m F 81 0 0 0 (fun _ => 0)).1 (chF n E m F 81 0 0 0 (fun _ => 0)).2 → Q (.inl none) (rowH h 85 4120 (chF n E m F 81 0 0 0 (fun _ => 0)).1 f')) :
    px_Wp sx 70 0 [some (.ref r0), some (.ref T), some (.ref T'), some (.ref 85), none, none, none] [] h Q := by
  obtain ⟨ok, -, n40, -⟩ := sh
  obtain ⟨ok', -, m40, m1000⟩ := sh'
  have tm : ∀ j, j ≤ m → totN F j ≤ totN F m := fun j hj => by have := totN_mono (E := F) (m - j) j; rw [show j + (m - j) = m by omega] at this; exact this
  have q : ∀ (c : Nat) (f' : Nat → Int32) r, r ≠ 85 → r ≠ 86 → (rowH h 85 4120 c f').2[r]? = h.2[r]? := fun c f' r h1 h2 => rowH_at (fun z => h1 z.symm) (fun z => h2 z.symm)
  have sr : ∀ (c : Nat) (f' : Nat → Int32) r, srcOK r → (rowH h 85 4120 c f').2[r]? = h.2[r]? ∧ (rowH h 85 4120 c f').2[r + 1]? = h.2[r + 1]? := fun c f' r hr => by
    unfold srcOK at hr
    exact ⟨q c f' r (by omega) (by omega), q c f' (r + 1) (by omega) (by omega)⟩
  have tw : ∀ c f', trR (rowH h 85 4120 c f') T n E := fun c f' => tr_frm t ok.1 (fun r hr => by unfold trA at hr; exact q c f' r (by omega) (by omega)) (sr c f')
  have tw' : ∀ c f', trR (rowH h 85 4120 c f') T' m F := fun c f' => tr_frm t' ok'.1 (fun r hr => by unfold trA at hr; exact q c f' r (by omega) (by omega)) (sr c f')
  have hlr : ∀ c f', 86 < (rowH h 85 4120 c f').2.length := fun c f' => by rw [rowH_len]; exact hl
  have entO : ∀ i, i < n → ∃ O, 87 ≤ O ∧ (∃ ra, h.2[T + 1]? = some (.inr (12, 80, .inr (.inr ra))) ∧ ra i = some O) ∧ entR h O (E i) := fun i hi => by
    obtain ⟨t1, t2, ra, t3, t4, t5⟩ := t
    obtain ⟨O, o1, o2⟩ := t5 i hi
    obtain ⟨k, k1, k2⟩ := prm_at t4 (show i < 80 by omega)
    rw [o1] at k2
    have := Option.some.inj k2
    exact ⟨O, by omega, ⟨ra, t3, o1⟩, o2⟩
  have entO' : ∀ i, i < m → ∃ O, 87 ≤ O ∧ (∃ ra, h.2[T' + 1]? = some (.inr (12, 80, .inr (.inr ra))) ∧ ra i = some O) ∧ entR h O (F i) := fun i hi => by
    obtain ⟨t1, t2, ra, t3, t4, t5⟩ := t'
    obtain ⟨O, o1, o2⟩ := t5 i hi
    obtain ⟨k, k1, k2⟩ := prm_at t4 (show i < 80 by omega)
    rw [o1] at k2
    have := Option.some.inj k2
    exact ⟨O, by omega, ⟨ra, t3, o1⟩, o2⟩
  have lp : ∀ d i j, n - i + (m - j) < d → i ≤ n → j ≤ m → ∀ a f' g l6, room m F i j a → bytA f' a g → chF n E m F d i j a g = chF n E m F 81 0 0 0 (fun _ => 0) → px_Wp sx 70 11 [some (.ref r0), some (.ref T), some (.ref T'), some (.ref 85), some (.int (nI i)), some (.int (nI j)), l6] [] (rowH h 85 4120 a f') Q := by
    intro d
    induction d with
    | zero => intro i j hd; omega
    | succ d ih =>
      intro i j hd hi hj a f' g l6 rm b ce
      have z1 := (tw a f').1
      have z1' := (tw' a f').1
      by_cases e : n ≤ i ∧ m ≤ j
      · have ei : i = n := by omega
        have ej : j = m := by omega
        subst ei ej
        have nl : ∀ c : Nat, ¬ nI c < nI c := fun c => Int32.lt_irrefl
        have le : nI j ≤ nI j := Int32.le_refl _
        simp only [pc70_11, pc70_13, pc70_13n, pc70_14, pc70_17, pc70_20, pc70_22, pc70_22n, pc70_23, pc70_26, pc70_134, px_op_some, px_kv_ap, px_ki_ap, px_kl_ap, px_kn_ap, px_kh_ap, px_op_none, px_K_some, px_K_none, px_K_thr, px_kill, ↓reduceIte, if_true, if_false, true_and, and_true, px_gf, z1, z1', nl, le, List.getElem?_cons_zero, List.getElem?_cons_succ]
        rw [chF_e (Nat.le_refl _) (Nat.le_refl _)] at ce
        have := hQ f'
        rw [← ce] at this
        exact this b
      · have go : px_Wp sx 70 29 [some (.ref r0), some (.ref T), some (.ref T'), some (.ref 85), some (.int (nI i)), some (.int (nI j)), l6] [] (rowH h 85 4120 a f') Q → px_Wp sx 70 11 [some (.ref r0), some (.ref T), some (.ref T'), some (.ref 85), some (.int (nI i)), some (.int (nI j)), l6] [] (rowH h 85 4120 a f') Q := fun hh => by
          by_cases x : i < n
          · have lt : nI i < nI n := nI_lt x (by omega)
            simp only [pc70_11, pc70_13, pc70_13n, pc70_14, pc70_17, px_op_some, px_kv_ap, px_ki_ap, px_kl_ap, px_kn_ap, px_kh_ap, px_op_none, px_K_some, px_K_none, px_K_thr, px_kill, ↓reduceIte, if_true, if_false, true_and, and_true, px_gf, z1, lt, List.getElem?_cons_zero, List.getElem?_cons_succ]
            exact hh
          · have lt : ¬ nI i < nI n := fun z => Int32.lt_irrefl (Int32.lt_of_lt_of_le z (nI_le (by omega) (by omega)))
            have ge : ¬ nI m ≤ nI j := nI_ge (by omega) (by omega)
            simp only [pc70_11, pc70_13, pc70_13n, pc70_14, pc70_17, pc70_20, pc70_22, pc70_22n, pc70_23, pc70_26, px_op_some, px_kv_ap, px_ki_ap, px_kl_ap, px_kn_ap, px_kh_ap, px_op_none, px_K_some, px_K_none, px_K_thr, px_kill, ↓reduceIte, if_true, if_false, true_and, and_true, px_gf, z1, z1', lt, ge, List.getElem?_cons_zero, List.getElem?_cons_succ]
            exact hh
        refine go ?_
        simp only [pc70_29, pc70_29n, pc70_30, pc70_32, pc70_32n, pc70_33, pc70_35]
        refine c_orderOf (tw a f') (tw' a f') ok ok' hi hj (by omega) (fun v hv => ?_)
        rcases hv with ⟨v1, hv⟩ | ⟨v1, hv⟩ | ⟨rfl, hi', hj', hv⟩
        · -- gone
          have v2 : ¬ 0 ≤ v := fun z => Int32.lt_irrefl (Int32.lt_of_lt_of_le v1 z)
          have i1 := hv.1
          simp only [px_K_some, pc70_38, pc70_40, pc70_42, pc70_45, pc70_45n, pc70_46, pc70_48, pc70_48n, pc70_49, v2, if_false, px_kill]
          refine c_isGone (tw a f') (tw' a f') ok ok' i1 (fun y hy => ?_)
          rw [chF_o hv] at ce
          have rm' := room_o (n := n) (ok.2.1 i i1) rm
          rcases hy with ⟨rfl, hy⟩ | ⟨rfl, hy⟩
          · have gk : gonK n E m F i = 3 := pif_t hy
            rw [gk] at ce rm'
            obtain ⟨O, O87, ⟨ra, t3, o1⟩, o2⟩ := entO i i1
            have t3' : (rowH h 85 4120 a f').2[T + 1]? = some (.inr (12, 80, .inr (.inr ra))) := by rw [q a f' _ (by omega) (by omega)]; exact t3
            have ii : px_in (nI i) 80 = true := px_inb (by omega) (by decide)
            have ci : (nI i).toNatClampNeg = i := nI_clamp (by omega)
            simp only [px_K_some, pc70_52, pc70_55, pc70_55n, pc70_56, pc70_57, pc70_57n, pc70_58, pc70_61, pc70_63, pc70_64, px_op_some, px_kv_ap, px_ki_ap, px_kl_ap, px_kn_ap, px_kh_ap, px_op_none, px_K_some, px_K_none, px_K_thr, px_kill, ↓reduceIte, if_true, if_false, true_and, and_true, ne_1_0, px_gf, px_aa, z1, t3', ii, ci, o1, px_rf, tg_12, Nat.reduceLeDiff, and_self, List.getElem?_cons_zero, List.getElem?_cons_succ]
            have tj := tm j hj
            refine c_addItem (k := 3) hl o2 (ok.2.1 i i1) O87 (by decide) (fun z => by omega) (by unfold room at rm'; omega) b (fun f1 b1 => ?_)
            simp only [px_K_none, pc70_67, pc70_70, pc70_131, nI_p1, px_kill]
            exact ih (i + 1) j (by omega) (by omega) hj _ f1 _ _ rm' b1 ce
          · have gk : gonK n E m F i = 0 := pif_f hy
            rw [gk] at ce rm'
            simp only [px_K_some, pc70_52, pc70_67, pc70_70, pc70_131, if_true, nI_p1, px_kill]
            exact ih (i + 1) j (by omega) (by omega) hj _ f' _ _ rm' (fun k hk => by unfold itmB; rw [if_pos (.inl rfl)]; exact b k hk) ce
        · -- new
          have v2 : 0 ≤ v := Int32.le_of_lt v1
          have v3 : ¬ v ≤ 0 := fun z => Int32.lt_irrefl (Int32.lt_of_lt_of_le v1 z)
          have j1 := hv.1
          rw [chF_n hv] at ce
          have rm' := room_n (k := eK (F j)) (ok'.2.1 j j1) rm (Nat.le_refl i)
          obtain ⟨O, O87, ⟨ra, t3, o1⟩, o2⟩ := entO' j j1
          have t3' : (rowH h 85 4120 a f').2[T' + 1]? = some (.inr (12, 80, .inr (.inr ra))) := by rw [q a f' _ (by omega) (by omega)]; exact t3
          have ij : px_in (nI j) 80 = true := px_inb (by omega) (by decide)
          have cj : (nI j).toNatClampNeg = j := nI_clamp (by omega)
          have o3 := o2
          obtain ⟨src, st, cn, gg, y1, -⟩ := o3
          unfold enF at y1
          have y1' : (rowH h 85 4120 a f').2[O]? = some (.inl (2, [.ref (O + 1), .int (nI (eL (F j))), .int (nI (eK (F j))), src, .int st, .int cn])) := by rw [q a f' _ (by omega) (by omega)]; exact y1
          have tj := tm (j + 1) (by omega)
          simp only [px_K_some, pc70_38, pc70_40, pc70_42, pc70_73, pc70_75, pc70_78, pc70_78n, pc70_79, pc70_79n, pc70_80, pc70_83, pc70_85, pc70_86, pc70_89, pc70_89n, pc70_90, pc70_93, pc70_95, pc70_96, px_op_some, px_kv_ap, px_ki_ap, px_kl_ap, px_kn_ap, px_kh_ap, px_op_none, px_K_some, px_K_none, px_K_thr, px_kill, ↓reduceIte, if_true, if_false, true_and, and_true, v2, v3, px_gf, px_aa, z1', t3', ij, cj, o1, y1', px_rf, tg_12, Nat.reduceLeDiff, and_self, List.getElem?_cons_zero, List.getElem?_cons_succ, px_kill]
          have k4 : eK (F j) ≤ 4 := by rcases (ok'.2.1 j j1).2 with z | z <;> omega
          refine c_addItem hl o2 (ok'.2.1 j j1) O87 k4 (fun z => z) (by unfold room at rm'; omega) b (fun f1 b1 => ?_)
          simp only [px_K_none, pc70_99, pc70_102, pc70_131, nI_p1, px_kill]
          exact ih i (j + 1) (by omega) hi (by omega) _ f1 _ _ rm' b1 ce
        · -- both
          have le0 : (0 : Int32) ≤ 0 := by decide
          rw [chF_b hi' hj' hv] at ce
          have rm' := room_n (k := botK n E m F i j) (ok'.2.1 j hj') rm (Nat.le_succ i)
          obtain ⟨O, O87, ⟨ra, t3, o1⟩, o2⟩ := entO' j hj'
          have t3' : (rowH h 85 4120 a f').2[T' + 1]? = some (.inr (12, 80, .inr (.inr ra))) := by rw [q a f' _ (by omega) (by omega)]; exact t3
          have ij : px_in (nI j) 80 = true := px_inb (by omega) (by decide)
          have cj : (nI j).toNatClampNeg = j := nI_clamp (by omega)
          have tj := tm (j + 1) (by omega)
          simp only [px_K_some, pc70_38, pc70_40, pc70_42, pc70_73, pc70_75, pc70_105, pc70_105n, pc70_106, pc70_106n, pc70_107, pc70_109, pc70_109n, pc70_110, pc70_112, le0, if_true, px_kill]
          refine c_kindOfBoth (tw a f') (tw' a f') ok ok' hi' hj' ?_
          simp only [px_K_some, pc70_115, pc70_115n, pc70_116, pc70_119, pc70_121, pc70_122, px_op_some, px_kv_ap, px_ki_ap, px_kl_ap, px_kn_ap, px_kh_ap, px_op_none, px_K_some, px_K_none, px_K_thr, px_kill, ↓reduceIte, if_true, if_false, true_and, and_true, px_gf, px_aa, z1', t3', ij, cj, o1, px_rf, tg_12, Nat.reduceLeDiff, and_self, List.getElem?_cons_zero, List.getElem?_cons_succ]
          refine c_addItem hl o2 (ok'.2.1 j hj') O87 bot_4 bot_2 (by unfold room at rm'; omega) b (fun f1 b1 => ?_)
          simp only [px_K_none, pc70_125, pc70_128, pc70_131, nI_p1, px_kill]
          exact ih (i + 1) (j + 1) (by omega) (by omega) (by omega) _ f1 _ _ rm' b1 ce
  have l85 : 85 < h.2.length := by omega
  have eh : px_wr h 85 (.inl (1, [.ref 86, .int 0])) = rowH h 85 4120 0 f := by
    show _ = px_wr (px_wr h 86 (.inr (0, 4120, .inl f))) 85 (.inl (1, [.ref 86, .int 0]))
    rw [wr_id w2]
  simp only [pc70_0, pc70_0n, pc70_1, pc70_2, pc70_5, pc70_6, pc70_8, pc70_9, px_op_some, px_kv_ap, px_ki_ap, px_kl_ap, px_kn_ap, px_kh_ap, px_op_none, px_K_some, px_K_none, px_K_thr, px_kill, ↓reduceIte, if_true, if_false, true_and, and_true, px_pf, w1, List.length_cons, List.length_nil, List.set_cons_zero, List.set_cons_succ, px_fit, Nat.reduceAdd, Nat.reduceLT, and_self, px_kill]
  rw [eh]
  exact lp 81 0 0 (by omega) (by omega) (by omega) 0 f _ none (Nat.zero_le _) (fun k hk => absurd hk (Nat.not_lt_zero k)) rfl
end CHG
