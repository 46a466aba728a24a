/-! TREES: what an item makes of a tree is a tree -/
section TKEEP
variable {n : Nat} {E : Nat → aE}
set_option maxRecDepth 16384 in
theorem home_blw {p : Nat → Nat} {l : Nat} (hp : pth p l) (h : homeL p l ≠ 0) : homeL p l < l ∧ p (homeL p l) = 47 ∧ blw (cutP p (homeL p l)) (homeL p l) p ∧ pth (cutP p (homeL p l)) (homeL p l) := by
  have a := (home_lt (p := p) l).2 (by have := hp.1; omega)
  have b := home_is l h
  exact ⟨a, b, blw_cut a b, pth_cut hp a b⟩
set_option maxRecDepth 16384 in
theorem blw_trans {p q r : Nat → Nat} {l m : Nat} (h1 : blw p l q) (h2 : blw q m r) (hq : pth q m) : blw p l r := by
  have lm : l < m := by
    apply Classical.byContradiction
    intro z
    have := hq.2.2.2.1 l (by omega)
    rw [h1.2] at this; exact absurd this (by decide)
  exact ⟨fun j hj => (h2.1 j (by omega)).trans (h1.1 j hj), (h2.1 l lm).trans h1.2⟩
/-! a run of entries cut out that nobody outside has as its home -/
set_option maxRecDepth 16384 in
theorem cut_ok {a b : Nat} (h : tOK n E) (hab : a ≤ b) (hbn : b ≤ n) (hh : ∀ i, i < n → (i < a ∨ b ≤ i) → ∀ j, a ≤ j → j < b → homeL (eP (E i)) (eL (E i)) ≠ 0 → ¬ eP (E j) = cutP (eP (E i)) (homeL (eP (E i)) (eL (E i)))) : tOK (n - (b - a)) (cutE E a b) := by
  obtain ⟨h1, h2, h3, h4⟩ := h
  have src : ∀ i, i < n - (b - a) → ∃ i', i' < n ∧ (i' < a ∨ b ≤ i') ∧ cutE E a b i = E i' ∧ (i < a ∧ i' = i ∨ a ≤ i ∧ i' = i + (b - a)) := fun i hi => by
    unfold cutE
    by_cases e : i < a
    · exact ⟨i, by omega, .inl e, if_pos e, .inl ⟨e, rfl⟩⟩
    · exact ⟨i + (b - a), by omega, .inr (by omega), if_neg e, .inr ⟨by omega, rfl⟩⟩
  refine ⟨by omega, fun i hi => ?_, fun i j hij hj => ?_, fun i hi hm => ?_⟩
  · obtain ⟨i', x1, x2, x3, -⟩ := src i hi
    rw [x3]; exact h2 i' x1
  · obtain ⟨i', x1, x2, x3, x4⟩ := src i (by omega)
    obtain ⟨j', y1, y2, y3, y4⟩ := src j hj
    rw [x3, y3]; exact h3 i' j' (by omega) y1
  · obtain ⟨i', x1, x2, x3, x4⟩ := src i hi
    rw [x3] at hm ⊢
    obtain ⟨j', y1, y2, y3⟩ := h4 i' x1 hm
    have out : j' < a ∨ b ≤ j' := by
      apply Classical.byContradiction
      intro z
      exact hh i' x1 x2 j' (by omega) (by omega) hm y2
    rcases out with o | o
    · refine ⟨j', by omega, ?_⟩
      have e : cutE E a b j' = E j' := if_pos o
      rw [e]; exact ⟨y2, y3⟩
    · refine ⟨j' - (b - a), by omega, ?_⟩
      have e : cutE E a b (j' - (b - a)) = E j' := by
        unfold cutE
        rw [if_neg (by omega)]; congr 1; omega
      rw [e]; exact ⟨y2, y3⟩
/-! who has a home in a run below i is below i -/
set_option maxRecDepth 16384 in
theorem home_in {i b : Nat} (h : tOK n E) (hi : i < n) (hb : endE n E i b) {j k : Nat} (hj : j < n) (hk : i ≤ k) (hkb : k < b) (hm : homeL (eP (E j)) (eL (E j)) ≠ 0) (e : eP (E k) = cutP (eP (E j)) (homeL (eP (E j)) (eL (E j)))) : i < j ∧ j < b := by
  have kn : k < n := by have := hb.2.1; omega
  obtain ⟨a1, a2, a3, a4⟩ := home_blw (h.2.1 j hj).1 hm
  have pk := (h.2.1 k kn).1
  rw [← e] at a3 a4
  have lk : eL (E k) = homeL (eP (E j)) (eL (E j)) := pth_len pk a4
  refine (end_iff h hi hb hj).mp ?_
  by_cases x : k = i
  · subst x; rw [lk]; exact a3
  · have w := (end_iff h hi hb kn).mpr ⟨by omega, hkb⟩
    exact blw_trans w a3 a4
set_option maxRecDepth 16384 in
theorem set_ok {i l m : Nat} {p : Nat → Nat} {e : aE} (h : tOK n E) (hi : i < n) (he : eOK e) (ep : eP e = eP (E i)) (el : eL e = eL (E i)) (hd : eK e = 1 ∨ ∀ j, j < n → homeL (eP (E j)) (eL (E j)) ≠ 0 → ¬ eP (E i) = cutP (eP (E j)) (homeL (eP (E j)) (eL (E j)))) : tOK n (px_up E i e) := by
  obtain ⟨h1, h2, h3, h4⟩ := h
  have eqP : ∀ j, eP (px_up E i e j) = eP (E j) := fun j => by
    by_cases x : j = i
    · subst x; rw [up_same]; exact ep
    · rw [up_ne x]
  have eqL : ∀ j, eL (px_up E i e j) = eL (E j) := fun j => by
    by_cases x : j = i
    · subst x; rw [up_same]; exact el
    · rw [up_ne x]
  refine ⟨h1, fun j hj => ?_, fun j j' a b => ?_, fun j hj hm => ?_⟩
  · by_cases x : j = i
    · subst x; rw [up_same]; exact he
    · rw [up_ne x]; exact h2 j hj
  · rw [eqP, eqP]; exact h3 j j' a b
  · rw [eqP, eqL] at hm ⊢
    obtain ⟨k, y1, y2, y3⟩ := h4 j hj hm
    refine ⟨k, y1, by rw [eqP]; exact y2, ?_⟩
    by_cases x : k = i
    · subst x
      rw [up_same]
      rcases hd with hd | hd
      · exact hd
      · exact absurd y2 (hd j hj hm)
    · rw [up_ne x]; exact y3
set_option maxRecDepth 16384 in
theorem ins_ok {a : Nat} {e : aE} (h : tOK n E) (hn : n < 80) (he : eOK e) (g : gapE n E (eP e) a) (hd : homed n E (eP e) (eL e)) : tOK (n + 1) (insE E a e) := by
  obtain ⟨h1, h2, h3, h4⟩ := h
  have src : ∀ i, i < n + 1 → (i = a ∧ insE E a e i = e) ∨ ∃ i', i' < n ∧ insE E a e i = E i' ∧ (i < a ∧ i' = i ∨ a < i ∧ i' = i - 1) := fun i hi => by
    unfold insE
    by_cases x : i < a
    · exact .inr ⟨i, by have := g.1; omega, if_pos x, .inl ⟨x, rfl⟩⟩
    · by_cases y : i = a
      · exact .inl ⟨y, by rw [if_neg x, if_pos y]⟩
      · exact .inr ⟨i - 1, by omega, by rw [if_neg x, if_neg y], .inr ⟨by omega, rfl⟩⟩
  have dst : ∀ j, j < n → ∃ j', j' < n + 1 ∧ insE E a e j' = E j := fun j hj => by
    by_cases x : j < a
    · exact ⟨j, by omega, if_pos x⟩
    · refine ⟨j + 1, by omega, ?_⟩
      unfold insE
      rw [if_neg (by omega), if_neg (by omega), Nat.add_sub_cancel]
  refine ⟨by omega, fun i hi => ?_, fun i j hij hj => ?_, fun i hi hm => ?_⟩
  · rcases src i hi with ⟨-, x⟩ | ⟨i', x1, x2, -⟩
    · rw [x]; exact he
    · rw [x2]; exact h2 i' x1
  · rcases src i (by omega) with ⟨x0, x⟩ | ⟨i', x1, x2, x3⟩ <;> rcases src j hj with ⟨y0, y⟩ | ⟨j', y1, y2, y3⟩
    · omega
    · rw [x, y2]; exact g.2.2 j' (by omega) y1
    · rw [x2, y]; exact g.2.1 i' (by omega)
    · rw [x2, y2]; exact h3 i' j' (by omega) y1
  · have old : ∀ p l, homed n E p l → homeL p l ≠ 0 → ∃ j, j < n + 1 ∧ eP (insE E a e j) = cutP p (homeL p l) ∧ eK (insE E a e j) = 1 := fun p l w z => by
      rcases w with w | ⟨j, w1, w2, w3⟩
      · exact absurd w z
      · obtain ⟨j', y1, y2⟩ := dst j w1
        exact ⟨j', y1, by rw [y2]; exact w2, by rw [y2]; exact w3⟩
    rcases src i hi with ⟨-, x⟩ | ⟨i', x1, x2, -⟩
    · rw [x] at hm ⊢; exact old _ _ hd hm
    · rw [x2] at hm ⊢; exact old _ _ (.inr (h4 i' x1 hm)) hm
set_option maxRecDepth 16384 in
theorem ap_ok {k l m : Nat} {p : Nat → Nat} {c : Nat → Int32} {n' : Nat} {E' : Nat → aE} (h : tOK n E) (hp : pth p l) (hm : m ≤ 1000) (w : apR n E k l p m c n' E') : tOK n' E' := by
  rcases w with ⟨i, b, i1, i2, i3, i4⟩ | ⟨i1, i2, i3, i4, a, i5, i6, i7⟩ | ⟨-, rfl, rfl⟩
  · have li : eL (E i) = l := pth_len (h.2.1 i i1).1 (by rw [i2]; exact hp)
    have b1 := i3.1
    have b2 := i3.2.1
    have cut1 : tOK (n - (b - (i + 1))) (cutE E (i + 1) b) := cut_ok h (by omega) b2 (fun j hj o k hk1 hk2 hm' e => by
      have := home_in h i1 i3 hj (by omega) hk2 hm' e
      omega)
    rcases i4 with ⟨a1, rfl, rfl⟩ | ⟨a1, a2, rfl, rfl⟩ | ⟨a1, a2, rfl, rfl⟩ | ⟨a1, a2, a3, rfl, rfl⟩ | ⟨a1, a2, a3, rfl, rfl⟩
    · exact cut_ok h (by omega) b2 (fun j hj o k hk1 hk2 hm' e => by
        have := home_in h i1 i3 hj hk1 hk2 hm' e
        omega)
    · exact cut1
    · exact set_ok (l := l) (m := m) (p := p) h i1 ⟨hp, .inl ⟨rfl, rfl⟩⟩ i2.symm li.symm (.inl rfl)
    · have ei : cutE E (i + 1) b i = E i := if_pos (by omega)
      refine set_ok (l := l) (m := m) (p := p) cut1 (by omega) ⟨hp, .inr ⟨rfl, hm⟩⟩ (by rw [ei]; exact i2.symm) (by rw [ei]; exact li.symm) (.inr (fun j hj hm' e => ?_))
      rw [ei] at e
      have sj : ∃ j', j' < n ∧ (j' < i + 1 ∨ b ≤ j') ∧ cutE E (i + 1) b j = E j' := by
        unfold cutE
        by_cases x : j < i + 1
        · exact ⟨j, by omega, .inl x, if_pos x⟩
        · exact ⟨j + (b - (i + 1)), by omega, .inr (by omega), if_neg x⟩
      obtain ⟨j', y1, y2, y3⟩ := sj
      rw [y3] at hm' e
      have := home_in h i1 i3 y1 (Nat.le_refl _) b1 hm' e
      omega
    · refine set_ok (l := l) (m := m) (p := p) h i1 ⟨hp, .inr ⟨rfl, hm⟩⟩ i2.symm li.symm (.inr (fun j hj hm' e => ?_))
      obtain ⟨k', y1, y2, y3⟩ := h.2.2.2 j hj hm'
      have : i = k' := srt_uniq h i1 y1 (e.trans y2.symm)
      subst this
      omega
  · rw [i6, i7]
    refine ins_ok h i4 ?_ (by unfold iE; split <;> exact i5) (by unfold iE; split <;> exact i3)
    unfold iE
    split
    · exact ⟨hp, .inr ⟨rfl, hm⟩⟩
    · exact ⟨hp, .inl ⟨rfl, rfl⟩⟩
  · exact h
set_option maxRecDepth 16384 in
theorem tOK_0 (E : Nat → aE) : tOK 0 E := ⟨by decide, fun i hi => absurd hi (Nat.not_lt_zero i), fun _ j _ hj => absurd hj (Nat.not_lt_zero j), fun i hi => absurd hi (Nat.not_lt_zero i)⟩
end TKEEP
