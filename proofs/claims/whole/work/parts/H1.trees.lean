/-! TREES: entries in the order of their paths -/
/-- an entry: signs of its path, the path, its kind (1 a directory, 2 a file), how many bytes, these -/
abbrev aE : Type := Nat × (Nat → Nat) × Nat × Nat × (Nat → Int32)
abbrev eL (e : aE) : Nat := e.1
abbrev eP (e : aE) : Nat → Nat := e.2.1
abbrev eK (e : aE) : Nat := e.2.2.1
abbrev eN (e : aE) : Nat := e.2.2.2.1
abbrev eC (e : aE) : Nat → Int32 := e.2.2.2.2
def eOK (e : aE) : Prop := pth (eP e) (eL e) ∧ (eK e = 1 ∧ eN e = 0 ∨ eK e = 2 ∧ eN e ≤ 1000)
def tOK (n : Nat) (E : Nat → aE) : Prop := n ≤ 80 ∧ (∀ i, i < n → eOK (E i)) ∧ (∀ i j, i < j → j < n → plt (eP (E i)) (eP (E j))) ∧ ∀ i, i < n → homeL (eP (E i)) (eL (E i)) ≠ 0 → ∃ j, j < n ∧ eP (E j) = cutP (eP (E i)) (homeL (eP (E i)) (eL (E i))) ∧ eK (E j) = 1
def cutE (E : Nat → aE) (a b : Nat) : Nat → aE := fun i => if i < a then E i else E (i + (b - a))
def insE (E : Nat → aE) (a : Nat) (e : aE) : Nat → aE := fun i => if i < a then E i else if i = a then e else E (i - 1)
def dirE (l : Nat) (p : Nat → Nat) : aE := (l, p, 1, 0, fun _ => 0)
/-- what is below the entry i ends before b -/
def endE (n : Nat) (E : Nat → aE) (i b : Nat) : Prop := i < b ∧ b ≤ n ∧ (∀ j, i < j → j < b → blw (eP (E i)) (eL (E i)) (eP (E j))) ∧ (b = n ∨ ¬ blw (eP (E i)) (eL (E i)) (eP (E b)))
/-- a path has a home: none, or a directory -/
def homed (n : Nat) (E : Nat → aE) (p : Nat → Nat) (l : Nat) : Prop := homeL p l = 0 ∨ ∃ j, j < n ∧ eP (E j) = cutP p (homeL p l) ∧ eK (E j) = 1
/-- an item: kind, signs, path, bytes -/
abbrev aI : Type := Nat × Nat × (Nat → Nat) × Nat × (Nat → Int32)
def iE (k l : Nat) (p : Nat → Nat) (m : Nat) (c : Nat → Int32) : aE := if k = 2 then (l, p, 2, m, c) else dirE l p
/-- where a path that isn't there would stand -/
def gapE (n : Nat) (E : Nat → aE) (p : Nat → Nat) (a : Nat) : Prop := a ≤ n ∧ (∀ i, i < a → plt (eP (E i)) p) ∧ ∀ i, a ≤ i → i < n → plt p (eP (E i))
/-- what an item makes of a tree -/
def apR (n : Nat) (E : Nat → aE) (k l : Nat) (p : Nat → Nat) (m : Nat) (c : Nat → Int32) (n' : Nat) (E' : Nat → aE) : Prop :=
  (∃ i b, i < n ∧ eP (E i) = p ∧ endE n E i b ∧ (k = 3 ∧ n' = n - (b - i) ∧ E' = cutE E i b ∨ k = 4 ∧ eK (E i) = 1 ∧ n' = n - (b - (i + 1)) ∧ E' = cutE E (i + 1) b ∨ k = 1 ∧ homed n E p l ∧ n' = n ∧ E' = px_up E i (dirE l p) ∨ k = 2 ∧ homed n E p l ∧ eK (E i) = 1 ∧ n' = n - (b - (i + 1)) ∧ E' = px_up (cutE E (i + 1) b) i (l, p, 2, m, c) ∨ k = 2 ∧ homed n E p l ∧ eK (E i) = 2 ∧ n' = n ∧ E' = px_up E i (l, p, 2, m, c))) ∨
  ((∀ i, i < n → ¬ eP (E i) = p) ∧ (k = 1 ∨ k = 2) ∧ homed n E p l ∧ n < 80 ∧ ∃ a, gapE n E p a ∧ n' = n + 1 ∧ E' = insE E a (iE k l p m c)) ∨
  (((∀ i, i < n → ¬ eP (E i) = p) ∧ ((k = 3 ∨ k = 4) ∨ n = 80) ∨ (k = 4 ∧ ∃ i, i < n ∧ eP (E i) = p ∧ eK (E i) = 2) ∨ (k = 1 ∨ k = 2) ∧ ¬ homed n E p l) ∧ n' = n ∧ E' = E)
set_option maxRecDepth 16384 in
theorem srt_uniq {n : Nat} {E : Nat → aE} (h : tOK n E) {i j : Nat} (hi : i < n) (hj : j < n) (e : eP (E i) = eP (E j)) : i = j := by
  rcases Nat.lt_trichotomy i j with x | x | x
  · have := h.2.2.1 i j x hj; rw [e] at this; exact absurd this (plt_irr _)
  · exact x
  · have := h.2.2.1 j i x hi; rw [e] at this; exact absurd this (plt_irr _)
set_option maxRecDepth 16384 in
theorem end_iff {n : Nat} {E : Nat → aE} {i b : Nat} (h : tOK n E) (hi : i < n) (hb : endE n E i b) {j : Nat} (hj : j < n) : blw (eP (E i)) (eL (E i)) (eP (E j)) ↔ i < j ∧ j < b := by
  have pi := (h.2.1 i hi).1
  refine ⟨fun w => ?_, fun w => hb.2.2.1 j w.1 w.2⟩
  have g := blw_gt pi w
  have ij : i < j := by
    rcases Nat.lt_trichotomy i j with x | x | x
    · exact x
    · subst x; exact absurd g (plt_irr _)
    · exact absurd (h.2.2.1 j i x hi) (fun z => plt_asym g z)
  refine ⟨ij, ?_⟩
  apply Classical.byContradiction
  intro z
  rcases hb.2.2.2 with e | e
  · omega
  · have bn : b < n := by omega
    by_cases x : j = b
    · subst x; exact e w
    · exact e (blw_next pi (h.2.1 b bn).1 (h.2.2.1 i b hb.1 bn) (h.2.2.1 b j (by omega) hj) w)
set_option maxRecDepth 16384 in
theorem end_det {n : Nat} {E : Nat → aE} {i b b' : Nat} (h1 : endE n E i b) (h2 : endE n E i b') : b = b' := by
  rcases Nat.lt_trichotomy b b' with x | x | x
  · rcases h1.2.2.2 with e | e
    · have := h2.2.1; omega
    · exact absurd (h2.2.2.1 b h1.1 x) e
  · exact x
  · rcases h2.2.2.2 with e | e
    · have := h1.2.1; omega
    · exact absurd (h1.2.2.1 b' h2.1 x) e
set_option maxRecDepth 16384 in
theorem gap_det {n : Nat} {E : Nat → aE} {p : Nat → Nat} {a a' : Nat} (h1 : gapE n E p a) (h2 : gapE n E p a') : a = a' := by
  rcases Nat.lt_trichotomy a a' with x | x | x
  · exact absurd (plt_asym (h1.2.2 a (Nat.le_refl _) (by have := h2.1; omega)) (h2.2.1 a x)) (fun z => z)
  · exact x
  · exact absurd (plt_asym (h2.2.2 a' (Nat.le_refl _) (by have := h1.1; omega)) (h1.2.1 a' x)) (fun z => z)
set_option maxRecDepth 16384 in
theorem ap_det {n : Nat} {E : Nat → aE} {k l m : Nat} {p : Nat → Nat} {c : Nat → Int32} {n1 n2 : Nat} {E1 E2 : Nat → aE} (h : tOK n E) (h1 : apR n E k l p m c n1 E1) (h2 : apR n E k l p m c n2 E2) : n1 = n2 ∧ E1 = E2 := by
  rcases h1 with ⟨i, b, i1, i2, i3, i4⟩ | ⟨i1, i2, i3, i4, a, i5, i6, i7⟩ | ⟨i1, i2, i3⟩
  · rcases h2 with ⟨j, b', j1, j2, j3, j4⟩ | ⟨j1, -⟩ | ⟨j1, j2, j3⟩
    · have : i = j := srt_uniq h i1 j1 (i2.trans j2.symm)
      subst this
      have := end_det i3 j3
      subst this
      rcases i4 with ⟨a1, a2, a3⟩ | ⟨a1, a2, a3, a4⟩ | ⟨a1, a2, a3, a4⟩ | ⟨a1, a2, a3, a4, a5⟩ | ⟨a1, a2, a3, a4, a5⟩ <;> rcases j4 with ⟨b1, b2, b3⟩ | ⟨b1, b2, b3, b4⟩ | ⟨b1, b2, b3, b4⟩ | ⟨b1, b2, b3, b4, b5⟩ | ⟨b1, b2, b3, b4, b5⟩ <;> first | (exfalso; omega) | (refine ⟨by omega, ?_⟩; subst_vars; rfl) | skip
    · exact absurd i2 (j1 i i1)
    · exfalso
      rcases j1 with ⟨j1, -⟩ | ⟨j1, j, j4, j5, j6⟩ | ⟨j1, j4⟩
      · exact j1 i i1 i2
      · have : i = j := srt_uniq h i1 j4 (i2.trans j5.symm)
        subst this
        omega
      · rcases i4 with ⟨a1, -⟩ | ⟨a1, -⟩ | ⟨a1, a2, -⟩ | ⟨a1, a2, -⟩ | ⟨a1, a2, -⟩
        · omega
        · omega
        · exact j4 a2
        · exact j4 a2
        · exact j4 a2
  · rcases h2 with ⟨j, b', j1, j2, -⟩ | ⟨j1, j2, j3, j4, a', j5, j6, j7⟩ | ⟨j1, j2, j3⟩
    · exact absurd j2 (i1 j j1)
    · have := gap_det i5 j5
      subst this
      exact ⟨by omega, by rw [i7, j7]⟩
    · exfalso
      rcases j1 with ⟨-, j1⟩ | ⟨j1, j, j4, j5, -⟩ | ⟨j1, j4⟩
      · omega
      · exact i1 j j4 j5
      · exact j4 i3
  · rcases h2 with ⟨j, b', j1, j2, j3, j4⟩ | ⟨j1, j2, j3, j4, a', -⟩ | ⟨j1, j2, j3⟩
    · exfalso
      rcases i1 with ⟨i1, -⟩ | ⟨i1, i, i4, i5, i6⟩ | ⟨i1, i4⟩
      · exact i1 j j1 j2
      · have : j = i := srt_uniq h j1 i4 (j2.trans i5.symm)
        subst this
        omega
      · rcases j4 with ⟨a1, -⟩ | ⟨a1, -⟩ | ⟨a1, a2, -⟩ | ⟨a1, a2, -⟩ | ⟨a1, a2, -⟩
        · omega
        · omega
        · exact i4 a2
        · exact i4 a2
        · exact i4 a2
    · exfalso
      rcases i1 with ⟨-, i1⟩ | ⟨i1, i, i4, i5, -⟩ | ⟨i1, i4⟩
      · omega
      · exact j1 i i4 i5
      · exact i4 j3
    · exact ⟨by omega, by rw [i3, j3]⟩
