/-! PATHS: signs, then noughts -/
def chr (c : Nat) : Prop := c = 47 ∨ (48 ≤ c ∧ c ≤ 57) ∨ (97 ≤ c ∧ c ≤ 122)
/-- a path of l signs -/
def pth (p : Nat → Nat) (l : Nat) : Prop := 1 ≤ l ∧ l ≤ 35 ∧ (∀ j, j < l → chr (p j)) ∧ (∀ j, l ≤ j → p j = 0) ∧ p 0 ≠ 47 ∧ p (l - 1) ≠ 47 ∧ ∀ j, j + 1 < l → p j = 47 → p (j + 1) ≠ 47
def plt (p q : Nat → Nat) : Prop := ∃ k, (∀ j, j < k → p j = q j) ∧ p k < q k
/-- the first k signs -/
def cutP (p : Nat → Nat) (k : Nat) : Nat → Nat := fun j => if j < k then p j else 0
/-- q stands below p, which has l signs -/
def blw (p : Nat → Nat) (l : Nat) (q : Nat → Nat) : Prop := (∀ j, j < l → q j = p j) ∧ q l = 47
set_option maxRecDepth 16384 in
theorem chr_pos {c : Nat} (h : chr c) : 47 ≤ c ∧ c ≤ 122 := by unfold chr at h; omega
set_option maxRecDepth 16384 in
theorem plt_irr (p : Nat → Nat) : ¬ plt p p := fun ⟨k, _, h⟩ => absurd h (Nat.lt_irrefl _)
set_option maxRecDepth 16384 in
theorem plt_trans {p q r : Nat → Nat} (h1 : plt p q) (h2 : plt q r) : plt p r := by
  obtain ⟨k, a, b⟩ := h1
  obtain ⟨m, c, d⟩ := h2
  rcases Nat.lt_trichotomy k m with e | e | e
  · exact ⟨k, fun j hj => (a j hj).trans (c j (by omega)), by rw [← c k e]; exact b⟩
  · subst e; exact ⟨k, fun j hj => (a j hj).trans (c j hj), Nat.lt_trans b d⟩
  · exact ⟨m, fun j hj => (a j (by omega)).trans (c j hj), by rw [a m e]; exact d⟩
set_option maxRecDepth 16384 in
theorem plt_asym {p q : Nat → Nat} (h1 : plt p q) (h2 : plt q p) : False := plt_irr p (plt_trans h1 h2)
set_option maxRecDepth 16384 in
theorem fst_ne {p q : Nat → Nat} : ∀ n, (∀ j, j < n → p j = q j) ∨ ∃ k, k < n ∧ (∀ j, j < k → p j = q j) ∧ p k ≠ q k
  | 0 => .inl (fun j hj => absurd hj (Nat.not_lt_zero j))
  | n + 1 => by
    rcases fst_ne n with h | ⟨k, a, b⟩
    · by_cases e : p n = q n
      · refine .inl (fun j hj => ?_)
        by_cases ej : j = n
        · subst ej; exact e
        · exact h j (by omega)
      · exact .inr ⟨n, by omega, h, e⟩
    · exact .inr ⟨k, by omega, b⟩
set_option maxRecDepth 16384 in
theorem plt_tri {p q : Nat → Nat} {l m : Nat} (hp : ∀ j, l ≤ j → p j = 0) (hq : ∀ j, m ≤ j → q j = 0) : p = q ∨ plt p q ∨ plt q p := by
  rcases fst_ne (p := p) (q := q) (l + m) with h | ⟨k, a, b, c⟩
  · refine .inl (funext fun j => ?_)
    by_cases e : j < l + m
    · exact h j e
    · rw [hp j (by omega), hq j (by omega)]
  · rcases Nat.lt_or_gt_of_ne c with d | d
    · exact .inr (.inl ⟨k, b, d⟩)
    · exact .inr (.inr ⟨k, fun j hj => (b j hj).symm, d⟩)
set_option maxRecDepth 16384 in
theorem pth_pos {p : Nat → Nat} {l j : Nat} (h : pth p l) (hj : j < l) : 47 ≤ p j ∧ p j ≤ 122 := chr_pos (h.2.2.1 j hj)
set_option maxRecDepth 16384 in
theorem pth_len {p : Nat → Nat} {l m : Nat} (h : pth p l) (h' : pth p m) : l = m := by
  rcases Nat.lt_trichotomy l m with e | e | e
  · have := pth_pos h' e; have := h.2.2.2.1 l (Nat.le_refl _); omega
  · exact e
  · have := pth_pos h e; have := h'.2.2.2.1 m (Nat.le_refl _); omega
set_option maxRecDepth 16384 in
theorem plt_tri' {p q : Nat → Nat} {l m : Nat} (hp : pth p l) (hq : pth q m) : p = q ∨ plt p q ∨ plt q p := plt_tri hp.2.2.2.1 hq.2.2.2.1
/-! what is below p stands next to it -/
set_option maxRecDepth 16384 in
theorem blw_next {p q r : Nat → Nat} {l m : Nat} (hp : pth p l) (hq : pth q m) (h1 : plt p q) (h2 : plt q r) (hb : blw p l r) : blw p l q := by
  obtain ⟨k, a, b⟩ := h1
  have rq : ¬ plt r q := fun h => plt_asym h h2
  rcases Nat.lt_trichotomy k l with e | e | e
  · exact absurd ⟨k, fun j hj => (hb.1 j (by omega)).trans (a j hj), by rw [hb.1 k e]; exact b⟩ rq
  · subst e
    refine ⟨fun j hj => (a j hj).symm, ?_⟩
    have km : k < m := by
      apply Classical.byContradiction
      intro z
      have := hq.2.2.2.1 k (by omega)
      omega
    have c := hq.2.2.1 k km
    unfold chr at c
    rcases c with c | c
    · exact c
    · exact absurd ⟨k, fun j hj => (hb.1 j hj).trans (a j hj), by rw [hb.2]; omega⟩ rq
  · have z : q l = 0 := by rw [← a l e]; exact hp.2.2.2.1 l (Nat.le_refl _)
    have : ¬ l < m := fun w => by have := pth_pos hq w; omega
    have := hq.2.2.2.1 k (by omega)
    omega
set_option maxRecDepth 16384 in
theorem blw_gt {p r : Nat → Nat} {l : Nat} (hp : pth p l) (hb : blw p l r) : plt p r := ⟨l, fun j hj => (hb.1 j hj).symm, by rw [hb.2, hp.2.2.2.1 l (Nat.le_refl _)]; decide⟩
set_option maxRecDepth 16384 in
theorem cutP_lt {p : Nat → Nat} {k j : Nat} (h : j < k) : cutP p k j = p j := if_pos h
set_option maxRecDepth 16384 in
theorem cutP_ge {p : Nat → Nat} {k j : Nat} (h : k ≤ j) : cutP p k j = 0 := if_neg (by omega)
set_option maxRecDepth 16384 in
theorem cutP_all {p : Nat → Nat} {l : Nat} (h : pth p l) : cutP p l = p := by
  funext j
  by_cases e : j < l
  · exact cutP_lt e
  · rw [cutP_ge (by omega), h.2.2.2.1 j (by omega)]
/-! the signs before a slash are a path -/
set_option maxRecDepth 16384 in
theorem pth_cut {p : Nat → Nat} {l k : Nat} (h : pth p l) (hk : k < l) (e : p k = 47) : pth (cutP p k) k := by
  obtain ⟨h1, h2, h3, h4, h5, h6, h7⟩ := h
  have k0 : k ≠ 0 := fun z => by subst z; exact h5 e
  refine ⟨by omega, by omega, fun j hj => by rw [cutP_lt hj]; exact h3 j (by omega), fun j hj => cutP_ge hj, by rw [cutP_lt (by omega)]; exact h5, ?_, fun j hj ej => ?_⟩
  · rw [cutP_lt (by omega)]
    intro z
    have := h7 (k - 1) (by omega) z
    rw [show k - 1 + 1 = k by omega] at this
    exact this e
  · rw [cutP_lt (by omega)] at ej
    rw [cutP_lt (by omega)]; exact h7 j (by omega) ej
set_option maxRecDepth 16384 in
theorem blw_cut {p : Nat → Nat} {l k : Nat} (hk : k < l) (e : p k = 47) : blw (cutP p k) k p := ⟨fun j hj => (cutP_lt hj).symm, e⟩
/-- how long the path one name shorter is; 0: there is none -/
def homeL (p : Nat → Nat) : Nat → Nat
  | 0 => 0
  | k + 1 => if p k = 47 then k else homeL p k
set_option maxRecDepth 16384 in
theorem home_lt {p : Nat → Nat} : ∀ k, homeL p k ≤ k ∧ (0 < k → homeL p k < k)
  | 0 => ⟨Nat.le_refl _, fun h => absurd h (Nat.lt_irrefl _)⟩
  | k + 1 => by
    have := home_lt (p := p) k
    unfold homeL
    split <;> omega
set_option maxRecDepth 16384 in
theorem home_is {p : Nat → Nat} : ∀ k, homeL p k ≠ 0 → p (homeL p k) = 47
  | 0, h => absurd rfl h
  | k + 1, h => by
    unfold homeL at h ⊢
    by_cases e : p k = 47
    · rw [if_pos e]; exact e
    · rw [if_neg e] at h ⊢; exact home_is k h
set_option maxRecDepth 16384 in
theorem home_no {p : Nat → Nat} : ∀ k j, homeL p k < j → j < k → p j ≠ 47
  | 0, j, _, h => absurd h (Nat.not_lt_zero j)
  | k + 1, j, h1, h2 => by
    unfold homeL at h1
    by_cases e : p k = 47
    · rw [if_pos e] at h1; omega
    · rw [if_neg e] at h1
      by_cases ej : j = k
      · subst ej; exact e
      · exact home_no k j h1 (by omega)
