/-! TREES: what every path is made of, and how many bytes there are -/
def tPA (n : Nat) (E : Nat → aE) : Prop := ∀ i, i < n → pathAt (eP (E i)) 0 (eL (E i))
set_option maxRecDepth 16384 in
theorem scn_pat {B : Nat → Nat} {f l : Nat} : ∀ j, j ≤ l → scn (patF B f l) 0 j = scn B f j
  | 0, _ => rfl
  | j + 1, h => by
    have ih := scn_pat (B := B) (f := f) (l := l) j (by omega)
    show (if patF B f l (0 + j) = 47 then ((scn (patF B f l) 0 j).1 + 1, 0) else ((scn (patF B f l) 0 j).1, (scn (patF B f l) 0 j).2 + 1)) = (if B (f + j) = 47 then ((scn B f j).1 + 1, 0) else ((scn B f j).1, (scn B f j).2 + 1))
    rw [Nat.zero_add, patF_lt (by omega), ih]
set_option maxRecDepth 16384 in
theorem pat_pat {B : Nat → Nat} {f l : Nat} (h : pathAt B f l) : pathAt (patF B f l) 0 l := by
  obtain ⟨h1, h2, h3⟩ := h
  refine ⟨fun j hj => ?_, by rw [scn_pat l (Nat.le_refl _)]; exact h2, by rw [scn_pat l (Nat.le_refl _)]; exact h3⟩
  unfold sgOK
  rw [Nat.zero_add, patF_lt hj, scn_pat j (by omega)]
  exact h1 j hj
section PURE
variable {n : Nat} {E : Nat → aE}
set_option maxRecDepth 16384 in
theorem ap_pa {k l m n' : Nat} {p : Nat → Nat} {c : Nat → Int32} {E' : Nat → aE} (h : tPA n E) (hp : pathAt p 0 l) (w : apR n E k l p m c n' E') : tPA n' E' := by
  have cut : ∀ a b, tPA (n - (b - a)) (cutE E a b) := fun a b i hi => by
    unfold cutE
    by_cases x : i < a
    · rw [if_pos x]; exact h i (by omega)
    · rw [if_neg x]; exact h _ (by omega)
  have up : ∀ (F : Nat → aE) (N j : Nat) (e : aE), tPA N F → pathAt (eP e) 0 (eL e) → tPA N (px_up F j e) := fun F N j e hF he i hi => by
    by_cases x : i = j
    · subst x; rw [up_same]; exact he
    · rw [up_ne x]; exact hF i hi
  rcases w with ⟨i, b, i1, i2, i3, i4⟩ | ⟨i1, i2, i3, i4, a, i5, rfl, rfl⟩ | ⟨-, rfl, rfl⟩
  · rcases i4 with ⟨-, rfl, rfl⟩ | ⟨-, -, rfl, rfl⟩ | ⟨-, -, rfl, rfl⟩ | ⟨-, -, -, rfl, rfl⟩ | ⟨-, -, -, rfl, rfl⟩
    · exact cut i b
    · exact cut (i + 1) b
    · exact up E _ i _ h hp
    · exact up _ _ i _ (cut (i + 1) b) hp
    · exact up E _ i _ h hp
  · intro i hi
    have ag := i5.1
    unfold insE
    by_cases x : i < a
    · rw [if_pos x]; exact h i (by omega)
    · rw [if_neg x]
      by_cases y : i = a
      · rw [if_pos y]; unfold iE; split <;> exact hp
      · rw [if_neg y]; exact h _ (by omega)
  · exact h
set_option maxRecDepth 16384 in
theorem ly_pa {B : Nat → Nat} {L : Nat} {t t' : Nat × (Nat → aE)} (h : tPA t.1 t.2) (w : lyA B L t t') : tPA t'.1 t'.2 := by
  rcases w with ⟨N, -, rfl⟩ | ⟨N, ts, il, rfl, rfl, a⟩
  · exact h
  · have : ∀ i, i ≤ N → tPA (ts i).1 (ts i).2 := by
      intro i
      induction i with
      | zero => intro _; exact h
      | succ i ih =>
        intro hi
        exact ap_pa (ih (by omega)) (pat_pat (il.1 i (by omega)).2.2.2.1) (a i (by omega))
    exact this N (Nat.le_refl _)
set_option maxRecDepth 16384 in
theorem grw_pa {S : yS} {nl : Nat} {Ly : Nat → Int64} {t : Nat × (Nat → aE)} (g : grw S nl Ly t) : tPA t.1 t.2 := by
  obtain ⟨ts, e0, e1, e⟩ := g
  have : ∀ i, i ≤ nl → tPA (ts i).1 (ts i).2 := by
    intro i
    induction i with
    | zero => intro _; rw [e0]; exact fun j hj => absurd hj (Nat.not_lt_zero j)
    | succ i ih =>
      intro hi
      obtain ⟨k, -, -, l⟩ := e i (by omega)
      exact ly_pa (ih (by omega)) l
  rw [← e1]; exact this nl (Nat.le_refl _)
set_option maxRecDepth 16384 in
theorem totN_congr {E' : Nat → aE} : ∀ n, (∀ i, i < n → eN (E' i) = eN (E i)) → totN E' n = totN E n
  | 0, _ => rfl
  | n + 1, h => by
    show totN E' n + eN (E' n) = totN E n + eN (E n)
    rw [totN_congr n (fun i hi => h i (by omega)), h n (by omega)]
set_option maxRecDepth 16384 in
theorem totN_up {e : aE} {i : Nat} : ∀ n, i < n → totN (px_up E i e) n + eN (E i) = totN E n + eN e
  | 0, h => absurd h (Nat.not_lt_zero i)
  | n + 1, h => by
    show totN (px_up E i e) n + eN (px_up E i e n) + eN (E i) = totN E n + eN (E n) + eN e
    by_cases x : i = n
    · subst x
      rw [up_same, totN_congr (E := E) i (fun j hj => by rw [up_ne (by omega)])]; omega
    · have := totN_up (e := e) n (show i < n by omega)
      rw [up_ne (by omega)]; omega
set_option maxRecDepth 16384 in
theorem eN_tot : ∀ n i, i < n → eN (E i) ≤ totN E n
  | 0, i, h => absurd h (Nat.not_lt_zero i)
  | n + 1, i, h => by
    show eN (E i) ≤ totN E n + eN (E n)
    by_cases x : i = n
    · subst x; omega
    · have := eN_tot n i (by omega); omega
set_option maxRecDepth 16384 in
theorem totN_ins {e : aE} {g : Nat} : ∀ n, g ≤ n → totN (insE E g e) (n + 1) = totN E n + eN e
  | 0, h => by
    have : g = 0 := by omega
    subst this
    show 0 + eN (insE E 0 e 0) = 0 + eN e
    rfl
  | n + 1, h => by
    show totN (insE E g e) (n + 1) + eN (insE E g e (n + 1)) = totN E n + eN (E n) + eN e
    by_cases x : g = n + 1
    · subst x
      have a : totN (insE E (n + 1) e) (n + 1) = totN E (n + 1) := totN_congr _ (fun i hi => by unfold insE; rw [if_pos hi])
      have b : insE E (n + 1) e (n + 1) = e := by unfold insE; rw [if_neg (Nat.lt_irrefl _), if_pos rfl]
      rw [a, b]; rfl
    · have b : insE E g e (n + 1) = E n := by unfold insE; rw [if_neg (by omega), if_neg (by omega)]; rfl
      rw [totN_ins n (by omega), b]; omega
set_option maxRecDepth 16384 in
theorem totN_mono : ∀ d n, totN E n ≤ totN E (n + d)
  | 0, n => Nat.le_refl _
  | d + 1, n => Nat.le_trans (totN_mono d n) (Nat.le_add_right _ _)
set_option maxRecDepth 16384 in
theorem totN_cut {a b : Nat} (hab : a ≤ b) : ∀ k, totN (cutE E a b) (a + k) + totN E b = totN E (b + k) + totN E a
  | 0 => by
    have : totN (cutE E a b) a = totN E a := totN_congr a (fun i hi => by unfold cutE; rw [if_pos hi])
    show totN (cutE E a b) a + totN E b = totN E b + totN E a
    rw [this]; omega
  | k + 1 => by
    have ih := totN_cut hab k
    have e : cutE E a b (a + k) = E (b + k) := by unfold cutE; rw [if_neg (by omega)]; congr 1; omega
    show totN (cutE E a b) (a + k) + eN (cutE E a b (a + k)) + totN E b = totN E (b + k) + eN (E (b + k)) + totN E a
    rw [e]; omega
set_option maxRecDepth 16384 in
theorem totN_cut2 {a b : Nat} (hab : a ≤ b) (hbn : b ≤ n) : totN (cutE E a b) (n - (b - a)) ≤ totN E n := by
  have h := totN_cut (E := E) hab (n - b)
  rw [show a + (n - b) = n - (b - a) by omega, show b + (n - b) = n by omega] at h
  have := totN_mono (E := E) (b - a) a
  rw [show a + (b - a) = b by omega] at this
  omega
/-- what the shell works on -/
def tSH (n : Nat) (E : Nat → aE) : Prop := tOK n E ∧ tPA n E ∧ n ≤ 40 ∧ totN E n ≤ 1000
end PURE
