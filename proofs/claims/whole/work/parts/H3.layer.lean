/-! LAYERS: items read from bytes -/
/-- names begun and signs of the last one, j signs from f on -/
def scn (B : Nat → Nat) (f : Nat) : Nat → Nat × Nat
  | 0 => (1, 0)
  | j + 1 => if B (f + j) = 47 then ((scn B f j).1 + 1, 0) else ((scn B f j).1, (scn B f j).2 + 1)
def nmS (c : Nat) : Prop := (97 ≤ c ∧ c ≤ 122) ∨ (48 ≤ c ∧ c ≤ 57)
/-- the sign j is right where it stands -/
def sgOK (B : Nat → Nat) (f j : Nat) : Prop := (B (f + j) = 47 ∧ 0 < (scn B f j).2) ∨ (¬ B (f + j) = 47 ∧ nmS (B (f + j)) ∧ (scn B f j).2 < 8)
def pathAt (B : Nat → Nat) (f l : Nat) : Prop := (∀ j, j < l → sgOK B f j) ∧ 0 < (scn B f l).2 ∧ (scn B f l).1 ≤ 4
/-- the path there -/
def patF (B : Nat → Nat) (f l : Nat) : Nat → Nat := fun j => if j < l then B (f + j) else 0
set_option maxRecDepth 16384 in
theorem scn_len {B : Nat → Nat} {f : Nat} : ∀ j, (∀ i, i < j → sgOK B f i) → j + 9 ≤ 9 * (scn B f j).1 + (scn B f j).2 ∧ (scn B f j).2 ≤ 8
  | 0, _ => ⟨by show 0 + 9 ≤ 9 * 1 + 0; omega, by show 0 ≤ 8; omega⟩
  | j + 1, h => by
    obtain ⟨a, b⟩ := scn_len j (fun i hi => h i (by omega))
    rcases h j (by omega) with ⟨e, -⟩ | ⟨e, -, c⟩
    · have : scn B f (j + 1) = ((scn B f j).1 + 1, 0) := if_pos e
      rw [this]; show j + 1 + 9 ≤ 9 * ((scn B f j).1 + 1) + 0 ∧ 0 ≤ 8; omega
    · have : scn B f (j + 1) = ((scn B f j).1, (scn B f j).2 + 1) := if_neg e
      rw [this]; show j + 1 + 9 ≤ 9 * (scn B f j).1 + ((scn B f j).2 + 1) ∧ (scn B f j).2 + 1 ≤ 8; omega
set_option maxRecDepth 16384 in
theorem scn_0 {B : Nat → Nat} {f j : Nat} (h : (scn B f j).2 = 0) : j = 0 ∨ ∃ i, j = i + 1 ∧ B (f + i) = 47 := by
  cases j with
  | zero => exact .inl rfl
  | succ i =>
    refine .inr ⟨i, rfl, ?_⟩
    apply Classical.byContradiction
    intro e
    have : scn B f (i + 1) = ((scn B f i).1, (scn B f i).2 + 1) := if_neg e
    rw [this] at h; exact absurd h (Nat.succ_ne_zero _)
set_option maxRecDepth 16384 in
theorem scn_s {B : Nat → Nat} {f j : Nat} (h : B (f + j) = 47) : (scn B f (j + 1)).2 = 0 := by
  have : scn B f (j + 1) = ((scn B f j).1 + 1, 0) := if_pos h
  rw [this]
set_option maxRecDepth 16384 in
theorem path_pth {B : Nat → Nat} {f l : Nat} (h : pathAt B f l) : pth (patF B f l) l := by
  obtain ⟨h1, h2, h3⟩ := h
  obtain ⟨a, b⟩ := scn_len l h1
  have l0 : l ≠ 0 := fun e => by subst e; exact absurd h2 (Nat.lt_irrefl _)
  have at_ : ∀ j, j < l → patF B f l j = B (f + j) := fun j hj => if_pos hj
  refine ⟨by omega, by omega, fun j hj => ?_, fun j hj => if_neg (by omega), ?_, ?_, fun j hj e => ?_⟩
  · rw [at_ j hj]
    rcases h1 j hj with ⟨e, -⟩ | ⟨-, e, -⟩
    · exact .inl e
    · unfold nmS at e; unfold chr; omega
  · rw [at_ 0 (by omega)]
    intro e
    rcases h1 0 (by omega) with ⟨-, z⟩ | ⟨z, -⟩
    · exact absurd z (Nat.lt_irrefl _)
    · exact z e
  · rw [at_ _ (by omega)]
    intro e
    have := scn_s e
    rw [show l - 1 + 1 = l by omega] at this
    omega
  · rw [at_ _ (by omega)] at e
    rw [at_ _ hj]
    intro e'
    rcases h1 (j + 1) hj with ⟨-, z⟩ | ⟨z, -⟩
    · rw [scn_s e] at z; exact absurd z (Nat.lt_irrefl _)
    · exact z e'
set_option maxRecDepth 16384 in
theorem path_35 {B : Nat → Nat} {f l : Nat} (h : pathAt B f l) : l ≤ 35 := (path_pth h).2.1
/-- the bytes of an item's file, and where the next item begins -/
def itM (B : Nat → Nat) (p : Nat) : Nat := B (p + 2 + B (p + 1)) + 256 * B (p + 2 + B (p + 1) + 1)
def itX (B : Nat → Nat) (p : Nat) : Nat := p + 4 + B (p + 1) + itM B p
def itOK (B : Nat → Nat) (L p : Nat) : Prop := 1 ≤ B p ∧ B p ≤ 4 ∧ p + 4 + B (p + 1) ≤ L ∧ pathAt B (p + 2) (B (p + 1)) ∧ (itM B p ≤ if B p = 2 then 1000 else 0) ∧ itX B p ≤ L
/-- where the i-th item begins -/
def itP (B : Nat → Nat) : Nat → Nat
  | 0 => 0
  | i + 1 => itX B (itP B i)
set_option maxRecDepth 16384 in
theorem itP_lt {B : Nat → Nat} {i : Nat} : ∀ d, itP B i + d ≤ itP B (i + d)
  | 0 => Nat.le_refl _
  | d + 1 => by
    have := itP_lt (B := B) (i := i) d
    show itP B i + (d + 1) ≤ itX B (itP B (i + d))
    unfold itX; omega
/-- a layer of N items -/
def isL (B : Nat → Nat) (L N : Nat) : Prop := (∀ i, i < N → itOK B L (itP B i)) ∧ itP B N = L
/-- what reading stops at: no item -/
def noL (B : Nat → Nat) (L N : Nat) : Prop := (∀ i, i < N → itOK B L (itP B i)) ∧ itP B N < L ∧ ¬ itOK B L (itP B N)
set_option maxRecDepth 16384 in
theorem isL_det {B : Nat → Nat} {L N N' : Nat} (h : isL B L N) (h' : isL B L N') : N = N' := by
  rcases Nat.lt_trichotomy N N' with e | e | e
  · have := itP_lt (B := B) (i := N) (N' - N)
    rw [show N + (N' - N) = N' by omega, h.2, h'.2] at this; omega
  · exact e
  · have := itP_lt (B := B) (i := N') (N - N')
    rw [show N' + (N - N') = N by omega, h.2, h'.2] at this; omega
set_option maxRecDepth 16384 in
theorem is_no {B : Nat → Nat} {L N N' : Nat} (h : isL B L N) (h' : noL B L N') : False := by
  rcases Nat.lt_trichotomy N N' with e | e | e
  · have := itP_lt (B := B) (i := N) (N' - N)
    rw [show N + (N' - N) = N' by omega, h.2] at this
    have := h'.2.1; omega
  · subst e; have := h.2; have := h'.2.1; omega
  · exact h'.2.2 (h.1 N' e)
/-- an item put to a tree -/
def itA (B : Nat → Nat) (p : Nat) (t t' : Nat × (Nat → aE)) : Prop := apR t.1 t.2 (B p) (B (p + 1)) (patF B (p + 2) (B (p + 1))) (itM B p) (fun j => nI (B (p + 4 + B (p + 1) + j))) t'.1 t'.2
/-- a layer put to a tree -/
def lyA (B : Nat → Nat) (L : Nat) (t t' : Nat × (Nat → aE)) : Prop := (∃ N, noL B L N ∧ t' = t) ∨ ∃ (N : Nat) (ts : Nat → Nat × (Nat → aE)), isL B L N ∧ ts 0 = t ∧ ts N = t' ∧ ∀ i, i < N → itA B (itP B i) (ts i) (ts (i + 1))
set_option maxRecDepth 16384 in
theorem it_m {B : Nat → Nat} {L p : Nat} (h : itOK B L p) : itM B p ≤ 1000 := by
  have := h.2.2.2.2.1
  split at this <;> omega
set_option maxRecDepth 16384 in
theorem itA_ok {B : Nat → Nat} {L p : Nat} {t t' : Nat × (Nat → aE)} (h : itOK B L p) (ht : tOK t.1 t.2) (w : itA B p t t') : tOK t'.1 t'.2 := ap_ok ht (path_pth h.2.2.2.1) (it_m h) w
set_option maxRecDepth 16384 in
theorem itA_det {B : Nat → Nat} {p : Nat} {t t1 t2 : Nat × (Nat → aE)} (ht : tOK t.1 t.2) (w1 : itA B p t t1) (w2 : itA B p t t2) : t1 = t2 := by
  obtain ⟨a, b⟩ := ap_det ht w1 w2
  exact Prod.ext a b
set_option maxRecDepth 16384 in
theorem its_ok {B : Nat → Nat} {L : Nat} {ts : Nat → Nat × (Nat → aE)} (ht : tOK (ts 0).1 (ts 0).2) : ∀ N, (∀ i, i < N → itOK B L (itP B i)) → (∀ i, i < N → itA B (itP B i) (ts i) (ts (i + 1))) → tOK (ts N).1 (ts N).2
  | 0, _, _ => ht
  | N + 1, h1, h2 => itA_ok (h1 N (by omega)) (its_ok ht N (fun i hi => h1 i (by omega)) (fun i hi => h2 i (by omega))) (h2 N (by omega))
set_option maxRecDepth 16384 in
theorem lyA_ok {B : Nat → Nat} {L : Nat} {t t' : Nat × (Nat → aE)} (ht : tOK t.1 t.2) (w : lyA B L t t') : tOK t'.1 t'.2 := by
  rcases w with ⟨N, -, rfl⟩ | ⟨N, ts, h, rfl, rfl, a⟩
  · exact ht
  · exact its_ok ht N h.1 a
set_option maxRecDepth 16384 in
theorem lyA_det {B : Nat → Nat} {L : Nat} {t t1 t2 : Nat × (Nat → aE)} (ht : tOK t.1 t.2) (w1 : lyA B L t t1) (w2 : lyA B L t t2) : t1 = t2 := by
  rcases w1 with ⟨N, h1, rfl⟩ | ⟨N, ts, h1, a1, a2, a3⟩
  · rcases w2 with ⟨N', -, rfl⟩ | ⟨N', -, h2, -⟩
    · rfl
    · exact absurd (is_no h2 h1) (fun z => z)
  · rcases w2 with ⟨N', h2, -⟩ | ⟨N', ts', h2, b1, b2, b3⟩
    · exact absurd (is_no h1 h2) (fun z => z)
    · have := isL_det h1 h2
      subst this
      have : ∀ i, i ≤ N → ts i = ts' i := by
        intro i
        induction i with
        | zero => intro _; rw [a1, b1]
        | succ i ih =>
          intro hi
          have e := ih (by omega)
          have b := b3 i (by omega)
          rw [← e] at b
          exact itA_det (its_ok (by rw [a1]; exact ht) i (fun j hj => h1.1 j (by omega)) (fun j hj => a3 j (by omega))) (a3 i (by omega)) b
      rw [← a2, ← b2]; exact this N (Nat.le_refl _)
