/-! COLLECT: what a history gives, and the history made anew -/
def blk (S : yS) : Prop := (∀ k, k < yB S → 5 ≤ yP S k ∧ yP S k + yL S k + 1 ≤ yR S ∧ ∀ m, m < 6 + yL S k → yJ S (yP S k - 5 + m) = recB 1 (yL S k) (blB S k) m) ∧ ∀ k k', k < k' → k' < yB S → yP S k + yL S k + 6 ≤ yP S k'
def sumL (L : Nat → Nat) : Nat → Nat
  | 0 => 0
  | n + 1 => sumL L n + (6 + L n)
def cntT (T : Nat → Bool) : Nat → Nat
  | 0 => 0
  | n + 1 => cntT T n + (if T n = true then 1 else 0)
def cst (S : yS) : Nat := sumL (yL S) (yB S) + 15 * cntT (yT S) 8 + 22 * yK S
set_option maxRecDepth 16384 in
theorem sumL_congr {L L' : Nat → Nat} : ∀ n, (∀ k, k < n → L k = L' k) → sumL L n = sumL L' n
  | 0, _ => rfl
  | n + 1, h => by
    show sumL L n + (6 + L n) = sumL L' n + (6 + L' n)
    rw [sumL_congr n (fun k hk => h k (by omega)), h n (by omega)]
set_option maxRecDepth 16384 in
theorem sumL_le {L : Nat → Nat} {n : Nat} : ∀ d, sumL L n ≤ sumL L (n + d)
  | 0 => Nat.le_refl _
  | d + 1 => Nat.le_trans (sumL_le d) (Nat.le_add_right _ _)
set_option maxRecDepth 16384 in
theorem cnt_congr {T T' : Nat → Bool} : ∀ n, (∀ k, k < n → T k = T' k) → cntT T n = cntT T' n
  | 0, _ => rfl
  | n + 1, h => by
    show cntT T n + _ = cntT T' n + _
    rw [cnt_congr n (fun k hk => h k (by omega)), h n (by omega)]
set_option maxRecDepth 16384 in
theorem cnT_le {T : Nat → Bool} : ∀ n, cntT T n ≤ n
  | 0 => Nat.le_refl _
  | n + 1 => by
    have := cnT_le (T := T) n
    show cntT T n + (if T n = true then 1 else 0) ≤ n + 1
    split <;> omega
set_option maxRecDepth 16384 in
theorem cnT_mono {T : Nat → Bool} {n : Nat} : ∀ d, cntT T n ≤ cntT T (n + d)
  | 0 => Nat.le_refl _
  | d + 1 => Nat.le_trans (cnT_mono d) (Nat.le_add_right _ _)
set_option maxRecDepth 16384 in
theorem cnt_up {T : Nat → Bool} {j : Nat} {b : Bool} : ∀ n, (n ≤ j → cntT (px_up T j b) n = cntT T n) ∧ cntT (px_up T j b) n ≤ cntT T n + 1 ∧ (b = false → cntT (px_up T j b) n ≤ cntT T n)
  | 0 => ⟨fun _ => rfl, Nat.zero_le _, fun _ => Nat.le_refl _⟩
  | n + 1 => by
    obtain ⟨a, c, d⟩ := cnt_up (T := T) (j := j) (b := b) n
    show (n + 1 ≤ j → cntT (px_up T j b) n + (if px_up T j b n = true then 1 else 0) = cntT T n + (if T n = true then 1 else 0)) ∧ cntT (px_up T j b) n + (if px_up T j b n = true then 1 else 0) ≤ cntT T n + (if T n = true then 1 else 0) + 1 ∧ (b = false → cntT (px_up T j b) n + (if px_up T j b n = true then 1 else 0) ≤ cntT T n + (if T n = true then 1 else 0))
    by_cases e : n = j
    · subst e
      rw [up_same]
      have a' := a (Nat.le_refl _)
      refine ⟨fun h => absurd h (by omega), ?_, fun hb => ?_⟩
      · rw [a']; split <;> split <;> omega
      · rw [a', hb]; simp only [Bool.false_eq_true, if_false]; omega
    · rw [up_ne e]
      exact ⟨fun h => by rw [a (by omega)], by omega, fun hb => by have := d hb; omega⟩
set_option maxRecDepth 16384 in
theorem blk_0 : blk y0 := ⟨fun k hk => absurd hk (Nat.not_lt_zero k), fun _ k _ hk => absurd hk (Nat.not_lt_zero k)⟩
set_option maxRecDepth 16384 in
theorem blk_old {S S' : yS} {k : Nat} (b : blk S) (hk : k < yB S) (eP : yP S' k = yP S k) (eL : yL S' k = yL S k) (hR : yR S ≤ yR S') (hJ : ∀ j, j < yR S → yJ S' j = yJ S j) : 5 ≤ yP S' k ∧ yP S' k + yL S' k + 1 ≤ yR S' ∧ ∀ m, m < 6 + yL S' k → yJ S' (yP S' k - 5 + m) = recB 1 (yL S' k) (blB S' k) m := by
  obtain ⟨b1, b2, b3⟩ := b.1 k hk
  rw [eP, eL]
  refine ⟨b1, by omega, fun m hm => ?_⟩
  rw [hJ _ (by omega), b3 m hm]
  refine congrFun (recB_congr (fun i hi => ?_)) m
  show yJ S (yP S k + i) = yJ S' (yP S' k + i)
  rw [eP, hJ _ (by omega)]
set_option maxRecDepth 16384 in
theorem blk_same {S S' : yS} (b : blk S) (e : S'.2.1 = S.2.1) (hR : yR S ≤ yR S') (hJ : ∀ j, j < yR S → yJ S' j = yJ S j) : blk S' := by
  have eB : yB S' = yB S := by show S'.2.1.1 = _; rw [e]
  have eP : ∀ k, yP S' k = yP S k := fun k => by show S'.2.1.2.2.1 k = _; rw [e]
  have eL : ∀ k, yL S' k = yL S k := fun k => by show S'.2.1.2.2.2 k = _; rw [e]
  refine ⟨fun k hk => blk_old b (by rw [← eB]; exact hk) (eP k) (eL k) hR hJ, fun k k' h1 h2 => ?_⟩
  rw [eP, eP, eL]; exact b.2 k k' h1 (by rw [← eB]; exact h2)
set_option maxRecDepth 16384 in
theorem blk_stp {S S' : yS} (b : blk S) (h : stp S S') : blk S' := by
  obtain ⟨kd, m, d, w⟩ := stp_wr h
  have hR : yR S ≤ yR S' := by rw [w.1]; exact Nat.le_add_right _ _
  rcases h with ⟨bb, c, rfl, h1, h2, h3, h5, h4⟩ | ⟨j, v, rfl, h1, h2, h3⟩ | ⟨j, rfl, h1, h2⟩ | ⟨a, v, h1, h2⟩
  · have nP : yP (yKeep S bb c) (yB S) = yR S + 5 := up_same _ _ _
    have nL : yL (yKeep S bb c) (yB S) = c := up_same _ _ _
    have nR : yR (yKeep S bb c) = yR S + (6 + c) := rfl
    have oP : ∀ k, k < yB S → yP (yKeep S bb c) k = yP S k := fun k hk => up_ne (by omega)
    have oL : ∀ k, k < yB S → yL (yKeep S bb c) k = yL S k := fun k hk => up_ne (by omega)
    refine ⟨fun k hk => ?_, fun k k' a1 a2 => ?_⟩
    · have hk' : k < yB S + 1 := hk
      by_cases e : k = yB S
      · subst e
        rw [nP, nL, nR]
        refine ⟨by omega, by omega, fun m hm => ?_⟩
        have e1 : yJ (yKeep S bb c) (yR S + m) = recB 1 c bb m := by
          show (addJ S (6 + c) (recB 1 c bb)).2.1 (yR S + m) = _
          rw [addJ_new (Nat.le_add_right _ _), Nat.add_sub_cancel_left]
        rw [Nat.add_sub_cancel, e1]
        refine congrFun (recB_congr (fun i hi => ?_)) m
        show bb i = yJ (yKeep S bb c) (yP (yKeep S bb c) (yB S) + i)
        rw [nP]
        show _ = (addJ S (6 + c) (recB 1 c bb)).2.1 (yR S + 5 + i)
        rw [Nat.add_assoc, addJ_new (Nat.le_add_right _ _), Nat.add_sub_cancel_left, rec_d hi]
      · exact blk_old b (by omega) (oP k (by omega)) (oL k (by omega)) hR w.2.2.1
    · have a2' : k' < yB S + 1 := a2
      rw [oP k (by omega), oL k (by omega)]
      by_cases e : k' = yB S
      · subst e
        rw [nP]
        have := (b.1 k a1).2.1
        omega
      · rw [oP k' (by omega)]; exact b.2 k k' a1 (by omega)
  · exact blk_same b rfl hR w.2.2.1
  · exact blk_same b rfl hR w.2.2.1
  · refine blk_same b ?_ hR w.2.2.1
    rcases h1 with ⟨k, a1, a2, rfl⟩ | ⟨a1, a2, rfl⟩ <;> rfl
set_option maxRecDepth 16384 in
theorem cst_stp {S S' : yS} (b : cst S ≤ yR S) (h : stp S S') : cst S' ≤ yR S' := by
  unfold cst at *
  rcases h with ⟨bb, c, rfl, h1, h2, h3, h5, h4⟩ | ⟨j, v, rfl, h1, h2, h3⟩ | ⟨j, rfl, h1, h2⟩ | ⟨a, v, h1, h2⟩
  · show sumL (px_up (yL S) (yB S) c) (yB S + 1) + 15 * cntT (yT S) 8 + 22 * yK S ≤ yR S + (6 + c)
    have : sumL (px_up (yL S) (yB S) c) (yB S + 1) = sumL (yL S) (yB S) + (6 + c) := by
      show sumL (px_up (yL S) (yB S) c) (yB S) + (6 + px_up (yL S) (yB S) c (yB S)) = _
      rw [up_same, sumL_congr (yB S) (fun k hk => up_ne (by omega))]
    omega
  · have := (cnt_up (T := yT S) (j := j) (b := true) 8).2.1
    show sumL (yL S) (yB S) + 15 * cntT (px_up (yT S) j true) 8 + 22 * yK S ≤ yR S + 15
    omega
  · have := (cnt_up (T := yT S) (j := j) (b := false) 8).2.2 rfl
    show sumL (yL S) (yB S) + 15 * cntT (px_up (yT S) j false) 8 + 22 * yK S ≤ yR S + 7
    omega
  · rcases h1 with ⟨k, a1, a2, rfl⟩ | ⟨a1, a2, rfl⟩
    · show sumL (yL S) (yB S) + 15 * cntT (yT S) 8 + 22 * yK S ≤ yR S + 22
      omega
    · show sumL (yL S) (yB S) + 15 * cntT (yT S) 8 + 22 * (yK S + 1) ≤ yR S + 22
      omega
/-- a state that a history leads to -/
def rch (S : yS) : Prop := ∃ hs N, hist hs N ∧ S = hs N
set_option maxRecDepth 16384 in
theorem rch_0 : rch y0 := ⟨fun _ => y0, 0, ⟨rfl, fun i hi => absurd hi (Nat.not_lt_zero i)⟩, rfl⟩
set_option maxRecDepth 16384 in
theorem rch_stp {S S' : yS} (r : rch S) (s : stp S S') : rch S' := by
  obtain ⟨hs, N, h, rfl⟩ := r
  refine ⟨_, N + 1, hist_up h s, ?_⟩
  show S' = if N + 1 ≤ N then hs (N + 1) else S'
  rw [if_neg (by omega)]
set_option maxRecDepth 16384 in
theorem rch_ok {S : yS} (r : rch S) : yOK (sC S (yR S)) := by
  obtain ⟨hs, N, h, rfl⟩ := r
  exact ⟨hs, N, N, h, Nat.le_refl _, rfl⟩
set_option maxRecDepth 16384 in
theorem rch_good {S : yS} (r : rch S) : good S := by
  obtain ⟨hs, N, h, rfl⟩ := r
  exact hist_good h N (Nat.le_refl _)
set_option maxRecDepth 16384 in
theorem rch_blk {S : yS} (r : rch S) : blk S ∧ cst S ≤ yR S := by
  obtain ⟨hs, N, h, rfl⟩ := r
  have : ∀ i, i ≤ N → blk (hs i) ∧ cst (hs i) ≤ yR (hs i) := by
    intro i
    induction i with
    | zero => intro _; rw [h.1]; exact ⟨blk_0, Nat.le_refl _⟩
    | succ i ih => intro hi; have := ih (by omega); exact ⟨blk_stp this.1 (h.2 i (by omega)), cst_stp this.2 (h.2 i (by omega))⟩
  exact this N (Nat.le_refl _)
set_option maxRecDepth 16384 in
theorem ok_rch {S : yS} (h : yOK S) : ∃ S0, rch S0 ∧ S = sC S0 (yC S) := by
  obtain ⟨hs, N, k, h1, h2, rfl⟩ := h
  exact ⟨hs N, ⟨hs, N, h1, rfl⟩, rfl⟩
set_option maxRecDepth 16384 in
theorem ok_blk {S : yS} (h : yOK S) : blk S ∧ cst S ≤ yR S := by
  obtain ⟨S0, r, e⟩ := ok_rch h
  have := rch_blk r
  rw [e]; exact this
