/-! COLLECT: where the new records stand -/
section RECS
variable {S : yS} {mk hd : Nat → Bool}
set_option maxRecDepth 16384 in
theorem sumL_Y {L : Nat → Nat} : ∀ n, sumL L n = sumY L n + 6 * n
  | 0 => rfl
  | n + 1 => by
    show sumL L n + (6 + L n) = sumY L n + L n + 6 * (n + 1)
    rw [sumL_Y n]; omega
set_option maxRecDepth 16384 in
theorem sumL_up {L : Nat → Nat} {n c : Nat} : (∀ k, k ≤ n → sumL (px_up L n c) k = sumL L k) ∧ sumL (px_up L n c) (n + 1) = sumL L n + (6 + c) := by
  have a : ∀ k, k ≤ n → sumL (px_up L n c) k = sumL L k := fun k hk => sumL_congr k (fun j hj => up_ne (by omega))
  refine ⟨a, ?_⟩
  show sumL (px_up L n c) n + (6 + px_up L n c n) = _
  rw [a n (Nat.le_refl _), up_same]
set_option maxRecDepth 16384 in
theorem bs_pos : ∀ k, (∀ j, j < yB (bsS S mk k) → yP (bsS S mk k) j = sumL (yL (bsS S mk k)) j + 5) ∧ yR (bsS S mk k) = sumL (yL (bsS S mk k)) (yB (bsS S mk k)) ∧ sumY (yL (bsS S mk k)) (yB (bsS S mk k)) ≤ sumY (yL S) k
  | 0 => ⟨fun j hj => absurd hj (Nat.not_lt_zero j), rfl, Nat.le_refl _⟩
  | k + 1 => by
    obtain ⟨a, b, c⟩ := bs_pos k
    by_cases e : mk k = true
    · rw [bs_yes e]
      have u := sumL_up (L := yL (bsS S mk k)) (n := yB (bsS S mk k)) (c := yL S k)
      refine ⟨fun j hj => ?_, ?_, ?_⟩
      · have hj' : j < yB (bsS S mk k) + 1 := hj
        show px_up (yP (bsS S mk k)) (yB (bsS S mk k)) (yR (bsS S mk k) + 5) j = sumL (px_up (yL (bsS S mk k)) (yB (bsS S mk k)) (yL S k)) j + 5
        rw [u.1 j (by omega)]
        by_cases ej : j = yB (bsS S mk k)
        · rw [ej, up_same, b]
        · rw [up_ne ej]; exact a j (by omega)
      · show yR (bsS S mk k) + (6 + yL S k) = sumL (px_up (yL (bsS S mk k)) (yB (bsS S mk k)) (yL S k)) (yB (bsS S mk k) + 1)
        rw [u.2, b]
      · show sumY (px_up (yL (bsS S mk k)) (yB (bsS S mk k)) (yL S k)) (yB (bsS S mk k) + 1) ≤ sumY (yL S) k + yL S k
        rw [sumY_new]; omega
    · rw [bs_no e]
      exact ⟨a, b, Nat.le_trans c (Nat.le_add_right _ _)⟩
set_option maxRecDepth 16384 in
theorem ks_pos : ∀ k, yR (ksS S mk hd k) = yR (tsS S mk 8) + 22 * (yK (ksS S mk hd k) - yK (tsS S mk 8)) ∧ yK (tsS S mk 8) ≤ yK (ksS S mk hd k) ∧ (∀ i, i < yR (tsS S mk 8) → yJ (ksS S mk hd k) i = yJ (tsS S mk 8) i) ∧ ∀ j, yK (tsS S mk 8) ≤ j → j < yK (ksS S mk hd k) → ∀ m, m < 22 → yJ (ksS S mk hd k) (yR (tsS S mk 8) + 22 * (j - yK (tsS S mk 8)) + m) = recB 4 16 (keyB (yX (ksS S mk hd k) j) (yE (ksS S mk hd k) j)) m
  | 0 => ⟨by show yR (tsS S mk 8) = yR (tsS S mk 8) + 22 * (yK (tsS S mk 8) - yK (tsS S mk 8)); omega, Nat.le_refl _, fun _ _ => rfl, fun j a b => absurd a (by have : j < yK (tsS S mk 8) := b; omega)⟩
  | k + 1 => by
    obtain ⟨a, b, c, d⟩ := ks_pos k
    by_cases e : hd k = true
    · have en : ksS S mk hd (k + 1) = yRem (ksS S mk hd k) (yX S k) (yE S k) (yK (ksS S mk hd k) + 1) (px_up (yX (ksS S mk hd k)) (yK (ksS S mk hd k)) (yX S k)) (px_up (yE (ksS S mk hd k)) (yK (ksS S mk hd k)) (yE S k)) := if_pos e
      rw [en]
      refine ⟨?_, ?_, fun i hi => ?_, fun j hj1 hj2 m hm => ?_⟩
      · show yR (ksS S mk hd k) + 22 = yR (tsS S mk 8) + 22 * (yK (ksS S mk hd k) + 1 - yK (tsS S mk 8))
        omega
      · show yK (tsS S mk 8) ≤ yK (ksS S mk hd k) + 1
        omega
      · show (addJ (ksS S mk hd k) 22 (recB 4 16 (keyB (yX S k) (yE S k)))).2.1 i = _
        rw [addJ_old (by omega)]; exact c i hi
      · have hj' : j < yK (ksS S mk hd k) + 1 := hj2
        show (addJ (ksS S mk hd k) 22 (recB 4 16 (keyB (yX S k) (yE S k)))).2.1 _ = recB 4 16 (keyB (px_up (yX (ksS S mk hd k)) (yK (ksS S mk hd k)) (yX S k) j) (px_up (yE (ksS S mk hd k)) (yK (ksS S mk hd k)) (yE S k) j)) m
        by_cases ej : j = yK (ksS S mk hd k)
        · subst ej
          rw [up_same, up_same, ← a, addJ_new (Nat.le_add_right _ _), Nat.add_sub_cancel_left]
        · rw [up_ne ej, up_ne ej, addJ_old (by omega)]; exact d j hj1 (by omega) m hm
    · have en : ksS S mk hd (k + 1) = ksS S mk hd k := if_neg e
      rw [en]; exact ⟨a, b, c, d⟩
end RECS
