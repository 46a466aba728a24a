/-! COLLECT: the new history -/
def bsS (S : yS) (mk : Nat → Bool) : Nat → yS
  | 0 => y0
  | k + 1 => if mk k = true then yKeep (bsS S mk k) (blB S k) (yL S k) else bsS S mk k
def tsS (S : yS) (mk : Nat → Bool) : Nat → yS
  | 0 => bsS S mk (yB S)
  | t + 1 => if yT S t = true then yTell (tsS S mk t) t (yG S t) else tsS S mk t
def ksS (S : yS) (mk hd : Nat → Bool) : Nat → yS
  | 0 => tsS S mk 8
  | k + 1 => if hd k = true then yRem (ksS S mk hd k) (yX S k) (yE S k) (yK (ksS S mk hd k) + 1) (px_up (yX (ksS S mk hd k)) (yK (ksS S mk hd k)) (yX S k)) (px_up (yE (ksS S mk hd k)) (yK (ksS S mk hd k)) (yE S k)) else ksS S mk hd k
/-- what is told, and what it needs, is marked -/
def mkOK (S : yS) (mk : Nat → Bool) : Prop := ∀ t, t < 8 → yT S t = true → ∀ k, k < yB S → yD S k = yG S t → mk k = true ∧ ∀ nl ns pos na nv, imgOK (blB S k) (yL S k) nl ns pos na nv → ∀ i, i < nl → ∀ k', k' < yB S → yD S k' = layB (blB S k) i → mk k' = true
section ANEW
variable {S : yS} {mk hd : Nat → Bool}
set_option maxRecDepth 16384 in
theorem bs_yes {k : Nat} (e : mk k = true) : bsS S mk (k + 1) = yKeep (bsS S mk k) (blB S k) (yL S k) := if_pos e
set_option maxRecDepth 16384 in
theorem bs_no {k : Nat} (e : ¬ mk k = true) : bsS S mk (k + 1) = bsS S mk k := if_neg e
/-- a blob and where it came from -/
def frB (S B : yS) (j j' : Nat) : Prop := yD B j = yD S j' ∧ yL B j = yL S j' ∧ ∀ m, m < yL S j' → blB B j m = blB S j' m
set_option maxRecDepth 16384 in
theorem bs_all (g : goodC S) (b : blk S) (hc : cst S ≤ yR S) : ∀ k, k ≤ yB S → rch (bsS S mk k) ∧ yB (bsS S mk k) ≤ k ∧ yR (bsS S mk k) ≤ sumL (yL S) k ∧ (∀ k', k ≤ k' → k' < yB S → yR (bsS S mk k) + 5 ≤ yP S k') ∧ (∀ j, j < yB (bsS S mk k) → ∃ j', j' < k ∧ mk j' = true ∧ frB S (bsS S mk k) j j') ∧ (∀ j', j' < k → mk j' = true → ∃ j, j < yB (bsS S mk k) ∧ frB S (bsS S mk k) j j') ∧ yK (bsS S mk k) = 0 ∧ (bsS S mk k).2.2.2 = y0.2.2.2 ∧ yC (bsS S mk k) = 0 := by
  intro k
  induction k with
  | zero => intro _; exact ⟨rch_0, Nat.le_refl _, Nat.le_refl _, fun k' _ h => (b.1 k' h).1, fun j hj => absurd hj (Nat.not_lt_zero j), fun j hj => absurd hj (Nat.not_lt_zero j), rfl, rfl, rfl⟩
  | succ k ih =>
    intro hk
    obtain ⟨a1, a2, a3, a4, a5, a6, a7, a8, a9⟩ := ih (by omega)
    by_cases e : mk k = true
    · rw [bs_yes e]
      obtain ⟨g1, g2, g3, g4⟩ := g
      have gk := g3 k (by omega)
      have h60 := g1.2.2.1
      have hR := g1.1
      have sl := sumL_le (L := yL S) (n := k + 1) (yB S - (k + 1))
      rw [show k + 1 + (yB S - (k + 1)) = yB S by omega] at sl
      have sk : sumL (yL S) (k + 1) = sumL (yL S) k + (6 + yL S k) := rfl
      have hcs : sumL (yL S) (yB S) ≤ cst S := by unfold cst; omega
      have hP := g1.2.2.2.2.2.1 k (by omega)
      have nd : ¬ hasD (bsS S mk k) (dig (blB S k) (yL S k)) := fun ⟨j, hj, ej⟩ => by
        obtain ⟨j', b1, b2, b3⟩ := a5 j hj
        rw [← gk.2, b3.1] at ej
        have := g1.2.2.2.2.1 j' k (by omega) (by omega) ej
        omega
      have st : stp (bsS S mk k) (yKeep (bsS S mk k) (blB S k) (yL S k)) := .inl ⟨_, _, rfl, nd, by omega, by omega, gk.1, fun m hm => g1.2.2.2.2.2.2 _ (by omega)⟩
      have mB := stp_more (rch_good a1).1 st
      have nR : yR (yKeep (bsS S mk k) (blB S k) (yL S k)) = yR (bsS S mk k) + (6 + yL S k) := rfl
      have nB : yB (yKeep (bsS S mk k) (blB S k) (yL S k)) = yB (bsS S mk k) + 1 := rfl
      have old : ∀ j j', j < yB (bsS S mk k) → frB S (bsS S mk k) j j' → frB S (yKeep (bsS S mk k) (blB S k) (yL S k)) j j' := fun j j' hj f => by
        obtain ⟨m1, m2, m3⟩ := mB.2 j hj
        exact ⟨m1.trans f.1, m2.trans f.2.1, fun m hm => (m3 m (by rw [f.2.1]; exact hm)).trans (f.2.2 m hm)⟩
      have new : frB S (yKeep (bsS S mk k) (blB S k) (yL S k)) (yB (bsS S mk k)) k := by
        refine ⟨?_, up_same _ _ _, fun m hm => ?_⟩
        · rw [gk.2]; exact up_same _ _ _
        · show (addJ (bsS S mk k) (6 + yL S k) (recB 1 (yL S k) (blB S k))).2.1 (px_up (yP (bsS S mk k)) (yB (bsS S mk k)) (yR (bsS S mk k) + 5) (yB (bsS S mk k)) + m) = _
          rw [up_same, Nat.add_assoc, addJ_new (Nat.le_add_right _ _), Nat.add_sub_cancel_left, rec_d hm]
      refine ⟨rch_stp a1 st, by omega, by omega, fun k' h1 h2 => ?_, fun j hj => ?_, fun j' hj' mj => ?_, a7, a8, a9⟩
      · have := b.2 k k' (by omega) h2
        have := a4 k (Nat.le_refl _) (by omega)
        omega
      · by_cases ej : j = yB (bsS S mk k)
        · subst ej; exact ⟨k, by omega, e, new⟩
        · obtain ⟨j', b1, b2, b3⟩ := a5 j (by omega)
          exact ⟨j', by omega, b2, old j j' (by omega) b3⟩
      · by_cases ej : j' = k
        · subst ej; exact ⟨yB (bsS S mk j'), by omega, new⟩
        · obtain ⟨j, b1, b2⟩ := a6 j' (by omega) mj
          exact ⟨j, by omega, old j j' b1 b2⟩
    · rw [bs_no e]
      have sk : sumL (yL S) (k + 1) = sumL (yL S) k + (6 + yL S k) := rfl
      refine ⟨a1, by omega, by omega, fun k' h1 h2 => a4 k' (by omega) h2, fun j hj => ?_, fun j' hj' mj => ?_, a7, a8, a9⟩
      · obtain ⟨j', b1, b2⟩ := a5 j hj
        exact ⟨j', by omega, b2⟩
      · by_cases ej : j' = k
        · subst ej; exact absurd mj e
        · exact a6 j' (by omega) mj
set_option maxRecDepth 16384 in
theorem moreB_rf (S : yS) : moreB S S := ⟨Nat.le_refl _, fun _ _ => ⟨rfl, rfl, fun _ _ => rfl⟩⟩
set_option maxRecDepth 16384 in
theorem ts_more (r : WFy (bsS S mk (yB S))) : ∀ t, moreB (bsS S mk (yB S)) (tsS S mk t) ∧ (tsS S mk t).2.1 = (bsS S mk (yB S)).2.1 ∧ yR (bsS S mk (yB S)) ≤ yR (tsS S mk t) ∧ ∀ j, j < yR (bsS S mk (yB S)) → yJ (tsS S mk t) j = yJ (bsS S mk (yB S)) j
  | 0 => ⟨moreB_rf _, rfl, Nat.le_refl _, fun _ _ => rfl⟩
  | t + 1 => by
    obtain ⟨a, b, c, d⟩ := ts_more r t
    by_cases e : yT S t = true
    · have en : tsS S mk (t + 1) = yTell (tsS S mk t) t (yG S t) := if_pos e
      rw [en]
      have j' : ∀ j, j < yR (bsS S mk (yB S)) → yJ (yTell (tsS S mk t) t (yG S t)) j = yJ (bsS S mk (yB S)) j := fun j hj => (addJ_old (by omega)).trans (d j hj)
      exact ⟨moreB_same r b j', b, Nat.le_trans c (Nat.le_add_right _ _), j'⟩
    · have en : tsS S mk (t + 1) = tsS S mk t := if_neg e
      rw [en]; exact ⟨a, b, c, d⟩
set_option maxRecDepth 16384 in
theorem ts_all (g : goodC S) (b : blk S) (hc : cst S ≤ yR S) (hm : mkOK S mk) : ∀ t, t ≤ 8 → rch (tsS S mk t) ∧ (tsS S mk t).2.1 = (bsS S mk (yB S)).2.1 ∧ yK (tsS S mk t) = 0 ∧ yR (tsS S mk t) ≤ sumL (yL S) (yB S) + 15 * cntT (yT S) t ∧ (∀ j, j < t → yT (tsS S mk t) j = yT S j ∧ (yT S j = true → yG (tsS S mk t) j = yG S j)) ∧ (∀ j, t ≤ j → yT (tsS S mk t) j = false) ∧ yC (tsS S mk t) = 0 := by
  intro t
  induction t with
  | zero =>
    intro _
    obtain ⟨a1, a2, a3, a4, a5, a6, a7, a8, a9⟩ := bs_all (mk := mk) g b hc (yB S) (Nat.le_refl _)
    exact ⟨a1, rfl, a7, a3, fun j hj => absurd hj (Nat.not_lt_zero j), fun j _ => by show (bsS S mk (yB S)).2.2.2.1 j = false; rw [a8]; rfl, a9⟩
  | succ t ih =>
    intro ht
    obtain ⟨a1, a2, a3, a4, a5, a6, a7⟩ := ih (by omega)
    have sk : cntT (yT S) (t + 1) = cntT (yT S) t + (if yT S t = true then 1 else 0) := rfl
    by_cases e : yT S t = true
    · have en : tsS S mk (t + 1) = yTell (tsS S mk t) t (yG S t) := if_pos e
      rw [en]
      rw [if_pos e] at sk
      have cl := cnT_mono (T := yT S) (n := t + 1) (8 - (t + 1))
      rw [show t + 1 + (8 - (t + 1)) = 8 by omega] at cl
      obtain ⟨-, -, -, -, -, b6, -⟩ := bs_all (mk := mk) g b hc (yB S) (Nat.le_refl _)
      have hcs : sumL (yL S) (yB S) + 15 * cntT (yT S) 8 ≤ cst S := by unfold cst; omega
      have hR := g.1.1
      have eB : yB (tsS S mk t) = yB (bsS S mk (yB S)) := by show (tsS S mk t).2.1.1 = _; rw [a2]
      have eD : ∀ k, yD (tsS S mk t) k = yD (bsS S mk (yB S)) k := fun k => by show (tsS S mk t).2.1.2.1 k = _; rw [a2]
      have eL : ∀ k, yL (tsS S mk t) k = yL (bsS S mk (yB S)) k := fun k => by show (tsS S mk t).2.1.2.2.2 k = _; rw [a2]
      have mB := (ts_more (S := S) (mk := mk) (rch_good (bs_all (mk := mk) g b hc (yB S) (Nat.le_refl _)).1).1 t).1
      have hI : imgIn (tsS S mk t) (yG S t) := by
        refine moreB_img mB ?_
        obtain ⟨k, k1, k2, nl, ns, pos, na, nv, k3, k4⟩ := g.2.2.2 t (by omega) e
        obtain ⟨m1, m2⟩ := hm t (by omega) e k k1 k2
        obtain ⟨j, j1, j2, j3, j4⟩ := b6 k k1 m1
        have l3 := img_lay k3
        refine ⟨j, j1, j2.trans k2, nl, ns, pos, na, nv, by rw [j3]; exact img_congr k3 j4, fun i hi => ?_⟩
        rw [layB_congr (l := yL S k) (by omega) j4]
        obtain ⟨k', k5, k6⟩ := k4 i hi
        obtain ⟨j', j5, j6, -⟩ := b6 k' k5 (m2 nl ns pos na nv k3 i hi k' k5 k6)
        exact ⟨j', j5, j6.trans k6⟩
      have st : stp (tsS S mk t) (yTell (tsS S mk t) t (yG S t)) := .inr (.inl ⟨t, _, rfl, by omega, by omega, hI⟩)
      refine ⟨rch_stp a1 st, a2, a3, ?_, fun j hj => ?_, fun j hj => ?_, a7⟩
      · show yR (tsS S mk t) + 15 ≤ _
        omega
      · by_cases ej : j = t
        · subst ej
          exact ⟨(up_same _ _ _).trans e.symm, fun _ => up_same _ _ _⟩
        · exact ⟨(up_ne ej).trans (a5 j (by omega)).1, fun x => (up_ne ej).trans ((a5 j (by omega)).2 x)⟩
      · exact (up_ne (by omega)).trans (a6 j (by omega))
    · have en : tsS S mk (t + 1) = tsS S mk t := if_neg e
      rw [en]
      rw [if_neg e] at sk
      refine ⟨a1, a2, a3, by omega, fun j hj => ?_, fun j hj => a6 j (by omega), a7⟩
      by_cases ej : j = t
      · subst ej
        rw [a6 j (Nat.le_refl _)]
        have : yT S j = false := by cases h : yT S j with
          | true => exact absurd h e
          | false => rfl
        exact ⟨this.symm, fun x => absurd x e⟩
      · exact a5 j (by omega)
set_option maxRecDepth 16384 in
theorem ks_all (g : goodC S) (b : blk S) (hc : cst S ≤ yR S) (hm : mkOK S mk) : ∀ k, k ≤ yK S → rch (ksS S mk hd k) ∧ (ksS S mk hd k).2.1 = (bsS S mk (yB S)).2.1 ∧ (ksS S mk hd k).2.2.2 = (tsS S mk 8).2.2.2 ∧ yK (ksS S mk hd k) = cntT hd k ∧ yR (ksS S mk hd k) ≤ sumL (yL S) (yB S) + 15 * cntT (yT S) 8 + 22 * cntT hd k ∧ (∀ j, j < yK (ksS S mk hd k) → ∃ j', j' < k ∧ yX (ksS S mk hd k) j = yX S j') ∧ yC (ksS S mk hd k) = 0 := by
  intro k
  induction k with
  | zero =>
    intro _
    obtain ⟨a1, a2, a3, a4, a5, a6, a7⟩ := ts_all g b hc hm 8 (Nat.le_refl _)
    exact ⟨a1, a2, rfl, a3, a4, fun j hj => by rw [show yK (ksS S mk hd 0) = 0 from a3] at hj; exact absurd hj (Nat.not_lt_zero j), a7⟩
  | succ k ih =>
    intro hk
    obtain ⟨a1, a2, a3, a4, a5, a6, a7⟩ := ih (by omega)
    have sk : cntT hd (k + 1) = cntT hd k + (if hd k = true then 1 else 0) := rfl
    by_cases e : hd k = true
    · have en : ksS S mk hd (k + 1) = yRem (ksS S mk hd k) (yX S k) (yE S k) (yK (ksS S mk hd k) + 1) (px_up (yX (ksS S mk hd k)) (yK (ksS S mk hd k)) (yX S k)) (px_up (yE (ksS S mk hd k)) (yK (ksS S mk hd k)) (yE S k)) := if_pos e
      rw [en]
      rw [if_pos e] at sk
      have cl := cnT_le (T := hd) k
      have hR := g.1.1
      have h60 := g.1.2.2.2.1
      have hcs : sumL (yL S) (yB S) + 15 * cntT (yT S) 8 + 22 * yK S = cst S := rfl
      have st : stp (ksS S mk hd k) (yRem (ksS S mk hd k) (yX S k) (yE S k) (yK (ksS S mk hd k) + 1) (px_up (yX (ksS S mk hd k)) (yK (ksS S mk hd k)) (yX S k)) (px_up (yE (ksS S mk hd k)) (yK (ksS S mk hd k)) (yE S k))) := by
        refine .inr (.inr (.inr ⟨_, _, .inr ⟨fun j hj ej => ?_, by omega, rfl⟩, by omega⟩))
        obtain ⟨j', b1, b2⟩ := a6 j hj
        rw [b2] at ej
        have := g.2.1 j' k (by omega) (by omega) ej
        omega
      refine ⟨rch_stp a1 st, a2, a3, ?_, ?_, fun j hj => ?_, a7⟩
      · show yK (ksS S mk hd k) + 1 = _
        omega
      · show yR (ksS S mk hd k) + 22 ≤ _
        omega
      · have hj' : j < yK (ksS S mk hd k) + 1 := hj
        show ∃ j', j' < k + 1 ∧ px_up (yX (ksS S mk hd k)) (yK (ksS S mk hd k)) (yX S k) j = yX S j'
        by_cases ej : j = yK (ksS S mk hd k)
        · rw [ej, up_same]; exact ⟨k, by omega, rfl⟩
        · rw [up_ne ej]
          obtain ⟨j', b1, b2⟩ := a6 j (by omega)
          exact ⟨j', by omega, b2⟩
    · have en : ksS S mk hd (k + 1) = ksS S mk hd k := if_neg e
      rw [en]
      rw [if_neg e] at sk
      exact ⟨a1, a2, a3, by omega, by omega, fun j hj => by obtain ⟨j', b1, b2⟩ := a6 j hj; exact ⟨j', by omega, b2⟩, a7⟩
end ANEW
