/-! A RECORD READ, the reference's -/
/-- the reference's yard but for its journal -/
def RYb (h : px_H) (q : Nat) (S : yS) : Prop :=
  (∃ bl, h.2[621]? = some (.inr (1, 2, .inl bl)) ∧ bl q = nI (yB S)) ∧ (∃ D, h.2[622]? = some (.inr (2, 122, .inr (.inl D))) ∧ ∀ k, k < yB S → D (61 * q + k) = yD S k) ∧
  (∃ fr sz bt us U, h.2[623]? = some (.inr (1, 122, .inl fr)) ∧ h.2[624]? = some (.inr (1, 122, .inl sz)) ∧ h.2[625]? = some (.inr (1, 80000, .inl bt)) ∧ h.2[626]? = some (.inr (1, 2, .inl us)) ∧ us q = nI U ∧ (U ≤ yR S ∧ U = sumY (yL S) (yB S)) ∧ ∀ k, k < yB S → sz (61 * q + k) = nI (yL S k) ∧ ∃ u, fr (61 * q + k) = nI u ∧ (u + yL S k ≤ U ∧ u = sumY (yL S) k) ∧ ∀ m, m < yL S k → bt (40000 * q + u + m) = yJ S (yP S k + m)) ∧
  (∃ kk, h.2[629]? = some (.inr (1, 2, .inl kk)) ∧ kk q = nI (yK S)) ∧ (∃ ky, h.2[630]? = some (.inr (2, 120, .inr (.inl ky))) ∧ ∀ k, k < yK S → ky (60 * q + k) = yX S k) ∧ (∃ kl, h.2[631]? = some (.inr (2, 120, .inr (.inl kl))) ∧ ∀ k, k < yK S → kl (60 * q + k) = yE S k) ∧
  (∃ G, h.2[627]? = some (.inr (2, 16, .inr (.inl G))) ∧ ∀ j, j < 8 → yT S j = true → G (8 * q + j) = yG S j) ∧ ∃ T, h.2[628]? = some (.inr (3, 16, .inl T)) ∧ ∀ j, j < 8 → T (8 * q + j) = if yT S j = true then 1 else 0
set_option maxRecDepth 16384 in
theorem RY_b {h : px_H} {q : Nat} {S : yS} : RY h q S ↔ (∃ J, h.2[632]? = some (.inr (1, 80000, .inl J)) ∧ ∀ j, j < yR S → J (40000 * q + j) = yJ S j) ∧ (∃ W, h.2[633]? = some (.inr (1, 2, .inl W)) ∧ W q = nI (yR S)) ∧ (∃ C, h.2[634]? = some (.inr (1, 2, .inl C)) ∧ C q = nI (yC S)) ∧ RYb h q S := Iff.rfl
def rbA (r : Nat) : Prop := r = 619 ∨ r = 636 ∨ 621 ≤ r ∧ r ≤ 631
set_option maxRecDepth 16384 in
theorem RYb_frm {h h' : px_H} {q : Nat} {S : yS} (c : RYb h q S) (e : ∀ r, 621 ≤ r → r ≤ 631 → h'.2[r]? = h.2[r]?) : RYb h' q S := by
  obtain ⟨⟨bl, d1, d2⟩, ⟨D, e1, e2⟩, ⟨fr, sz, bt, us, U, f1, f2, f3, f4, f5⟩, ⟨kk, g1, g2⟩, ⟨ky, h1, h2⟩, ⟨kl, i1, i2⟩, ⟨G, j1, j2⟩, T, k1, k2⟩ := c
  have z : ∀ {r : Nat} {x : px_C}, h.2[r]? = some x → 621 ≤ r → r ≤ 631 → h'.2[r]? = some x := fun ee a b => (e _ a b).trans ee
  exact ⟨⟨bl, z d1 (by decide) (by decide), d2⟩, ⟨D, z e1 (by decide) (by decide), e2⟩, ⟨fr, sz, bt, us, U, z f1 (by decide) (by decide), z f2 (by decide) (by decide), z f3 (by decide) (by decide), z f4 (by decide) (by decide), f5⟩, ⟨kk, z g1 (by decide) (by decide), g2⟩, ⟨ky, z h1 (by decide) (by decide), h2⟩, ⟨kl, z i1 (by decide) (by decide), i2⟩, ⟨G, z j1 (by decide) (by decide), j2⟩, T, z k1 (by decide) (by decide), k2⟩
/-- the other yard stands -/
def othB (h h' : px_H) (q : Nat) : Prop := ∀ q2 S2, q2 < 2 → q2 ≠ q → WFy S2 → RYb h q2 S2 → RYb h' q2 S2
set_option maxRecDepth 16384 in
theorem othB_refl (h : px_H) (q : Nat) : othB h h q := fun _ _ _ _ _ x => x
set_option maxRecDepth 16384 in
theorem othB_trans {h h' h'' : px_H} {q : Nat} (a : othB h h' q) (b : othB h' h'' q) : othB h h'' q := fun q2 S2 a1 a2 a3 x => b q2 S2 a1 a2 a3 (a q2 S2 a1 a2 a3 x)
section ACT
variable {sx : Nat × (Nat → Int32)} {h : px_H} {q : Nat} {S : yS} {V row : Nat → Int32} {Q : px_O → px_H → Prop}
/-- a record is acted on: what comes out -/
def actO (h h' : px_H) (q : Nat) (S' : yS) : Prop := RYb h' q S' ∧ othB h h' q ∧ frm rbA h h' ∧ (shape h → shape h') ∧ ∃ V', h'.2[619]? = some (.inl (11, modF V')) ∧ ∀ k, k ≠ 17 → V' k = fI h 619 k
set_option maxRecDepth 16384 in
theorem rb_blob {c : Nat} {d bb bt' : Nat → Int32} {Dg : Nat → Int64} {fr sz bt us bl : Nat → Int32} {U : Nat} (hl : 668 < h.2.length) (hw : WFy S) (hq : q < 2) (rb : RYb h q S) (hd : ∀ k, k < c → d k = bb k) (h3 : yR S + (6 + c) ≤ 40000)
    (d1 : h.2[621]? = some (.inr (1, 2, .inl bl))) (e1 : h.2[622]? = some (.inr (2, 122, .inr (.inl Dg)))) (f1 : h.2[623]? = some (.inr (1, 122, .inl fr))) (f2 : h.2[624]? = some (.inr (1, 122, .inl sz))) (f3 : h.2[625]? = some (.inr (1, 80000, .inl bt))) (f4 : h.2[626]? = some (.inr (1, 2, .inl us))) (f5 : us q = nI U) (f6 : U ≤ yR S ∧ U = sumY (yL S) (yB S)) (ub : wroteM bt bt' (40000 * q + U) d c)
    (f7 : ∀ k, k < yB S → sz (61 * q + k) = nI (yL S k) ∧ ∃ u, fr (61 * q + k) = nI u ∧ (u + yL S k ≤ U ∧ u = sumY (yL S) k) ∧ ∀ m, m < yL S k → bt (40000 * q + u + m) = yJ S (yP S k + m)) :
    ∀ H, H = ablH h (px_up Dg (61 * q + yB S) (dig bb c)) (px_up fr (61 * q + yB S) (nI U)) (px_up sz (61 * q + yB S) (nI c)) bt' (px_up us q (nI (U + c))) (px_up bl q (nI (yB S + 1))) →
      RYb H q (yKeep S bb c) ∧ othB h H q ∧ frm rbA h H ∧ (shape h → shape H) := by
  intro H hH
  obtain ⟨v1, v2, v3, v4, v5, v6, v7⟩ := hw
  have z22 : H.2[622]? = some (.inr (2, 122, .inr (.inl (px_up Dg (61 * q + yB S) (dig bb c))))) := by rw [hH]; unfold ablH; rw [wr_at, if_neg (by decide), wr_at, if_neg (by decide), wr_at, if_neg (by decide), wr_at, if_neg (by decide), wr_at, if_neg (by decide), wr_at, if_pos rfl, if_pos (by omega)]
  have z23 : H.2[623]? = some (.inr (1, 122, .inl (px_up fr (61 * q + yB S) (nI U)))) := by rw [hH]; unfold ablH; rw [wr_at, if_neg (by decide), wr_at, if_neg (by decide), wr_at, if_neg (by decide), wr_at, if_neg (by decide), wr_at, if_pos rfl, if_pos (by simp only [px_wr_len]; omega)]
  have z24 : H.2[624]? = some (.inr (1, 122, .inl (px_up sz (61 * q + yB S) (nI c)))) := by rw [hH]; unfold ablH; rw [wr_at, if_neg (by decide), wr_at, if_neg (by decide), wr_at, if_neg (by decide), wr_at, if_pos rfl, if_pos (by simp only [px_wr_len]; omega)]
  have z25 : H.2[625]? = some (.inr (1, 80000, .inl bt')) := by rw [hH]; unfold ablH; rw [wr_at, if_neg (by decide), wr_at, if_neg (by decide), wr_at, if_pos rfl, if_pos (by simp only [px_wr_len]; omega)]
  have z26 : H.2[626]? = some (.inr (1, 2, .inl (px_up us q (nI (U + c))))) := by rw [hH]; unfold ablH; rw [wr_at, if_neg (by decide), wr_at, if_pos rfl, if_pos (by simp only [px_wr_len]; omega)]
  have z21 : H.2[621]? = some (.inr (1, 2, .inl (px_up bl q (nI (yB S + 1))))) := by rw [hH]; unfold ablH; rw [wr_at, if_pos rfl, if_pos (by simp only [px_wr_len]; omega)]
  have zr : ∀ r, ¬ (621 ≤ r ∧ r ≤ 626) → H.2[r]? = h.2[r]? := fun r hr => by rw [hH]; unfold ablH; rw [wr_at, if_neg (by omega), wr_at, if_neg (by omega), wr_at, if_neg (by omega), wr_at, if_neg (by omega), wr_at, if_neg (by omega), wr_at, if_neg (by omega)]
  have z : ∀ {r : Nat} {x : px_C}, h.2[r]? = some x → ¬ (621 ≤ r ∧ r ≤ 626) → H.2[r]? = some x := fun e a => by rw [zr _ a]; exact e
  obtain ⟨⟨bl0, d1', d2⟩, ⟨D0, e1', e2⟩, -, ⟨kk, g1, g2⟩, ⟨ky, h1, h2⟩, ⟨kl, i1, i2⟩, ⟨G, j1, j2⟩, T, k1, k2⟩ := rb
  cases d1.symm.trans d1'
  cases e1.symm.trans e1'
  refine ⟨⟨⟨_, z21, up_same _ _ _⟩, ⟨_, z22, fun k hk => ?_⟩, ⟨_, _, _, _, U + c, z23, z24, z25, z26, up_same _ _ _, ?_, fun k hk => ?_⟩, ⟨kk, z g1 (by omega), g2⟩, ⟨ky, z h1 (by omega), h2⟩, ⟨kl, z i1 (by omega), i2⟩, ⟨G, z j1 (by omega), j2⟩, T, z k1 (by omega), k2⟩, ?_, ?_, fun hS => ?_⟩
  · show px_up Dg (61 * q + yB S) (dig bb c) (61 * q + k) = px_up (yD S) (yB S) (dig bb c) k
    by_cases e : k = yB S
    · rw [e, up_same, up_same]
    · rw [up_ne (by omega), up_ne e]; exact e2 k (by have : k < yB S + 1 := hk; omega)
  · show U + c ≤ yR S + (6 + c) ∧ U + c = sumY (px_up (yL S) (yB S) c) (yB S + 1)
    rw [sumY_new]; omega
  · show px_up sz (61 * q + yB S) (nI c) (61 * q + k) = nI (px_up (yL S) (yB S) c k) ∧ ∃ u, px_up fr (61 * q + yB S) (nI U) (61 * q + k) = nI u ∧ (u + px_up (yL S) (yB S) c k ≤ U + c ∧ u = sumY (px_up (yL S) (yB S) c) k) ∧ ∀ m, m < px_up (yL S) (yB S) c k → bt' (40000 * q + u + m) = (addJ S (6 + c) (recB 1 c bb)).2.1 (px_up (yP S) (yB S) (yR S + 5) k + m)
    by_cases e : k = yB S
    · rw [e, up_same, up_same, up_same, up_same]
      refine ⟨rfl, U, rfl, ⟨Nat.le_refl _, by rw [sumY_old (Nat.le_refl _)]; exact f6.2⟩, fun m hm => ?_⟩
      rw [ub.2 m hm, addJ_new (by omega), show yR S + 5 + m - yR S = 5 + m by omega, rec_d hm, hd m hm]
    · rw [up_ne (by omega), up_ne e, up_ne (by omega), up_ne e]
      obtain ⟨x1, u0, x2, x3, x4⟩ := f7 k (by have : k < yB S + 1 := hk; omega)
      refine ⟨x1, u0, x2, ⟨by omega, by rw [sumY_old (by have : k < yB S + 1 := hk; omega)]; exact x3.2⟩, fun m hm => ?_⟩
      have := v6 k (by have : k < yB S + 1 := hk; omega)
      rw [ub.1 _ (by omega), x4 m hm, addJ_old (by omega)]
  · intro q2 S2 hq2 hne w2 c9
    obtain ⟨⟨bl', d1', d2'⟩, ⟨D', e1', e2'⟩, ⟨fr', sz', by', us', U', f1', f2', f3', f4', f5', f6', f7'⟩, ⟨kk', g1', g2'⟩, ⟨ky', h1', h2'⟩, ⟨kl', i1', i2'⟩, ⟨G', j1', j2'⟩, T', k1', k2'⟩ := c9
    cases d1.symm.trans d1'
    cases e1.symm.trans e1'
    cases f1.symm.trans f1'
    cases f2.symm.trans f2'
    cases f3.symm.trans f3'
    cases f4.symm.trans f4'
    obtain ⟨r1, r2, r3, r4, r5, r6, r7⟩ := w2
    refine ⟨⟨_, z21, by rw [up_ne hne]; exact d2'⟩, ⟨_, z22, fun k hk => by rw [up_ne (by omega)]; exact e2' k hk⟩, ⟨_, _, _, _, U', z23, z24, z25, z26, by rw [up_ne hne]; exact f5', f6', fun k hk => ?_⟩, ⟨kk', z g1' (by omega), g2'⟩, ⟨ky', z h1' (by omega), h2'⟩, ⟨kl', z i1' (by omega), i2'⟩, ⟨G', z j1' (by omega), j2'⟩, T', z k1' (by omega), k2'⟩
    obtain ⟨x1, u0, x2, x3, x4⟩ := f7' k hk
    refine ⟨by rw [up_ne (by omega)]; exact x1, u0, by rw [up_ne (by omega)]; exact x2, x3, fun m hm => ?_⟩
    rw [ub.1 _ (by omega)]; exact x4 m hm
  · rw [hH]; unfold ablH
    exact frm_wr (frm_wr (frm_wr (frm_wr (frm_wr (frm_wr (frm_refl _ _) (.inr (.inr ⟨by decide, by decide⟩))) (.inr (.inr ⟨by decide, by decide⟩))) (.inr (.inr ⟨by decide, by decide⟩))) (.inr (.inr ⟨by decide, by decide⟩))) (.inr (.inr ⟨by decide, by decide⟩))) (.inr (.inr ⟨by decide, by decide⟩))
  · rw [hH]; unfold ablH
    refine shape_wr (shape_wr (shape_wr (shape_wr (shape_wr (shape_wr hS ?_) ?_) ?_) ?_) ?_) ?_ <;> rfl
/-! tags other than they were -/
set_option maxRecDepth 16384 in
theorem rb_tag {T' : Nat → Int32} {G' : Nat → Int64} {T : Nat → Int32} {G : Nat → Int64} {S' : yS} (hl : 668 < h.2.length) (rb : RYb h q S) (e1 : S'.2.1 = S.2.1) (e2 : S'.2.2.1 = S.2.2.1) (e3 : yR S ≤ yR S') (e4 : ∀ k m, k < yB S → m < yL S k → yJ S' (yP S k + m) = yJ S (yP S k + m)) (hT : h.2[628]? = some (.inr (3, 16, .inl T))) (hG : h.2[627]? = some (.inr (2, 16, .inr (.inl G))))
    (t1 : ∀ j, j < 8 → T' (8 * q + j) = if yT S' j = true then 1 else 0) (t2 : ∀ j, j < 8 → yT S' j = true → G' (8 * q + j) = yG S' j) (t3 : ∀ q2 j, q2 < 2 → q2 ≠ q → j < 8 → T' (8 * q2 + j) = T (8 * q2 + j) ∧ G' (8 * q2 + j) = G (8 * q2 + j)) :
    ∀ H, H = px_wr (px_wr h 628 (.inr (3, 16, .inl T'))) 627 (.inr (2, 16, .inr (.inl G'))) → RYb H q S' ∧ othB h H q ∧ frm rbA h H ∧ (shape h → shape H) := by
  intro H hH
  have z28 : H.2[628]? = some (.inr (3, 16, .inl T')) := by rw [hH, wr_at, if_neg (by decide), wr_at, if_pos rfl, if_pos (by omega)]
  have z27 : H.2[627]? = some (.inr (2, 16, .inr (.inl G'))) := by rw [hH, wr_at, if_pos rfl, if_pos (by rw [px_wr_len]; omega)]
  have z : ∀ {r : Nat} {x : px_C}, h.2[r]? = some x → r ≠ 627 → r ≠ 628 → H.2[r]? = some x := fun e a b => by rw [hH, wr_at, if_neg (fun q => a q.symm), wr_at, if_neg (fun q => b q.symm)]; exact e
  have eB : yB S' = yB S := by show S'.2.1.1 = S.2.1.1; rw [e1]
  have eD : yD S' = yD S := by show S'.2.1.2.1 = S.2.1.2.1; rw [e1]
  have eP : yP S' = yP S := by show S'.2.1.2.2.1 = S.2.1.2.2.1; rw [e1]
  have eL : yL S' = yL S := by show S'.2.1.2.2.2 = S.2.1.2.2.2; rw [e1]
  have eK : yK S' = yK S := by show S'.2.2.1.1 = S.2.2.1.1; rw [e2]
  have eX : yX S' = yX S := by show S'.2.2.1.2.1 = S.2.2.1.2.1; rw [e2]
  have eE : yE S' = yE S := by show S'.2.2.1.2.2 = S.2.2.1.2.2; rw [e2]
  refine ⟨?_, fun q2 S2 hq2 hne w2 c9 => ?_, ?_, fun hS => ?_⟩
  · obtain ⟨⟨bl, d1, d2⟩, ⟨D, b1, b2⟩, ⟨fr, sz, bt, us, U, f1, f2, f3, f4, f5, f6, f7⟩, ⟨kk, g1, g2⟩, ⟨ky, h1, h2⟩, ⟨kl, i1, i2⟩, -, -⟩ := rb
    refine ⟨⟨bl, z d1 (by decide) (by decide), by rw [eB]; exact d2⟩, ⟨D, z b1 (by decide) (by decide), by rw [eB, eD]; exact b2⟩, ⟨fr, sz, bt, us, U, z f1 (by decide) (by decide), z f2 (by decide) (by decide), z f3 (by decide) (by decide), z f4 (by decide) (by decide), f5, ⟨Nat.le_trans f6.1 e3, by rw [f6.2]; show sumY S.2.1.2.2.2 S.2.1.1 = sumY S'.2.1.2.2.2 S'.2.1.1; rw [e1]⟩, fun k hk => ?_⟩, ⟨kk, z g1 (by decide) (by decide), by rw [eK]; exact g2⟩, ⟨ky, z h1 (by decide) (by decide), by rw [eK, eX]; exact h2⟩, ⟨kl, z i1 (by decide) (by decide), by rw [eK, eE]; exact i2⟩, ⟨G', z27, t2⟩, T', z28, t1⟩
    rw [eB] at hk
    obtain ⟨x1, u0, x2, x3, x4⟩ := f7 k hk
    rw [eL, eP]
    exact ⟨x1, u0, x2, x3, fun m hm => by rw [x4 m hm, e4 k m hk hm]⟩
  · obtain ⟨⟨bl, d1, d2⟩, ⟨D, b1, b2⟩, ⟨fr, sz, bt, us, U, f1, f2, f3, f4, f5⟩, ⟨kk, g1, g2⟩, ⟨ky, h1, h2⟩, ⟨kl, i1, i2⟩, ⟨G0, j1, j2⟩, T0, k1, k2⟩ := c9
    cases hT.symm.trans k1
    cases hG.symm.trans j1
    exact ⟨⟨bl, z d1 (by decide) (by decide), d2⟩, ⟨D, z b1 (by decide) (by decide), b2⟩, ⟨fr, sz, bt, us, U, z f1 (by decide) (by decide), z f2 (by decide) (by decide), z f3 (by decide) (by decide), z f4 (by decide) (by decide), f5⟩, ⟨kk, z g1 (by decide) (by decide), g2⟩, ⟨ky, z h1 (by decide) (by decide), h2⟩, ⟨kl, z i1 (by decide) (by decide), i2⟩, ⟨G', z27, fun j hj ht => by rw [(t3 q2 j hq2 hne hj).2]; exact j2 j hj ht⟩, T', z28, fun j hj => by rw [(t3 q2 j hq2 hne hj).1]; exact k2 j hj⟩
  · rw [hH]; exact frm_wr (frm_wr (frm_refl _ _) (.inr (.inr ⟨by decide, by decide⟩))) (.inr (.inr ⟨by decide, by decide⟩))
  · rw [hH]; exact shape_la (shape_ia hS hT) (by rw [wr_at, if_neg (by decide)]; exact hG)
/-! keys other than they were -/
set_option maxRecDepth 16384 in
theorem rb_key {kk' kk : Nat → Int32} {ky' kl' ky kl : Nat → Int64} {S' : yS} (hl : 668 < h.2.length) (rb : RYb h q S) (e1 : S'.2.1 = S.2.1) (e2 : S'.2.2.2 = S.2.2.2) (e3 : yR S ≤ yR S') (e4 : ∀ k m, k < yB S → m < yL S k → yJ S' (yP S k + m) = yJ S (yP S k + m)) (h29 : h.2[629]? = some (.inr (1, 2, .inl kk))) (h30 : h.2[630]? = some (.inr (2, 120, .inr (.inl ky)))) (h31 : h.2[631]? = some (.inr (2, 120, .inr (.inl kl))))
    (t0 : kk' q = nI (yK S')) (t1 : ∀ j, j < yK S' → ky' (60 * q + j) = yX S' j) (t2 : ∀ j, j < yK S' → kl' (60 * q + j) = yE S' j) (t3 : ∀ q2 j, q2 < 2 → q2 ≠ q → j < 60 → kk' q2 = kk q2 ∧ ky' (60 * q2 + j) = ky (60 * q2 + j) ∧ kl' (60 * q2 + j) = kl (60 * q2 + j)) :
    ∀ H, H = px_wr (px_wr (px_wr h 629 (.inr (1, 2, .inl kk'))) 630 (.inr (2, 120, .inr (.inl ky')))) 631 (.inr (2, 120, .inr (.inl kl'))) → RYb H q S' ∧ othB h H q ∧ frm rbA h H ∧ (shape h → shape H) := by
  intro H hH
  have z29 : H.2[629]? = some (.inr (1, 2, .inl kk')) := by rw [hH, wr_at, if_neg (by decide), wr_at, if_neg (by decide), wr_at, if_pos rfl, if_pos (by omega)]
  have z30 : H.2[630]? = some (.inr (2, 120, .inr (.inl ky'))) := by rw [hH, wr_at, if_neg (by decide), wr_at, if_pos rfl, if_pos (by rw [px_wr_len]; omega)]
  have z31 : H.2[631]? = some (.inr (2, 120, .inr (.inl kl'))) := by rw [hH, wr_at, if_pos rfl, if_pos (by simp only [px_wr_len]; omega)]
  have z : ∀ {r : Nat} {x : px_C}, h.2[r]? = some x → r ≠ 629 → r ≠ 630 → r ≠ 631 → H.2[r]? = some x := fun e a b c => by rw [hH, wr_at, if_neg (fun q => c q.symm), wr_at, if_neg (fun q => b q.symm), wr_at, if_neg (fun q => a q.symm)]; exact e
  have eB : yB S' = yB S := by show S'.2.1.1 = S.2.1.1; rw [e1]
  have eD : yD S' = yD S := by show S'.2.1.2.1 = S.2.1.2.1; rw [e1]
  have eP : yP S' = yP S := by show S'.2.1.2.2.1 = S.2.1.2.2.1; rw [e1]
  have eL : yL S' = yL S := by show S'.2.1.2.2.2 = S.2.1.2.2.2; rw [e1]
  have eT : yT S' = yT S := by show S'.2.2.2.1 = S.2.2.2.1; rw [e2]
  have eG : yG S' = yG S := by show S'.2.2.2.2 = S.2.2.2.2; rw [e2]
  refine ⟨?_, fun q2 S2 hq2 hne w2 c9 => ?_, ?_, fun hS => ?_⟩
  · obtain ⟨⟨bl, d1, d2⟩, ⟨D, b1, b2⟩, ⟨fr, sz, bt, us, U, f1, f2, f3, f4, f5, f6, f7⟩, -, -, -, ⟨G, j1, j2⟩, T, k1, k2⟩ := rb
    refine ⟨⟨bl, z d1 (by decide) (by decide) (by decide), by rw [eB]; exact d2⟩, ⟨D, z b1 (by decide) (by decide) (by decide), by rw [eB, eD]; exact b2⟩, ⟨fr, sz, bt, us, U, z f1 (by decide) (by decide) (by decide), z f2 (by decide) (by decide) (by decide), z f3 (by decide) (by decide) (by decide), z f4 (by decide) (by decide) (by decide), f5, ⟨Nat.le_trans f6.1 e3, by rw [f6.2]; show sumY S.2.1.2.2.2 S.2.1.1 = sumY S'.2.1.2.2.2 S'.2.1.1; rw [e1]⟩, fun k hk => ?_⟩, ⟨kk', z29, t0⟩, ⟨ky', z30, t1⟩, ⟨kl', z31, t2⟩, ⟨G, z j1 (by decide) (by decide) (by decide), by rw [eT, eG]; exact j2⟩, T, z k1 (by decide) (by decide) (by decide), by rw [eT]; exact k2⟩
    rw [eB] at hk
    obtain ⟨x1, u0, x2, x3, x4⟩ := f7 k hk
    rw [eL, eP]
    exact ⟨x1, u0, x2, x3, fun m hm => by rw [x4 m hm, e4 k m hk hm]⟩
  · obtain ⟨⟨bl, d1, d2⟩, ⟨D, b1, b2⟩, ⟨fr, sz, bt, us, U, f1, f2, f3, f4, f5⟩, ⟨kk0, g1, g2⟩, ⟨ky0, h1, h2⟩, ⟨kl0, i1, i2⟩, ⟨G0, j1, j2⟩, T0, k1, k2⟩ := c9
    cases h29.symm.trans g1
    cases h30.symm.trans h1
    cases h31.symm.trans i1
    have k6 := w2.2.2.2.1
    exact ⟨⟨bl, z d1 (by decide) (by decide) (by decide), d2⟩, ⟨D, z b1 (by decide) (by decide) (by decide), b2⟩, ⟨fr, sz, bt, us, U, z f1 (by decide) (by decide) (by decide), z f2 (by decide) (by decide) (by decide), z f3 (by decide) (by decide) (by decide), z f4 (by decide) (by decide) (by decide), f5⟩, ⟨kk', z29, by rw [(t3 q2 0 hq2 hne (by decide)).1]; exact g2⟩, ⟨ky', z30, fun j hj => by rw [(t3 q2 j hq2 hne (by omega)).2.1]; exact h2 j hj⟩, ⟨kl', z31, fun j hj => by rw [(t3 q2 j hq2 hne (by omega)).2.2]; exact i2 j hj⟩, ⟨G0, z j1 (by decide) (by decide) (by decide), j2⟩, T0, z k1 (by decide) (by decide) (by decide), k2⟩
  · rw [hH]; exact frm_wr (frm_wr (frm_wr (frm_refl _ _) (.inr (.inr ⟨by decide, by decide⟩))) (.inr (.inr ⟨by decide, by decide⟩))) (.inr (.inr ⟨by decide, by decide⟩))
  · rw [hH]; exact shape_la (shape_la (shape_ia hS h29) (by rw [wr_at, if_neg (by decide)]; exact h30)) (by rw [wr_at, if_neg (by decide), wr_at, if_neg (by decide)]; exact h31)
end ACT
