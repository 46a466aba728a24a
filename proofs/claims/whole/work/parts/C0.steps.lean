/-! STEPS AND HISTORIES of a yard -/
def yRem (S : yS) (a v : Int64) (K : Nat) (X F : Nat → Int64) : yS := (addJ S 22 (recB 4 16 (keyB a v)), S.2.1, (K, X, F), S.2.2.2)
def remS (S : yS) (a v : Int64) (S' : yS) : Prop := (∃ k, k < yK S ∧ yX S k = a ∧ S' = yRem S a v (yK S) (yX S) (px_up (yE S) k v)) ∨ ((∀ k, k < yK S → ¬ yX S k = a) ∧ yK S < 60 ∧ S' = yRem S a v (yK S + 1) (px_up (yX S) (yK S) a) (px_up (yE S) (yK S) v))
/-- the keys are apart -/
def WKy (S : yS) : Prop := ∀ i j, i < yK S → j < yK S → yX S i = yX S j → i = j
/-- a blob's bytes -/
def blB (S : yS) (k m : Nat) : Int32 := yJ S (yP S k + m)
/-- v is the digest of an image whose layers are there -/
def imgIn (S : yS) (v : Int64) : Prop := ∃ k, k < yB S ∧ yD S k = v ∧ ∃ nl ns pos na nv, imgOK (blB S k) (yL S k) nl ns pos na nv ∧ ∀ i, i < nl → hasD S (layB (blB S k) i)
def stp (S S' : yS) : Prop :=
  (∃ bb c, S' = yKeep S bb c ∧ ¬ hasD S (dig bb c) ∧ yB S < 60 ∧ yR S + (6 + c) ≤ 40000 ∧ c ≤ 4120 ∧ ∀ k, k < c → bb k &&& 255 = bb k) ∨
  (∃ j v, S' = yTell S j v ∧ j < 8 ∧ yR S + 15 ≤ 40000 ∧ imgIn S v) ∨
  (∃ j, S' = yUnt S j ∧ j < 8 ∧ yR S + 7 ≤ 40000) ∨
  ∃ a v, remS S a v S' ∧ yR S + 22 ≤ 40000
def y0 : yS := ((0, fun _ => 0, 0), (0, fun _ => 0, fun _ => 0, fun _ => 0), (0, fun _ => 0, fun _ => 0), (fun _ => false, fun _ => 0))
def hist (hs : Nat → yS) (N : Nat) : Prop := hs 0 = y0 ∧ ∀ i, i < N → stp (hs i) (hs (i + 1))
/-- what holds of every state of a history -/
def good (S : yS) : Prop := WFy S ∧ WKy S ∧ (∀ k, k < yB S → yL S k ≤ 4120 ∧ yD S k = dig (blB S k) (yL S k)) ∧ (∀ j, j < 8 → yT S j = true → imgIn S (yG S j)) ∧ yC S = 0
set_option maxRecDepth 16384 in
theorem WF_0 : WFy y0 := ⟨Nat.zero_le _, Nat.le_refl _, Nat.zero_le _, Nat.zero_le _, fun i _ hi => absurd hi (Nat.not_lt_zero i), fun k hk => absurd hk (Nat.not_lt_zero k), fun k hk => absurd hk (Nat.not_lt_zero k)⟩
set_option maxRecDepth 16384 in
theorem good_0 : good y0 := ⟨WF_0, fun i _ hi => absurd hi (Nat.not_lt_zero i), fun k hk => absurd hk (Nat.not_lt_zero k), fun _ _ h => Bool.noConfusion (show false = true from h), rfl⟩
set_option maxRecDepth 16384 in
theorem keyB_255 {x v : Int64} : ∀ k, keyB x v k &&& 255 = keyB x v k := by
  intro k; unfold keyB; split <;> rw [Int32.and_assoc, Int32.and_self]
/-- a record was written: nothing before it has changed -/
def wrR (S S' : yS) (kd m : Nat) (d : Nat → Int32) : Prop := yR S' = yR S + (6 + m) ∧ yR S' ≤ 40000 ∧ (∀ j, j < yR S → yJ S' j = yJ S j) ∧ (∀ k, k < 6 + m → yJ S' (yR S + k) = recB kd m d k) ∧ (∀ k, k < m → d k &&& 255 = d k) ∧ kd < 256
set_option maxRecDepth 16384 in
theorem wrR_add {S S' : yS} {kd m : Nat} {d : Nat → Int32} {X : yS} (e : S'.1 = addJ S (6 + m) (recB kd m d)) (h4 : yR S + (6 + m) ≤ 40000) (hd : ∀ k, k < m → d k &&& 255 = d k) (hk : kd < 256) : wrR S S' kd m d := by
  refine ⟨by show S'.1.1 = _; rw [e]; rfl, by show S'.1.1 ≤ _; rw [e]; exact h4, fun j hj => ?_, fun k hk => ?_, hd, hk⟩
  · show S'.1.2.1 j = _; rw [e]; exact addJ_old hj
  · show S'.1.2.1 _ = _; rw [e, addJ_new (Nat.le_add_right _ _), Nat.add_sub_cancel_left]
set_option maxRecDepth 16384 in
theorem stp_wr {S S' : yS} (h : stp S S') : ∃ kd m d, wrR S S' kd m d := by
  rcases h with ⟨bb, c, rfl, h1, h2, h3, h5, h4⟩ | ⟨j, v, rfl, h1, h2, h3⟩ | ⟨j, rfl, h1, h2⟩ | ⟨a, v, h1, h2⟩
  · exact ⟨1, c, bb, wrR_add (X := S) rfl h3 h4 (by decide)⟩
  · exact ⟨2, 9, tagB j v, wrR_add (X := S) rfl h2 (fun k _ => tagB_255 (by omega) k) (by decide)⟩
  · exact ⟨3, 1, fun _ => nI j, wrR_add (X := S) rfl h2 (fun k _ => nI_small (by omega)) (by decide)⟩
  · refine ⟨4, 16, keyB a v, wrR_add (X := S) ?_ h2 (fun k _ => keyB_255 k) (by decide)⟩
    rcases h1 with ⟨k, -, -, rfl⟩ | ⟨-, -, rfl⟩ <;> rfl
/-- blobs only come -/
def moreB (S S' : yS) : Prop := yB S ≤ yB S' ∧ ∀ k, k < yB S → yD S' k = yD S k ∧ yL S' k = yL S k ∧ ∀ m, m < yL S k → blB S' k m = blB S k m
set_option maxRecDepth 16384 in
theorem moreB_has {S S' : yS} {v : Int64} (h : moreB S S') (hd : hasD S v) : hasD S' v := by
  obtain ⟨k, hk, e⟩ := hd
  exact ⟨k, Nat.lt_of_lt_of_le hk h.1, by rw [(h.2 k hk).1]; exact e⟩
set_option maxRecDepth 16384 in
theorem layB_congr {b b' : Nat → Int32} {i l : Nat} (hi : 2 + 8 * i + 8 ≤ l) (h : ∀ m, m < l → b' m = b m) : layB b' i = layB b i := by
  unfold layB
  exact lgA_congr (fun k hk => h _ (by omega)) 8
set_option maxRecDepth 16384 in
theorem img_lay {bb : Nat → Int32} {l nl ns : Nat} {pos na nv : Nat → Nat} (h : imgOK bb l nl ns pos na nv) : 3 + 8 * nl ≤ l := by
  have := img_pos h ns 0 (by omega)
  rw [h.2.2.2.2.2.1] at this; exact this
set_option maxRecDepth 16384 in
theorem img_congr {b b' : Nat → Int32} {l nl ns : Nat} {pos na nv : Nat → Nat} (h : imgOK b l nl ns pos na nv) (e : ∀ m, m < l → b' m = b m) : imgOK b' l nl ns pos na nv := by
  have h3 := img_lay h
  have hp : ∀ s, s < ns → pos s + 2 + na s + nv s ≤ l := fun s hs => by
    have := img_pos h (ns - (s + 1)) (s + 1) (by omega)
    rw [(h.2.2.2.2.2.2.1 s hs).2.2.2] at this; exact this
  obtain ⟨a1, a2, a3, a4, a5, a6, a7, a8⟩ := h
  refine ⟨a1, a2, ⟨by rw [e _ (by omega)]; exact a3.1, srt_congr a3.2 (fun s j hs hj => e _ (by have := hp s hs; omega))⟩, by rw [e _ (by omega)]; exact a4, by rw [e _ (by omega)]; exact a5, a6, fun s hs => ?_, a8⟩
  obtain ⟨b1, b2, b3, b4⟩ := a7 s hs
  have := hp s hs
  exact ⟨b1, by rw [e _ (by omega)]; exact b2, by rw [e _ (by omega)]; exact b3, b4⟩
set_option maxRecDepth 16384 in
theorem moreB_img {S S' : yS} {v : Int64} (h : moreB S S') (hi : imgIn S v) : imgIn S' v := by
  obtain ⟨k, hk, e, nl, ns, pos, na, nv, ok, hl⟩ := hi
  obtain ⟨e1, e2, e3⟩ := h.2 k hk
  have h3 := img_lay ok
  refine ⟨k, Nat.lt_of_lt_of_le hk h.1, by rw [e1]; exact e, nl, ns, pos, na, nv, by rw [e2]; exact img_congr ok e3, fun i hi => ?_⟩
  rw [layB_congr (l := yL S k) (by omega) e3]
  exact moreB_has h (hl i hi)
set_option maxRecDepth 16384 in
theorem moreB_same {S S' : yS} (hw : WFy S) (h : S'.2.1 = S.2.1) (hj : ∀ j, j < yR S → yJ S' j = yJ S j) : moreB S S' := by
  refine ⟨by show yB S ≤ S'.2.1.1; rw [h]; exact Nat.le_refl _, fun k hk => ⟨by show S'.2.1.2.1 k = _; rw [h], by show S'.2.1.2.2.2 k = _; rw [h], fun m hm => ?_⟩⟩
  have := hw.2.2.2.2.2.1 k hk
  show yJ S' (S'.2.1.2.2.1 k + m) = _
  rw [h]; exact hj _ (by show yP S k + m < _; omega)
set_option maxRecDepth 16384 in
theorem moreB_keep {S : yS} {bb : Nat → Int32} {c : Nat} (hw : WFy S) : moreB S (yKeep S bb c) := by
  refine ⟨Nat.le_succ _, fun k hk => ⟨up_ne (by omega), up_ne (by omega), fun m hm => ?_⟩⟩
  have := hw.2.2.2.2.2.1 k hk
  show (addJ S (6 + c) (recB 1 c bb)).2.1 (px_up (yP S) (yB S) (yR S + 5) k + m) = _
  rw [up_ne (by omega)]; exact addJ_old (by omega)
set_option maxRecDepth 16384 in
theorem stp_more {S S' : yS} (hw : WFy S) (h : stp S S') : moreB S S' := by
  obtain ⟨kd, m, d, w⟩ := stp_wr h
  rcases h with ⟨bb, c, rfl, h1, h2, h3, h4⟩ | ⟨j, v, rfl, h1, h2, h3⟩ | ⟨j, rfl, h1, h2⟩ | ⟨a, v, h1, h2⟩
  · exact moreB_keep hw
  · exact moreB_same hw rfl w.2.2.1
  · exact moreB_same hw rfl w.2.2.1
  · refine moreB_same hw ?_ w.2.2.1
    rcases h1 with ⟨k, -, -, rfl⟩ | ⟨-, -, rfl⟩ <;> rfl
set_option maxRecDepth 16384 in
theorem WF_wr {S S' : yS} {kd m : Nat} {d : Nat → Int32} (hw : WFy S) (w : wrR S S' kd m d) (hb : S'.2.1 = S.2.1) (hk : yK S' ≤ 60) (hC : yC S' = yC S) : WFy S' := by
  obtain ⟨v1, v2, v3, v4, v5, v6, v7⟩ := hw
  obtain ⟨w1, w2, w3, w4, w5, w6⟩ := w
  refine ⟨w2, by rw [hC, w1]; omega, by show S'.2.1.1 ≤ 60; rw [hb]; exact v3, hk, fun i j hi hj e => ?_, fun k hk => ?_, fun j hj => ?_⟩
  · have hi' : i < S'.2.1.1 := hi
    have hj' : j < S'.2.1.1 := hj
    have e' : S'.2.1.2.1 i = S'.2.1.2.1 j := e
    rw [hb] at hi' hj' e'
    exact v5 i j hi' hj' e'
  · have hk' : k < S'.2.1.1 := hk
    show S'.2.1.2.2.1 k + S'.2.1.2.2.2 k ≤ _
    rw [hb] at hk' ⊢
    have := v6 k hk'
    rw [w1]; exact Nat.le_trans this (Nat.le_add_right _ _)
  · by_cases e : j < yR S
    · rw [w3 j e]; exact v7 j e
    · obtain ⟨k, rfl⟩ : ∃ k, j = yR S + k := ⟨j - yR S, by omega⟩
      rw [w4 k (by omega)]
      exact rec_255 w6 (by omega) w5 k (by omega)
set_option maxRecDepth 16384 in
theorem good_stp {S S' : yS} (g : good S) (h : stp S S') : good S' := by
  obtain ⟨hw, hk, hl, ht, hc⟩ := g
  have mB := stp_more hw h
  obtain ⟨kd, m, d, w⟩ := stp_wr h
  have bl : yB S' = yB S → ∀ k, k < yB S' → yL S' k ≤ 4120 ∧ yD S' k = dig (blB S' k) (yL S' k) := fun eB k hk => by
    rw [eB] at hk
    obtain ⟨m1, m2, m3⟩ := mB.2 k hk
    rw [m1, m2]
    exact ⟨(hl k hk).1, (hl k hk).2.trans (dig_congr (fun m hm => (m3 m hm).symm))⟩
  rcases h with ⟨bb, c, rfl, h1, h2, h3, h5, h4⟩ | ⟨j, v, rfl, h1, h2, h3⟩ | ⟨j, rfl, h1, h2⟩ | ⟨a, v, h1, h2⟩
  · refine ⟨WF_keep hw h4 (.inr ⟨rfl, h1, h2, h3⟩), hk, fun k hk => ?_, fun j hj t => moreB_img mB (ht j hj t), hc⟩
    have hk' : k < yB S + 1 := hk
    by_cases e : k = yB S
    · subst e
      have eL : yL (yKeep S bb c) (yB S) = c := up_same _ _ _
      refine ⟨by rw [eL]; exact h5, ?_⟩
      rw [eL]
      show px_up (yD S) (yB S) (dig bb c) (yB S) = _
      rw [up_same]
      refine dig_congr (fun m hm => ?_)
      show bb m = (addJ S (6 + c) (recB 1 c bb)).2.1 (px_up (yP S) (yB S) (yR S + 5) (yB S) + m)
      rw [up_same, Nat.add_assoc, addJ_new (Nat.le_add_right _ _), Nat.add_sub_cancel_left, rec_d hm]
    · obtain ⟨m1, m2, m3⟩ := mB.2 k (by omega)
      rw [m1, m2]
      refine ⟨(hl k (by omega)).1, (hl k (by omega)).2.trans (dig_congr (fun m hm => (m3 m hm).symm))⟩
  · refine ⟨WF_wr hw w rfl hw.2.2.2.1 rfl, hk, bl rfl, fun i hi t => moreB_img mB ?_, hc⟩
    by_cases e : i = j
    · subst e
      show imgIn S (px_up (yG S) i v i)
      rw [up_same]; exact h3
    · have t' : px_up (yT S) j true i = true := t
      rw [up_ne e] at t'
      show imgIn S (px_up (yG S) j v i)
      rw [up_ne e]; exact ht i hi t'
  · refine ⟨WF_wr hw w rfl hw.2.2.2.1 rfl, hk, bl rfl, fun i hi t => moreB_img mB ?_, hc⟩
    by_cases e : i = j
    · subst e
      have t' : px_up (yT S) i false i = true := t
      rw [up_same] at t'; cases t'
    · have t' : px_up (yT S) j false i = true := t
      rw [up_ne e] at t'
      exact ht i hi t'
  · rcases h1 with ⟨k, a1, a2, rfl⟩ | ⟨a1, a2, rfl⟩
    · exact ⟨WF_wr hw w rfl hw.2.2.2.1 rfl, hk, bl rfl, fun i hi t => moreB_img mB (ht i hi t), hc⟩
    · refine ⟨WF_wr hw w rfl a2 rfl, fun i j hi hj e => ?_, bl rfl, fun i hi t => moreB_img mB (ht i hi t), hc⟩
      have hi' : i < yK S + 1 := hi
      have hj' : j < yK S + 1 := hj
      have e' : px_up (yX S) (yK S) a i = px_up (yX S) (yK S) a j := e
      by_cases x : i = yK S <;> by_cases y : j = yK S
      · omega
      · rw [x, up_same, up_ne y] at e'
        exact absurd e'.symm (a1 j (by omega))
      · rw [y, up_same, up_ne x] at e'
        exact absurd e' (a1 i (by omega))
      · rw [up_ne x, up_ne y] at e'
        exact hk i j (by omega) (by omega) e'
set_option maxRecDepth 16384 in
theorem hist_good {hs : Nat → yS} {N : Nat} (h : hist hs N) : ∀ i, i ≤ N → good (hs i) := by
  intro i
  induction i with
  | zero => intro _; rw [h.1]; exact good_0
  | succ i ih => intro hi; exact good_stp (ih (by omega)) (h.2 i (by omega))
set_option maxRecDepth 16384 in
theorem hist_le {hs : Nat → yS} {N : Nat} (h : hist hs N) : ∀ n i, i + n ≤ N → yR (hs i) ≤ yR (hs (i + n)) ∧ ∀ j, j < yR (hs i) → yJ (hs (i + n)) j = yJ (hs i) j := by
  intro n
  induction n with
  | zero => intro i _; exact ⟨Nat.le_refl _, fun _ _ => rfl⟩
  | succ n ih =>
    intro i hi
    obtain ⟨a, b⟩ := ih i (by omega)
    obtain ⟨kd, m, d, w⟩ := stp_wr (h.2 (i + n) (by omega))
    have w1 := w.1
    exact ⟨by show yR (hs i) ≤ yR (hs (i + n + 1)); omega, fun j hj => (w.2.2.1 j (by omega)).trans (b j hj)⟩
/-- the state with another count of synced bytes -/
def sC (S : yS) (c : Nat) : yS := ((yR S, yJ S, c), S.2)
/-- a yard's state has a history, and what is synced ends with a record -/
def yOK (S : yS) : Prop := ∃ hs N k, hist hs N ∧ k ≤ N ∧ S = sC (hs N) (yR (hs k))
set_option maxRecDepth 16384 in
theorem stp_sC {S S' : yS} {c : Nat} (h : stp (sC S c) S') : ∃ S1, stp S S1 ∧ S' = sC S1 c := by
  rcases h with ⟨bb, n, rfl, h1, h2, h3, h5, h4⟩ | ⟨j, v, rfl, h1, h2, h3⟩ | ⟨j, rfl, h1, h2⟩ | ⟨a, v, h1, h2⟩
  · exact ⟨yKeep S bb n, .inl ⟨bb, n, rfl, h1, h2, h3, h5, h4⟩, rfl⟩
  · exact ⟨yTell S j v, .inr (.inl ⟨j, v, rfl, h1, h2, h3⟩), rfl⟩
  · exact ⟨yUnt S j, .inr (.inr (.inl ⟨j, rfl, h1, h2⟩)), rfl⟩
  · rcases h1 with ⟨k, a1, a2, rfl⟩ | ⟨a1, a2, rfl⟩
    · exact ⟨_, .inr (.inr (.inr ⟨a, v, .inl ⟨k, a1, a2, rfl⟩, h2⟩)), rfl⟩
    · exact ⟨_, .inr (.inr (.inr ⟨a, v, .inr ⟨a1, a2, rfl⟩, h2⟩)), rfl⟩
set_option maxRecDepth 16384 in
theorem hist_up {hs : Nat → yS} {N : Nat} {S' : yS} (h : hist hs N) (s : stp (hs N) S') : hist (fun i => if i ≤ N then hs i else S') (N + 1) := by
  refine ⟨by show (if 0 ≤ N then hs 0 else S') = y0; rw [if_pos (Nat.zero_le _)]; exact h.1, fun i hi => ?_⟩
  show stp (if i ≤ N then hs i else S') (if i + 1 ≤ N then hs (i + 1) else S')
  by_cases e : i = N
  · subst e; rw [if_pos (Nat.le_refl _), if_neg (by omega)]; exact s
  · rw [if_pos (by omega), if_pos (by omega)]; exact h.2 i (by omega)
set_option maxRecDepth 16384 in
theorem yOK_stp {S S' : yS} (h : yOK S) (s : stp S S') : yOK S' := by
  obtain ⟨hs, N, k, h1, h2, rfl⟩ := h
  obtain ⟨S1, s1, rfl⟩ := stp_sC s
  refine ⟨fun i => if i ≤ N then hs i else S1, N + 1, k, hist_up h1 s1, by omega, ?_⟩
  show _ = sC (if N + 1 ≤ N then hs (N + 1) else S1) (yR (if k ≤ N then hs k else S1))
  rw [if_neg (by omega), if_pos h2]
set_option maxRecDepth 16384 in
theorem yOK_0 : yOK y0 := ⟨fun _ => y0, 0, 0, ⟨rfl, fun i hi => absurd hi (Nat.not_lt_zero i)⟩, Nat.le_refl _, rfl⟩
/-- what holds of every state with a history -/
def goodC (S : yS) : Prop := WFy S ∧ WKy S ∧ (∀ k, k < yB S → yL S k ≤ 4120 ∧ yD S k = dig (blB S k) (yL S k)) ∧ ∀ j, j < 8 → yT S j = true → imgIn S (yG S j)
set_option maxRecDepth 16384 in
theorem yOK_good {S : yS} (h : yOK S) : goodC S := by
  obtain ⟨hs, N, k, h1, h2, rfl⟩ := h
  obtain ⟨⟨v1, v2, v3, v4, v5, v6, v7⟩, g2, g3, g4, g5⟩ := hist_good h1 N (Nat.le_refl _)
  have := (hist_le h1 (N - k) k (by omega)).1
  rw [show k + (N - k) = N by omega] at this
  exact ⟨⟨v1, this, v3, v4, v5, v6, v7⟩, g2, g3, g4⟩
set_option maxRecDepth 16384 in
theorem yOK_sync {S : yS} (h : yOK S) : yOK (sC S (yR S)) := by
  obtain ⟨hs, N, k, h1, h2, rfl⟩ := h
  exact ⟨hs, N, N, h1, Nat.le_refl _, rfl⟩
