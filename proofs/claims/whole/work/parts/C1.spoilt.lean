/-! A JOURNAL CUT SHORT, ONE BYTE TURNED: where reading stops -/
/-- a byte turned at z -/
def trn (B : Nat → Nat) (z j : Nat) : Nat := if j = z then 255 - B j else B j
set_option maxRecDepth 16384 in
theorem trn_ne {B : Nat → Nat} {z j : Nat} (h : j ≠ z) : trn B z j = B j := if_neg h
set_option maxRecDepth 16384 in
theorem trn_eq {B : Nat → Nat} {z : Nat} : trn B z z = 255 - B z := if_pos rfl
set_option maxRecDepth 16384 in
theorem sum_out {B : Nat → Nat} {z p : Nat} : ∀ n, (z < p ∨ p + n ≤ z) → sumN (trn B z) p n = sumN B p n
  | 0, _ => rfl
  | n + 1, h => by
    show sumN (trn B z) p n + trn B z (p + n) = sumN B p n + B (p + n)
    rw [sum_out n (by omega), trn_ne (by omega)]
set_option maxRecDepth 16384 in
theorem sum_in {B : Nat → Nat} {z p : Nat} (hb : ∀ j, j < z + 1 → B j < 256) : ∀ n, p ≤ z → z < p + n → sumN (trn B z) p n + 2 * B z = sumN B p n + 255 := by
  intro n
  induction n with
  | zero => intro h1 h2; omega
  | succ n ih =>
    intro h1 h2
    show sumN (trn B z) p n + trn B z (p + n) + 2 * B z = sumN B p n + B (p + n) + 255
    by_cases e : z = p + n
    · rw [sum_out n (by omega), ← e, trn_eq]
      have := hb z (by omega)
      omega
    · rw [trn_ne (by omega)]
      have := ih h1 (by omega)
      omega
set_option maxRecDepth 16384 in
theorem rec_iff {B : Nat → Nat} {lim z p m : Nat} (hb : ∀ j, j < p + 6 + m → B j < 256) (h1 : B (p + 1) + 256 * B (p + 2) = m) (h3 : B (p + 3) + 256 * B (p + 4) = m) (hs : sumN B p (5 + m) % 256 = B (p + 5 + m)) :
    (∀ c, rOK lim (trn B z) p c → c = m ∧ p + 6 + m ≤ lim ∧ ¬ (p ≤ z ∧ z < p + 6 + m)) ∧ (p + 6 + m ≤ lim → ¬ (p ≤ z ∧ z < p + 6 + m) → rOK lim (trn B z) p m) := by
  refine ⟨fun c ok => ?_, fun g1 g2 => ?_⟩
  · obtain ⟨o1, o2, o3, o4⟩ := ok
    have b1 := hb (p + 1) (by omega)
    have b2 := hb (p + 2) (by omega)
    have b3 := hb (p + 3) (by omega)
    have b4 := hb (p + 4) (by omega)
    have hz : z ≠ p + 1 ∧ z ≠ p + 2 ∧ z ≠ p + 3 ∧ z ≠ p + 4 := by
      refine ⟨fun e => ?_, fun e => ?_, fun e => ?_, fun e => ?_⟩ <;> subst e
      · rw [trn_eq, trn_ne (by omega)] at o2; rw [trn_ne (by omega), trn_ne (by omega)] at o3; omega
      · rw [trn_eq, trn_ne (by omega)] at o2; rw [trn_ne (by omega), trn_ne (by omega)] at o3; omega
      · rw [trn_ne (by omega), trn_ne (by omega)] at o2; rw [trn_eq, trn_ne (by omega)] at o3; omega
      · rw [trn_ne (by omega), trn_ne (by omega)] at o2; rw [trn_eq, trn_ne (by omega)] at o3; omega
    have hc : c = m := by
      rw [trn_ne (by omega), trn_ne (by omega)] at o2; omega
    subst hc
    refine ⟨rfl, o1, fun g => ?_⟩
    by_cases e : z = p + 5 + c
    · subst e
      rw [trn_eq, sum_out _ (by omega)] at o4
      have := hb (p + 5 + c) (by omega)
      omega
    · have := sum_in (B := B) (z := z) (p := p) (fun j hj => hb j (by omega)) (5 + c) g.1 (by omega)
      rw [trn_ne (by omega)] at o4
      omega
  · exact ⟨g1, by rw [trn_ne (by omega), trn_ne (by omega)]; exact h1, by rw [trn_ne (by omega), trn_ne (by omega)]; exact h3, by rw [sum_out _ (by omega), trn_ne (by omega)]; exact hs⟩
set_option maxRecDepth 16384 in
theorem nI_sub255 {b : Nat} (h : b < 256) : (255 : Int32) - nI b = nI (255 - b) := by
  rw [show (255 : Int32) = nI 255 from rfl, nI_sub (by omega)]
/-- a state's byte as a number -/
def jN (S : yS) (j : Nat) : Nat := (yJ S j).toNatClampNeg
set_option maxRecDepth 16384 in
theorem jN_ok {S : yS} (hw : WFy S) {j : Nat} (hj : j < yR S) : yJ S j = nI (jN S j) ∧ jN S j < 256 := by
  have h := hw.2.2.2.2.2.2 j hj
  obtain ⟨b, hb, e⟩ := b255_nat (yJ S j)
  unfold jN
  rw [← h, e, nI_clamp (by omega)]
  exact ⟨rfl, hb⟩
set_option maxRecDepth 16384 in
theorem recN {S S' : yS} {kd m : Nat} {d : Nat → Int32} (hw : WFy S') (w : wrR S S' kd m d) :
    jN S' (yR S + 1) + 256 * jN S' (yR S + 2) = m ∧ jN S' (yR S + 3) + 256 * jN S' (yR S + 4) = m ∧ sumN (jN S') (yR S) (5 + m) % 256 = jN S' (yR S + 5 + m) := by
  obtain ⟨w1, w2, w3, w4, w5, w6⟩ := w
  have e1 : jN S' (yR S + 1) = m % 256 := by unfold jN; rw [w4 1 (by omega), rec_1, nI_clamp (by omega)]
  have e2 : jN S' (yR S + 2) = m / 256 := by unfold jN; rw [w4 2 (by omega), rec_2, nI_clamp (by omega)]
  have e3 : jN S' (yR S + 3) = m % 256 := by unfold jN; rw [w4 3 (by omega), rec_3, nI_clamp (by omega)]
  have e4 : jN S' (yR S + 4) = m / 256 := by unfold jN; rw [w4 4 (by omega), rec_4, nI_clamp (by omega)]
  refine ⟨by rw [e1, e2]; omega, by rw [e3, e4]; omega, ?_⟩
  have h := rec_last (kd := kd) (m := m) (d := d)
  have hs : ∀ k, k ≤ 5 + m → sumF (recB kd m d) k = nI (sumN (jN S') (yR S) k) := by
    intro k
    induction k with
    | zero => intro _; rfl
    | succ k ih =>
      intro hk
      show sumF (recB kd m d) k + recB kd m d k = nI (sumN (jN S') (yR S) k + jN S' (yR S + k))
      rw [ih (by omega), ← nI_add, ← w4 k (by omega), (jN_ok hw (j := yR S + k) (by omega)).1]
  rw [hs (5 + m) (Nat.le_refl _), ← w4 (5 + m) (by omega), nI_255, (jN_ok hw (j := yR S + (5 + m)) (by omega)).1] at h
  have h2 := (jN_ok hw (j := yR S + (5 + m)) (by omega)).2
  rw [nI_inj (by omega) (by omega)] at h
  rw [h]; exact congrArg (jN S') (by omega)
/-- the i-th record is whole below lim, and its bytes stand -/
def okR (hs : Nat → yS) (lim z i : Nat) : Prop := yR (hs (i + 1)) ≤ lim ∧ ¬ (yR (hs i) ≤ z ∧ z < yR (hs (i + 1)))
set_option maxRecDepth 16384 in
theorem sumN_congr {b b' : Nat → Nat} {p : Nat} : ∀ n, (∀ j, j < n → b (p + j) = b' (p + j)) → sumN b p n = sumN b' p n
  | 0, _ => rfl
  | n + 1, h => by
    show sumN b p n + b (p + n) = sumN b' p n + b' (p + n)
    rw [sumN_congr n (fun j hj => h j (by omega)), h n (by omega)]
set_option maxRecDepth 16384 in
theorem okR_iff {hs : Nat → yS} {N lim z i : Nat} {bv : Nat → Nat} (h : hist hs N) (hi : i < N) (hlim : lim ≤ yR (hs N)) (hbv : ∀ j, j < lim → bv j = trn (jN (hs N)) z j) :
    (∀ c, rOK lim bv (yR (hs i)) c → okR hs lim z i ∧ yR (hs i) + 6 + c = yR (hs (i + 1))) ∧ (okR hs lim z i → ∃ c, rOK lim bv (yR (hs i)) c ∧ yR (hs i) + 6 + c = yR (hs (i + 1))) := by
  obtain ⟨kd, m, d, w⟩ := stp_wr (h.2 i hi)
  have gi := hist_good h (i + 1) (by omega)
  obtain ⟨r1, r2, r3⟩ := recN gi.1 w
  have w1 := w.1
  have le := hist_le h (N - (i + 1)) (i + 1) (by omega)
  rw [show i + 1 + (N - (i + 1)) = N by omega] at le
  have ej : ∀ j, j < yR (hs (i + 1)) → jN (hs N) j = jN (hs (i + 1)) j := fun j hj => by unfold jN; rw [le.2 j hj]
  have gN := hist_good h N (Nat.le_refl _)
  have q := rec_iff (B := jN (hs N)) (lim := lim) (z := z) (p := yR (hs i)) (m := m) (fun j hj => (jN_ok gN.1 (by omega)).2) (by rw [ej _ (by omega), ej _ (by omega)]; exact r1) (by rw [ej _ (by omega), ej _ (by omega)]; exact r2) (by rw [sumN_congr _ (fun j hj => ej _ (by omega)), ej _ (by omega)]; exact r3)
  have cg : ∀ c, rOK lim bv (yR (hs i)) c ↔ rOK lim (trn (jN (hs N)) z) (yR (hs i)) c := by
    intro c
    unfold rOK
    refine and_congr_right (fun g => ?_)
    rw [hbv _ (by omega), hbv _ (by omega), hbv _ (by omega), hbv _ (by omega), hbv _ (by omega), sumN_congr _ (fun j hj => hbv _ (by omega))]
  refine ⟨fun c ok => ?_, fun ok => ?_⟩
  · obtain ⟨e, q1, q2⟩ := q.1 c ((cg c).mp ok)
    subst e
    exact ⟨⟨by omega, by rw [show yR (hs (i + 1)) = yR (hs i) + 6 + c by omega]; exact q2⟩, by omega⟩
  · refine ⟨m, (cg m).mpr (q.2 (by have := ok.1; omega) ?_), by omega⟩
    have := ok.2
    rw [show yR (hs (i + 1)) = yR (hs i) + 6 + m by omega] at this; exact this
/-- reading stops behind i records -/
def stopR (hs : Nat → yS) (N lim z i : Nat) : Prop := i ≤ N ∧ (∀ k, k < i → okR hs lim z k) ∧ (i = N ∨ ¬ okR hs lim z i)
set_option maxRecDepth 16384 in
theorem stop_det {hs : Nat → yS} {N lim z i j : Nat} (h1 : stopR hs N lim z i) (h2 : stopR hs N lim z j) : i = j := by
  obtain ⟨a1, a2, a3⟩ := h1
  obtain ⟨b1, b2, b3⟩ := h2
  rcases Nat.lt_trichotomy i j with e | e | e
  · rcases a3 with rfl | a3
    · omega
    · exact absurd (b2 i e) a3
  · exact e
  · rcases b3 with rfl | b3
    · omega
    · exact absurd (a2 j e) b3
set_option maxRecDepth 16384 in
theorem ok_le {hs : Nat → yS} {N lim z : Nat} (h : hist hs N) : ∀ i, i ≤ N → (∀ k, k < i → okR hs lim z k) → yR (hs i) ≤ lim ∧ yR (hs i) ≤ z := by
  intro i
  induction i with
  | zero => intro _ _; rw [h.1]; exact ⟨Nat.zero_le _, Nat.zero_le _⟩
  | succ i ih =>
    intro hi hk
    have a := hk i (by omega)
    have b := ih (by omega) (fun k hk' => hk k (by omega))
    have := a.2
    exact ⟨a.1, by omega⟩
