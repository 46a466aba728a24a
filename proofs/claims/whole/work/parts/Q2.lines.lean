/-! THE LINES OF A BUILD -/
section FILL
variable {B : Nat → Nat} {m : aM} {e s : Nat}
set_option maxRecDepth 16384 in
theorem flF_pre : ∀ f p o j, j < o.1 → (flF B m e f p o).2 j = o.2 j
  | 0, p, o, j, _ => rfl
  | f + 1, p, o, j, hj => by
    unfold flF
    by_cases x : e ≤ p
    · rw [if_pos x]
    · rw [if_neg x]
      by_cases y : B p = 36
      · rw [if_pos y, flF_pre f _ _ j (Nat.lt_of_lt_of_le hj (cat_le _ _))]; exact if_pos hj
      · rw [if_neg y, flF_pre f _ _ j (Nat.lt_of_lt_of_le hj (cat_le _ _))]; exact if_pos hj
set_option maxRecDepth 16384 in
theorem flF_k : ∀ k, s + k ≤ e → (∀ j, j < k → B (s + j) ≠ 36) → ∃ o : Nat × (Nat → Nat), o.1 = k ∧ (∀ j, j < k → o.2 j = B (s + j)) ∧ flF B m e (e - s) s (0, fun _ => 0) = flF B m e (e - s - k) (s + k) o
  | 0, _, _ => ⟨(0, fun _ => 0), rfl, fun j hj => absurd hj (Nat.not_lt_zero j), rfl⟩
  | k + 1, hk, hB => by
    obtain ⟨o, o1, o2, o3⟩ := flF_k k (by omega) (fun j hj => hB j (by omega))
    refine ⟨cat o (1, fun _ => B (s + k)), by show o.1 + 1 = k + 1; omega, fun j hj => ?_, ?_⟩
    · show (if j < o.1 then o.2 j else B (s + k)) = B (s + j)
      by_cases x : j < k
      · rw [if_pos (by omega)]; exact o2 j x
      · rw [if_neg (by omega), show j = k by omega]
    · rw [o3, show e - s - k = e - s - (k + 1) + 1 by omega]
      show (if e ≤ s + k then o else if B (s + k) = 36 then _ else flF B m e (e - s - (k + 1)) (s + k + 1) (cat o (1, fun _ => B (s + k)))) = _
      rw [if_neg (by omega), if_neg (hB k (by omega))]
      rfl
set_option maxRecDepth 16384 in
theorem cat_256 {o v : Nat × (Nat → Nat)} (h1 : ∀ j, j < o.1 → o.2 j < 256) (h2 : ∀ j, j < v.1 → v.2 j < 256) : ∀ j, j < (cat o v).1 → (cat o v).2 j < 256 := fun j hj => by
  have hj' : j < o.1 + v.1 := hj
  show (if j < o.1 then o.2 j else v.2 (j - o.1)) < 256
  by_cases x : j < o.1
  · rw [if_pos x]; exact h1 j x
  · rw [if_neg x]; exact h2 _ (by omega)
set_option maxRecDepth 16384 in
theorem flF_256 {n : Nat} (ok : imOK m) (hB : ∀ j, j < n → B j < 256) (he : e ≤ n) : ∀ f p o, (∀ j, j < o.1 → o.2 j < 256) → ∀ j, j < (flF B m e f p o).1 → (flF B m e f p o).2 j < 256
  | 0, p, o, ho => ho
  | f + 1, p, o, ho => by
    unfold flF
    by_cases x : e ≤ p
    · rw [if_pos x]; exact ho
    · rw [if_neg x]
      by_cases y : B p = 36
      · rw [if_pos y]; exact flF_256 ok hB he f _ _ (cat_256 ho (vOf_12 ok).2)
      · rw [if_neg y]; exact flF_256 ok hB he f _ _ (cat_256 ho (fun _ _ => hB p (by omega)))
/-! a line that copies begins with its word -/
set_option maxRecDepth 16384 in
theorem fl_copy (hs : s ≤ e) (w : wrd B s (fnd B 32 s (e - s)) [67, 79, 80, 89]) : 4 ≤ (flF B m e (e - s) s (0, fun _ => 0)).1 ∧ fnd (flF B m e (e - s) s (0, fun _ => 0)).2 32 0 ((flF B m e (e - s) s (0, fun _ => 0)).1 - 0) = 4 := by
  have rg := fnd_rng (B := B) (c := 32) (e - s) s
  have w1 : fnd B 32 s (e - s) = s + 4 := w.1
  have b0 : B (s + 0) = 67 := w.2 0 (by decide)
  have b1 : B (s + 1) = 79 := w.2 1 (by decide)
  have b2 : B (s + 2) = 80 := w.2 2 (by decide)
  have b3 : B (s + 3) = 89 := w.2 3 (by decide)
  have bb : ∀ j, j < 4 → B (s + j) ≠ 36 ∧ B (s + j) ≠ 32 := fun j hj => by
    have : j = 0 ∨ j = 1 ∨ j = 2 ∨ j = 3 := by omega
    rcases this with rfl | rfl | rfl | rfl <;> omega
  obtain ⟨o, o1, o2, o3⟩ := flF_k (B := B) (m := m) (e := e) (s := s) 4 (by omega) (fun j hj => (bb j hj).1)
  have l4 : 4 ≤ (flF B m e (e - s) s (0, fun _ => 0)).1 := by rw [o3, ← o1]; exact flF_mono _ _ _
  have pre : ∀ j, j < 4 → (flF B m e (e - s) s (0, fun _ => 0)).2 j ≠ 32 := fun j hj => by
    rw [o3, flF_pre _ _ _ j (by omega), o2 j hj]; exact (bb j hj).2
  refine ⟨l4, ?_⟩
  by_cases x : e = s + 4
  · have e4 : flF B m e (e - s) s (0, fun _ => 0) = o := by rw [o3]; exact flF_end (by omega) _
    rw [e4] at pre ⊢
    rw [o1]
    have r4 := fnd_rng (B := o.2) (c := 32) (4 - 0) 0
    by_cases y : fnd o.2 32 0 (4 - 0) < 4
    · exact absurd (fnd_is (B := o.2) (c := 32) (4 - 0) 0 (by omega)) (pre _ y)
    · omega
  · have b4 : B (s + 4) = 32 := by rw [← w1]; exact fnd_is (e - s) s (by omega)
    obtain ⟨o', p1, p2, p3⟩ := flF_k (B := B) (m := m) (e := e) (s := s) 5 (by omega) (fun j hj => by
      by_cases z : j = 4
      · subst z; omega
      · exact (bb j (by omega)).1)
    have l5 : 5 ≤ (flF B m e (e - s) s (0, fun _ => 0)).1 := by rw [p3, ← p1]; exact flF_mono _ _ _
    refine fnd_at (t := 4) ?_ _ _ (Nat.zero_le _) (by omega) (fun j _ hj => pre j hj)
    rw [p3, flF_pre _ _ _ 4 (by omega), p2 4 (by decide)]; exact b4
end FILL
def rcW (B : Nat → Nat) (s F : Nat) (cp : Bool) : Prop := (cp = false ∧ wrd B s F [82, 85, 78]) ∨ (cp = true ∧ wrd B s F [67, 79, 80, 89])
noncomputable def fil (B : Nat → Nat) (m : aM) (s e : Nat) : Nat × (Nat → Nat) := flF B m e (e - s) s (0, fun _ => 0)
/-- a line behind the first: fault, yard, image, steps, hits -/
def nlR (S : yS) (m : aM) (B : Nat → Nat) (s e x : Nat) (S' : yS) (m' : aM) (a b : Nat) : Prop :=
  (wrd B s (fnd B 32 s (e - s)) [69, 78, 86] ∧ setL B (s + 4) e m x m' ∧ S' = S ∧ a = 0 ∧ b = 0) ∨
  (¬ wrd B s (fnd B 32 s (e - s)) [69, 78, 86] ∧ (∀ cp, ¬ rcW B s (fnd B 32 s (e - s)) cp) ∧ x = 1 ∧ S' = S ∧ m' = m ∧ a = 0 ∧ b = 0) ∨
  (∃ cp, rcW B s (fnd B 32 s (e - s)) cp ∧ ((¬ ((fil B m s e).1 ≤ 200 ∧ iL m < 12) ∧ x = 4 ∧ S' = S ∧ m' = m ∧ a = 0 ∧ b = 0) ∨ (((fil B m s e).1 ≤ 200 ∧ iL m < 12) ∧ bsR S m (dig (kyB m B s) (kyN m s e)) (fil B m s e) cp x S' m' b ∧ a = if x = 0 then 1 else 0)))
section NLR
variable {S S1 S2 S' : yS} {m m1 m2 m' : aM} {B : Nat → Nat} {s e x x1 x2 a b a1 b1 a2 b2 n : Nat}
set_option maxRecDepth 16384 in
theorem rcW_det {F : Nat} {c c' : Bool} (h1 : rcW B s F c) (h2 : rcW B s F c') : c = c' := by
  rcases h1 with ⟨p1, p2⟩ | ⟨p1, p2⟩ <;> rcases h2 with ⟨q1, q2⟩ | ⟨q1, q2⟩
  · rw [p1, q1]
  · have := wrd_uniq p2 q2; exact absurd this (by decide)
  · have := wrd_uniq p2 q2; exact absurd this (by decide)
  · rw [p1, q1]
set_option maxRecDepth 16384 in
theorem rcW_env {F : Nat} {c : Bool} (h1 : rcW B s F c) (h2 : wrd B s F [69, 78, 86]) : False := by
  rcases h1 with ⟨p1, p2⟩ | ⟨p1, p2⟩
  · have := wrd_uniq p2 h2; exact absurd this (by decide)
  · have := wrd_uniq p2 h2; exact absurd this (by decide)
set_option maxRecDepth 16384 in
theorem fil_256 (ok : imOK m) (hB : ∀ j, j < n → B j < 256) (he : e ≤ n) : ∀ j, j < (fil B m s e).1 → (fil B m s e).2 j < 256 := flF_256 ok hB he _ _ _ (fun j hj => absurd hj (Nat.not_lt_zero j))
set_option maxRecDepth 16384 in
theorem nl_det (ok : bOK S m) (hB : ∀ j, j < n → B j < 256) (he : e ≤ n) (h1 : nlR S m B s e x1 S1 m1 a1 b1) (h2 : nlR S m B s e x2 S2 m2 a2 b2) : x1 = x2 ∧ S1 = S2 ∧ m1 = m2 ∧ a1 = a2 ∧ b1 = b2 := by
  obtain ⟨o1, o2, o3⟩ := ok
  rcases h1 with ⟨p1, p2, rfl, rfl, rfl⟩ | ⟨p1, p2, rfl, rfl, rfl, rfl, rfl⟩ | ⟨cp, p1, p2⟩ <;> rcases h2 with ⟨q1, q2, rfl, rfl, rfl⟩ | ⟨q1, q2, rfl, rfl, rfl, rfl, rfl⟩ | ⟨cp', q1, q2⟩
  · obtain ⟨r1, r2⟩ := setL_det o2 p2 q2
    exact ⟨r1, rfl, r2, rfl, rfl⟩
  · exact absurd p1 q1
  · exact (rcW_env q1 p1).elim
  · exact absurd q1 p1
  · exact ⟨rfl, rfl, rfl, rfl, rfl⟩
  · exact absurd q1 (p2 _)
  · exact (rcW_env p1 q1).elim
  · exact absurd p1 (q2 _)
  · have : cp = cp' := rcW_det p1 q1
    subst this
    rcases p2 with ⟨r1, rfl, rfl, rfl, rfl, rfl⟩ | ⟨r1, r2, rfl⟩ <;> rcases q2 with ⟨t1, rfl, rfl, rfl, rfl, rfl⟩ | ⟨t1, t2, rfl⟩
    · exact ⟨rfl, rfl, rfl, rfl, rfl⟩
    · exact absurd t1 r1
    · exact absurd r1 t1
    · obtain ⟨u1, u2, u3, u4⟩ := bs_det o1 r1.1 (fil_256 o2 hB he) r2 t2
      exact ⟨u1, u2, u3, by rw [u1], u4⟩
set_option maxRecDepth 16384 in
theorem setL_1 (h : setL B s e m x m') : m'.1 = m.1 ∧ x ≤ 5 := by
  rcases h with ⟨-, rfl, rfl⟩ | ⟨-, r⟩
  · exact ⟨rfl, by omega⟩
  · rcases r with ⟨i, -, -, rfl, rfl⟩ | ⟨-, ⟨-, rfl, rfl⟩ | ⟨-, rfl, g, -, rfl⟩⟩
    · exact ⟨rfl, by omega⟩
    · exact ⟨rfl, by omega⟩
    · exact ⟨rfl, by omega⟩
set_option maxRecDepth 16384 in
theorem nl_ok (ok : bOK S m) (hB : ∀ j, j < n → B j < 256) (he : e ≤ n) (h : nlR S m B s e x S' m' a b) : yOK S' ∧ (x = 0 → bOK S' m') ∧ x ≤ 5 ∧ a ≤ 1 ∧ b ≤ 1 := by
  obtain ⟨o1, o2, o3⟩ := id ok
  rcases h with ⟨p1, p2, rfl, rfl, rfl⟩ | ⟨p1, p2, rfl, rfl, rfl, rfl, rfl⟩ | ⟨cp, p1, p2⟩
  · obtain ⟨e1, e2⟩ := setL_1 p2
    refine ⟨o1, fun _ => ⟨o1, setL_ok o2 hB he p2, fun i hi => ?_⟩, e2, by omega, by omega⟩
    show hasD S' (m'.1.2 i)
    have hi' : i < m'.1.1 := hi
    rw [e1] at hi' ⊢
    exact o3 i hi'
  · exact ⟨o1, fun _ => ok, by omega, by omega, by omega⟩
  · rcases p2 with ⟨r1, rfl, rfl, rfl, rfl, rfl⟩ | ⟨r1, r2, rfl⟩
    · exact ⟨o1, fun _ => ok, by omega, by omega, by omega⟩
    · obtain ⟨u1, u2, u3⟩ := bs_ok ok r1.2 r1.1 (fil_256 o2 hB he) r2
      refine ⟨u1, u2, u3, by split <;> omega, ?_⟩
      rcases r2 with ⟨v, -, -, -, -, rfl⟩ | ⟨-, rfl, -⟩ <;> omega
end NLR
/-- one line; la: how many lines have been read with the last that was not empty -/
def liR (IM : Nat → aM) (B : Nat → Nat) (la : Nat) (S : yS) (m : aM) (s e x : Nat) (S' : yS) (m' : aM) (a b : Nat) : Prop := (la = 0 ∧ frmR S IM B s e x m' ∧ S' = S ∧ a = 0 ∧ b = 0) ∨ (la ≠ 0 ∧ nlR S m B s e x S' m' a b)
abbrev aR : Type := Nat × Nat × yS × aM × Nat × Nat
/-- all lines from p on: fault, last, yard, image, steps, hits -/
def bdR (IM : Nat → aM) (B : Nat → Nat) (n : Nat) : Nat → Nat → Nat → Nat → yS → aM → Nat → Nat → aR → Prop
  | 0, _, _, _, _, _, _, _, _ => False
  | d + 1, p, nr, la, S, m, st, hi, R => (n ≤ p ∧ R = (0, la, S, m, st, hi)) ∨ (p < n ∧ ((fnd B 10 p (n - p) = p ∧ bdR IM B n d (p + 1) (nr + 1) la S m st hi R) ∨ (p < fnd B 10 p (n - p) ∧ ∃ x S1 m1 a b, liR IM B la S m p (fnd B 10 p (n - p)) x S1 m1 a b ∧ ((x = 0 ∧ bdR IM B n d (fnd B 10 p (n - p) + 1) (nr + 1) (nr + 1) S1 m1 (st + a) (hi + b) R) ∨ (x ≠ 0 ∧ R = (x, nr + 1, S1, m1, st + a, hi + b))))))
section BDR
variable {IM : Nat → aM} {B : Nat → Nat} {n : Nat}
set_option maxRecDepth 16384 in
theorem li_det {la s e x1 x2 a1 a2 b1 b2 : Nat} {S S1 S2 : yS} {m m1 m2 : aM} (ok : la = 0 ∨ bOK S m) (hB : ∀ j, j < n → B j < 256) (he : e ≤ n) (h1 : liR IM B la S m s e x1 S1 m1 a1 b1) (h2 : liR IM B la S m s e x2 S2 m2 a2 b2) : x1 = x2 ∧ S1 = S2 ∧ m1 = m2 ∧ a1 = a2 ∧ b1 = b2 := by
  rcases h1 with ⟨l1, p1, rfl, rfl, rfl⟩ | ⟨l1, p1⟩ <;> rcases h2 with ⟨l2, q1, rfl, rfl, rfl⟩ | ⟨l2, q1⟩
  · obtain ⟨r1, r2⟩ := frmR_det p1 q1
    exact ⟨r1, rfl, r2, rfl, rfl⟩
  · exact absurd l1 l2
  · exact absurd l2 l1
  · exact nl_det (ok.resolve_left l1) hB he p1 q1
set_option maxRecDepth 16384 in
theorem li_ok {la s e x a b : Nat} {S S' : yS} {m m' : aM} (oy : yOK S) (ok : la = 0 ∨ bOK S m) (td : la = 0 → tdS S IM) (hB : ∀ j, j < n → B j < 256) (he : e ≤ n) (h : liR IM B la S m s e x S' m' a b) : yOK S' ∧ (x = 0 → bOK S' m') ∧ x ≤ 5 ∧ a ≤ 1 ∧ b ≤ 1 := by
  rcases h with ⟨l1, p1, rfl, rfl, rfl⟩ | ⟨l1, p1⟩
  · refine ⟨oy, fun x0 => ?_, ?_, by omega, by omega⟩
    · rcases p1 with ⟨-, -, rfl⟩ | ⟨-, j, ft, ⟨y, -, rfl⟩ | ⟨-, z, -⟩⟩ | ⟨-, -, z, -⟩
      · exact ⟨oy, imE_ok, fun i hi => absurd hi (Nat.not_lt_zero i)⟩
      · have := tdS_ok (yOK_good oy).1 (td l1) ft.2.2.2 y
        exact ⟨oy, this.1, this.2⟩
      · omega
      · omega
    · rcases p1 with ⟨-, rfl, -⟩ | ⟨-, j, -, ⟨-, rfl, -⟩ | ⟨-, rfl, -⟩⟩ | ⟨-, -, rfl, -⟩ <;> omega
  · exact nl_ok (ok.resolve_left l1) hB he p1
set_option maxRecDepth 16384 in
theorem bd_det (hB : ∀ j, j < n → B j < 256) : ∀ d d' p nr la S m st hi R R', yOK S → (la = 0 ∨ bOK S m) → (la = 0 → tdS S IM) → bdR IM B n d p nr la S m st hi R → bdR IM B n d' p nr la S m st hi R' → R = R' := by
  intro d
  induction d with
  | zero => intro d' p nr la S m st hi R R' _ _ _ h; exact absurd h (fun z => z)
  | succ d ih =>
    intro d' p nr la S m st hi R R' oy ok td h1 h2
    cases d' with
    | zero => exact absurd h2 (fun z => z)
    | succ d' =>
      have rg := fnd_rng (B := B) (c := 10) (n - p) p
      rcases h1 with ⟨p1, rfl⟩ | ⟨p1, p2⟩ <;> rcases h2 with ⟨q1, rfl⟩ | ⟨q1, q2⟩
      · rfl
      · omega
      · omega
      · rcases p2 with ⟨a1, a2⟩ | ⟨a1, x, S1, m1, a, b, a2, a3⟩ <;> rcases q2 with ⟨c1, c2⟩ | ⟨c1, x', S1', m1', a', b', c2, c3⟩
        · exact ih d' _ _ _ _ _ _ _ R R' oy ok td a2 c2
        · omega
        · omega
        · obtain ⟨r1, r2, r3, r4, r5⟩ := li_det ok hB (by omega) a2 c2
          subst r1 r2 r3 r4 r5
          have lo := li_ok oy ok td hB (by omega) a2
          rcases a3 with ⟨e1, e2⟩ | ⟨e1, rfl⟩ <;> rcases c3 with ⟨f1, f2⟩ | ⟨f1, rfl⟩
          · exact ih d' _ _ _ _ _ _ _ R R' lo.1 (.inr (lo.2.1 e1)) (fun z => absurd z (Nat.succ_ne_zero _)) e2 f2
          · exact absurd e1 f1
          · exact absurd f1 e1
          · rfl
end BDR
