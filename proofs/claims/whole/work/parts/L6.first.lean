/-! FROM, the reference's -/
set_option maxRecDepth 16384 in
theorem wrd_app {B : Nat → Nat} {s e : Nat} {w1 w2 : List Nat} : wrd B s e (w1 ++ w2) ↔ wrd B s (s + w1.length) w1 ∧ wrd B (s + w1.length) e w2 := by
  induction w1 generalizing s with
  | nil => exact ⟨fun z => ⟨wrd_nil.mpr rfl, z⟩, fun z => z.2⟩
  | cons a w1 ih =>
    rw [List.cons_append, wrd_cons, wrd_cons, ih, List.length_cons, show s + (w1.length + 1) = s + 1 + w1.length by omega]
    exact ⟨fun z => ⟨⟨by omega, z.2.1, z.2.2.1⟩, z.2.2.2⟩, fun z => ⟨by have := z.2.1; omega, z.1.2.1, z.1.2.2, z.2⟩⟩
section FROM
variable {B : Nat → Nat} {s e : Nat}
/-! FROM, then a space, then the word w -/
set_option maxRecDepth 16384 in
theorem from_iff {w : List Nat} (hw : w ≠ [] ∨ True) (hs : s < e) : wrd B s e ([70, 82, 79, 77] ++ 32 :: w) ↔ (wrd B s (fnd B 32 s (e - s)) [70, 82, 79, 77] ∧ fnd B 32 s (e - s) < e) ∧ wrd B (fnd B 32 s (e - s) + 1) e w := by
  rw [wrd_app, wrd_cons]
  show wrd B s (s + 4) [70, 82, 79, 77] ∧ s + 4 < e ∧ B (s + 4) = 32 ∧ wrd B (s + 4 + 1) e w ↔ _
  refine ⟨fun z => ?_, fun z => ?_⟩
  · obtain ⟨z1, z2, z3, z4⟩ := z
    have : fnd B 32 s (e - s) = s + 4 := fnd_at z3 (e - s) s (by omega) (by omega) (fun j a b => by
      have h := z1.2 (j - s) (by show j - s < 4; omega)
      rw [show s + (j - s) = j by omega] at h
      rw [h]
      have : j - s = 0 ∨ j - s = 1 ∨ j - s = 2 ∨ j - s = 3 := by omega
      rcases this with x | x | x | x <;> rw [x] <;> decide)
    rw [this]
    exact ⟨⟨z1, z2⟩, z4⟩
  · obtain ⟨⟨z1, z2⟩, z4⟩ := z
    have e4 : fnd B 32 s (e - s) = s + 4 := z1.1
    have sp := fnd_is (B := B) (c := 32) (e - s) s (by omega)
    rw [e4] at z1 z2 z4 sp
    exact ⟨z1, z2, sp, z4⟩
set_option maxRecDepth 16384 in
theorem fromE_iff (hs : s < e) : fromE B s e ↔ (wrd B s (fnd B 32 s (e - s)) [70, 82, 79, 77] ∧ fnd B 32 s (e - s) < e) ∧ wrd B (fnd B 32 s (e - s) + 1) e [101, 109, 112, 116, 121] := from_iff (.inr trivial) hs
set_option maxRecDepth 16384 in
theorem fromT_iff (hs : s < e) {j : Nat} : fromT B s e j ↔ (wrd B s (fnd B 32 s (e - s)) [70, 82, 79, 77] ∧ fnd B 32 s (e - s) < e) ∧ e = fnd B 32 s (e - s) + 2 ∧ B (fnd B 32 s (e - s) + 1) = 48 + j ∧ j < 8 := by
  have k := from_iff (B := B) (s := s) (e := e) (w := [B (e - 1)]) (.inr trivial) hs
  have a : wrd B s e ([70, 82, 79, 77] ++ 32 :: [B (e - 1)]) ↔ wrd B s (e - 1) [70, 82, 79, 77, 32] := by
    have := wrd_app (B := B) (s := s) (e := e) (w1 := [70, 82, 79, 77, 32]) (w2 := [B (e - 1)])
    refine ⟨fun z => ?_, fun z => ?_⟩
    · have z' := this.mp z
      have e5 := (wrd_cons.mp z'.2)
      have e6 := wrd_nil.mp e5.2.2
      have h5 : s + 5 + 1 = e := e6
      rw [show e - 1 = s + 5 by omega]; exact z'.1
    · have h5 : e - 1 = s + 5 := z.1
      refine this.mpr ⟨by show wrd B s (s + 5) _; rw [← h5]; exact z, wrd_cons.mpr ⟨by show s + 5 < e; omega, by show B (s + 5) = B (e - 1); rw [h5], wrd_nil.mpr (by show s + 5 + 1 = e; omega)⟩⟩
  unfold fromT
  rw [← a, k]
  refine ⟨fun z => ?_, fun z => ?_⟩
  · obtain ⟨⟨z1, z2⟩, z3, z4, z5⟩ := z
    have e1 := wrd_cons.mp z2
    have e2 := wrd_nil.mp e1.2.2
    refine ⟨z1, by omega, ?_, z5⟩
    rw [show fnd B 32 s (e - s) + 1 = e - 1 by omega]; exact z4
  · obtain ⟨z1, z2, z3, z4⟩ := z
    have e1 : fnd B 32 s (e - s) + 1 = e - 1 := by omega
    refine ⟨⟨z1, wrd_cons.mpr ⟨by omega, by rw [e1], wrd_nil.mpr (by omega)⟩⟩, hs, by rw [← e1]; exact z3, z4⟩
end FROM
