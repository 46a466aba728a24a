/-! x says whether p -/
def says (x : Int32) (p : Prop) : Prop := (x = 1 ∧ p) ∨ (x = 0 ∧ ¬ p)
set_option maxRecDepth 16384 in
theorem says_congr {x : Int32} {p p' : Prop} (w : says x p) (e : p ↔ p') : says x p' := by unfold says at *; rw [← e]; exact w
set_option maxRecDepth 16384 in
theorem says_nar {x : Int32} {p : Prop} (w : says x p) : narrow .boolean (.int x) = .int x := by
  rcases w with ⟨rfl, -⟩ | ⟨rfl, -⟩
  · decide
  · decide
