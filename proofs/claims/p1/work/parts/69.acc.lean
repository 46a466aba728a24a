/-! READING BEHIND WRITES -/
set_option maxRecDepth 16384 in
theorem fI_al {h : px_H} (hS : shape h) {w r : Nat} {x : px_C} (hr : r < 669) : fI (px_al h w x) r = fI h r := by
  funext k; unfold fI; rw [cell_al w r x (by have := hS.1; omega)]
set_option maxRecDepth 16384 in
theorem fJ_al {h : px_H} (hS : shape h) {w r : Nat} {x : px_C} (hr : r < 669) : fJ (px_al h w x) r = fJ h r := by
  funext k; unfold fJ; rw [cell_al w r x (by have := hS.1; omega)]
set_option maxRecDepth 16384 in
theorem iA_al {h : px_H} (hS : shape h) {w r : Nat} {x : px_C} (hr : r < 669) : iA (px_al h w x) r = iA h r := by
  unfold iA; rw [cell_al w r x (by have := hS.1; omega)]
set_option maxRecDepth 16384 in
theorem lA_al {h : px_H} (hS : shape h) {w r : Nat} {x : px_C} (hr : r < 669) : lA (px_al h w x) r = lA h r := by
  unfold lA; rw [cell_al w r x (by have := hS.1; omega)]
set_option maxRecDepth 16384 in
theorem cell_ne (h : px_H) {r r' : Nat} (x : px_C) (hne : r ≠ r') : cell (px_wr h r x) r' = cell h r' := by rw [cell_wr, if_neg (fun q => hne q.1)]
set_option maxRecDepth 16384 in
theorem cell_eq {h : px_H} (hS : shape h) {r : Nat} (x : px_C) (hr : r < 669) : cell (px_wr h r x) r = x := by rw [cell_wr, if_pos ⟨rfl, by have := hS.1; omega⟩]
set_option maxRecDepth 16384 in
theorem fI_wr (h : px_H) {r r' : Nat} {x : px_C} (hne : r ≠ r') : fI (px_wr h r x) r' = fI h r' := by funext k; unfold fI; rw [cell_ne h x hne]
set_option maxRecDepth 16384 in
theorem fJ_wr (h : px_H) {r r' : Nat} {x : px_C} (hne : r ≠ r') : fJ (px_wr h r x) r' = fJ h r' := by funext k; unfold fJ; rw [cell_ne h x hne]
set_option maxRecDepth 16384 in
theorem iA_wr (h : px_H) {r r' : Nat} {x : px_C} (hne : r ≠ r') : iA (px_wr h r x) r' = iA h r' := by unfold iA; rw [cell_ne h x hne]
set_option maxRecDepth 16384 in
theorem lA_wr (h : px_H) {r r' : Nat} {x : px_C} (hne : r ≠ r') : lA (px_wr h r x) r' = lA h r' := by unfold lA; rw [cell_ne h x hne]
set_option maxRecDepth 16384 in
theorem fI_eq {h : px_H} (hS : shape h) {r : Nat} {x : px_C} (hr : r < 669) : fI (px_wr h r x) r = cI x := by funext k; unfold fI; rw [cell_eq hS x hr]
set_option maxRecDepth 16384 in
theorem iA_eq {h : px_H} (hS : shape h) {r : Nat} {x : px_C} (hr : r < 669) : iA (px_wr h r x) r = cA x := by unfold iA; rw [cell_eq hS x hr]
set_option maxRecDepth 16384 in
theorem lA_eq {h : px_H} (hS : shape h) {r : Nat} {x : px_C} (hr : r < 669) : lA (px_wr h r x) r = cL x := by unfold lA; rw [cell_eq hS x hr]
