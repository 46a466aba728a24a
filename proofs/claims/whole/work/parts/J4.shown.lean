/-! IMAGE and ENTRY keep the invariant -/
section SHOWN
variable {sx : Nat × (Nat → Int32)} {h : px_H} {i : Nat} {a b c : Option Value} {Q : px_O → px_H → Prop}
set_option maxRecDepth 16384 in
theorem inv_image_all {y w : Int32} (hL : sx.1 ≤ 3072) (hi : i + 6 ≤ sx.1) (hx : sx.2 (i + 1) = y) (hw : sx.2 (i + 2) = w) (I : Inv h) (hc : h.2.length + 1 ≤ px_CT) (hs : h.1 + 6 ≤ px_ST) (hQ : beh sx i h Q) : px_Wp sx 277 531 (lawL (nI i) a b c) [] h Q :=
  inv_image hL hi hx hw I hc hs hQ (fun q j S hq hj e1 e2 e3 ok cy ry te => st_image_2 hL hi e1 e2 e3 I hq hj ok cy ry te hQ)
set_option maxRecDepth 16384 in
theorem inv_entry {y w : Int32} (hL : sx.1 ≤ 3072) (hi : i + 6 ≤ sx.1) (hx : sx.2 (i + 1) = y) (hw : sx.2 (i + 2) = w) (I : Inv h) (hc : h.2.length + 1 ≤ px_CT) (hs : h.1 + 6 ≤ px_ST) (hQ : beh sx i h Q) : px_Wp sx 277 690 (lawL (nI i) a b c) [] h Q := by
  have hS := I.1
  have T := inv_told I
  refine st_entry_0 hL hi hx hw hS hc hs T.1 T.2 (fun q j _ hq hj _ e1 e2 t0 => ?_) (fin_thr I hQ)
  obtain ⟨S, ok, cy, ry⟩ := I.2.2.2.2.2.1 q hq
  have te := told_of ry hj t0
  exact st_entry_t hL hi e1 e2 rfl rfl rfl I hc hs hq hj ok cy ry te hQ
end SHOWN
