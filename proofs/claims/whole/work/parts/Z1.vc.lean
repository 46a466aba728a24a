/-! THE CLAIM -/
set_option maxRecDepth 16384 in
theorem build_keeps : BuildKeeps := fun sx i a b c h Q hL hi I hc hs hQ => inv_build (y := sx.2 (i + 1)) (w := sx.2 (i + 2)) hL hi rfl rfl I hc hs hQ
set_option maxRecDepth 16384 in
theorem i_vc : Claimed_1_1 ∧ Claimed_1_2 := i_vc_of (whole_of build_keeps)
