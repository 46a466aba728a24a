/-! HANDLERS; small numbers -/
set_option maxRecDepth 16384 in
theorem hd_256_12 : px_hand [(0, 9, 12, 13, 12), (0, 9, 15, 15, 16)] 4 12 = some 12 := by decide
set_option maxRecDepth 16384 in
theorem hd_256_16 : px_hand [(0, 9, 12, 13, 12), (0, 9, 15, 15, 16)] 4 16 = some 15 := by decide
set_option maxRecDepth 16384 in
theorem hd_257_12 : px_hand [(0, 5, 8, 13, 12)] 2 12 = some 8 := by decide
set_option maxRecDepth 16384 in
theorem hd_258_12 : px_hand [(0, 10, 13, 13, 12)] 5 12 = some 13 := by decide
set_option maxRecDepth 16384 in
theorem hd_259_12 : px_hand [(0, 9, 12, 13, 12)] 4 12 = some 12 := by decide
set_option maxRecDepth 16384 in
theorem hd_260_12 : px_hand [(0, 9, 12, 13, 12)] 5 12 = some 12 := by decide
set_option maxRecDepth 16384 in
theorem hd_261_12 : px_hand [(0, 7, 10, 13, 12), (0, 7, 14, 36, 13), (0, 7, 18, 15, 16)] 4 12 = some 10 := by decide
set_option maxRecDepth 16384 in
theorem hd_261_13 : px_hand [(0, 7, 10, 13, 12), (0, 7, 14, 36, 13), (0, 7, 18, 15, 16)] 4 13 = some 14 := by decide
set_option maxRecDepth 16384 in
theorem hd_261_16 : px_hand [(0, 7, 10, 13, 12), (0, 7, 14, 36, 13), (0, 7, 18, 15, 16)] 4 16 = some 18 := by decide
set_option maxRecDepth 16384 in
theorem hd_262_12 : px_hand [(0, 6, 9, 13, 12), (0, 6, 12, 36, 13), (0, 6, 15, 15, 16)] 3 12 = some 9 := by decide
set_option maxRecDepth 16384 in
theorem hd_262_13 : px_hand [(0, 6, 9, 13, 12), (0, 6, 12, 36, 13), (0, 6, 15, 15, 16)] 3 13 = some 12 := by decide
set_option maxRecDepth 16384 in
theorem hd_262_16 : px_hand [(0, 6, 9, 13, 12), (0, 6, 12, 36, 13), (0, 6, 15, 15, 16)] 3 16 = some 15 := by decide
set_option maxRecDepth 16384 in
theorem hd_263_12 : px_hand [(0, 12, 15, 13, 12), (0, 12, 19, 36, 13)] 7 12 = some 15 := by decide
set_option maxRecDepth 16384 in
theorem hd_263_13 : px_hand [(0, 12, 15, 13, 12), (0, 12, 19, 36, 13)] 7 13 = some 19 := by decide
set_option maxRecDepth 16384 in
theorem hd_264_12 : px_hand [(0, 11, 14, 13, 12), (0, 11, 18, 36, 13), (0, 11, 22, 50, 14)] 7 12 = some 14 := by decide
set_option maxRecDepth 16384 in
theorem hd_264_13 : px_hand [(0, 11, 14, 13, 12), (0, 11, 18, 36, 13), (0, 11, 22, 50, 14)] 7 13 = some 18 := by decide
set_option maxRecDepth 16384 in
theorem hd_264_14 : px_hand [(0, 11, 14, 13, 12), (0, 11, 18, 36, 13), (0, 11, 22, 50, 14)] 7 14 = some 22 := by decide
set_option maxRecDepth 16384 in
theorem hd_265_12 : px_hand [(0, 16, 19, 13, 12), (0, 16, 23, 36, 13), (0, 16, 27, 50, 14)] 11 12 = some 19 := by decide
set_option maxRecDepth 16384 in
theorem hd_265_13 : px_hand [(0, 16, 19, 13, 12), (0, 16, 23, 36, 13), (0, 16, 27, 50, 14)] 11 13 = some 23 := by decide
set_option maxRecDepth 16384 in
theorem hd_265_14 : px_hand [(0, 16, 19, 13, 12), (0, 16, 23, 36, 13), (0, 16, 27, 50, 14)] 11 14 = some 27 := by decide
set_option maxRecDepth 16384 in
theorem hd_266_12 : px_hand [(0, 11, 14, 13, 12)] 6 12 = some 14 := by decide
set_option maxRecDepth 16384 in
theorem hd_267_12 : px_hand [(0, 13, 16, 13, 12), (0, 13, 20, 36, 13), (0, 13, 24, 50, 14)] 8 12 = some 16 := by decide
set_option maxRecDepth 16384 in
theorem hd_267_13 : px_hand [(0, 13, 16, 13, 12), (0, 13, 20, 36, 13), (0, 13, 24, 50, 14)] 8 13 = some 20 := by decide
set_option maxRecDepth 16384 in
theorem hd_267_14 : px_hand [(0, 13, 16, 13, 12), (0, 13, 20, 36, 13), (0, 13, 24, 50, 14)] 8 14 = some 24 := by decide
set_option maxRecDepth 16384 in
theorem hd_268_12 : px_hand [(0, 10, 13, 13, 12)] 5 12 = some 13 := by decide
set_option maxRecDepth 16384 in
theorem hd_269_12 : px_hand [(0, 10, 13, 13, 12), (0, 10, 17, 50, 14)] 5 12 = some 13 := by decide
set_option maxRecDepth 16384 in
theorem hd_269_14 : px_hand [(0, 10, 13, 13, 12), (0, 10, 17, 50, 14)] 5 14 = some 17 := by decide
set_option maxRecDepth 16384 in
theorem hd_270_12 : px_hand [(0, 5, 8, 13, 12)] 2 12 = some 8 := by decide
set_option maxRecDepth 16384 in
theorem hd_271_12 : px_hand [(0, 12, 15, 13, 12)] 7 12 = some 15 := by decide
set_option maxRecDepth 16384 in
theorem hd_272_12 : px_hand [(0, 9, 12, 13, 12)] 4 12 = some 12 := by decide
set_option maxRecDepth 16384 in
theorem hd_273_12 : px_hand [(0, 12, 15, 13, 12), (0, 12, 19, 36, 13), (0, 12, 23, 82, 15)] 7 12 = some 15 := by decide
set_option maxRecDepth 16384 in
theorem hd_273_13 : px_hand [(0, 12, 15, 13, 12), (0, 12, 19, 36, 13), (0, 12, 23, 82, 15)] 7 13 = some 19 := by decide
set_option maxRecDepth 16384 in
theorem hd_273_15 : px_hand [(0, 12, 15, 13, 12), (0, 12, 19, 36, 13), (0, 12, 23, 82, 15)] 7 15 = some 23 := by decide
set_option maxRecDepth 16384 in
theorem hd_274_12 : px_hand [(0, 9, 12, 13, 12), (0, 9, 15, 82, 15)] 4 12 = some 12 := by decide
set_option maxRecDepth 16384 in
theorem hd_274_15 : px_hand [(0, 9, 12, 13, 12), (0, 9, 15, 82, 15)] 4 15 = some 15 := by decide
set_option maxRecDepth 16384 in
theorem hd_275_12 : px_hand [(0, 6, 9, 13, 12), (0, 6, 12, 82, 15)] 3 12 = some 9 := by decide
set_option maxRecDepth 16384 in
theorem hd_275_15 : px_hand [(0, 6, 9, 13, 12), (0, 6, 12, 82, 15)] 3 15 = some 12 := by decide
set_option maxRecDepth 16384 in
theorem hd_276_12 : px_hand [(0, 10, 13, 13, 12)] 5 12 = some 13 := by decide
set_option maxRecDepth 16384 in
theorem ne_0_1 : ((0 : Int32) = 1) = False := by decide
set_option maxRecDepth 16384 in
theorem ne_0_2 : ((0 : Int32) = 2) = False := by decide
set_option maxRecDepth 16384 in
theorem ne_0_3 : ((0 : Int32) = 3) = False := by decide
set_option maxRecDepth 16384 in
theorem ne_0_4 : ((0 : Int32) = 4) = False := by decide
set_option maxRecDepth 16384 in
theorem ne_0_5 : ((0 : Int32) = 5) = False := by decide
set_option maxRecDepth 16384 in
theorem ne_1_0 : ((1 : Int32) = 0) = False := by decide
set_option maxRecDepth 16384 in
theorem ne_1_2 : ((1 : Int32) = 2) = False := by decide
set_option maxRecDepth 16384 in
theorem ne_1_3 : ((1 : Int32) = 3) = False := by decide
set_option maxRecDepth 16384 in
theorem ne_1_4 : ((1 : Int32) = 4) = False := by decide
set_option maxRecDepth 16384 in
theorem ne_1_5 : ((1 : Int32) = 5) = False := by decide
set_option maxRecDepth 16384 in
theorem ne_2_0 : ((2 : Int32) = 0) = False := by decide
set_option maxRecDepth 16384 in
theorem ne_2_1 : ((2 : Int32) = 1) = False := by decide
set_option maxRecDepth 16384 in
theorem ne_2_3 : ((2 : Int32) = 3) = False := by decide
set_option maxRecDepth 16384 in
theorem ne_2_4 : ((2 : Int32) = 4) = False := by decide
set_option maxRecDepth 16384 in
theorem ne_2_5 : ((2 : Int32) = 5) = False := by decide
set_option maxRecDepth 16384 in
theorem ne_3_0 : ((3 : Int32) = 0) = False := by decide
set_option maxRecDepth 16384 in
theorem ne_3_1 : ((3 : Int32) = 1) = False := by decide
set_option maxRecDepth 16384 in
theorem ne_3_2 : ((3 : Int32) = 2) = False := by decide
set_option maxRecDepth 16384 in
theorem ne_3_4 : ((3 : Int32) = 4) = False := by decide
set_option maxRecDepth 16384 in
theorem ne_3_5 : ((3 : Int32) = 5) = False := by decide
set_option maxRecDepth 16384 in
theorem ne_4_0 : ((4 : Int32) = 0) = False := by decide
set_option maxRecDepth 16384 in
theorem ne_4_1 : ((4 : Int32) = 1) = False := by decide
set_option maxRecDepth 16384 in
theorem ne_4_2 : ((4 : Int32) = 2) = False := by decide
set_option maxRecDepth 16384 in
theorem ne_4_3 : ((4 : Int32) = 3) = False := by decide
set_option maxRecDepth 16384 in
theorem ne_4_5 : ((4 : Int32) = 5) = False := by decide
set_option maxRecDepth 16384 in
theorem ne_5_0 : ((5 : Int32) = 0) = False := by decide
set_option maxRecDepth 16384 in
theorem ne_5_1 : ((5 : Int32) = 1) = False := by decide
set_option maxRecDepth 16384 in
theorem ne_5_2 : ((5 : Int32) = 2) = False := by decide
set_option maxRecDepth 16384 in
theorem ne_5_3 : ((5 : Int32) = 3) = False := by decide
set_option maxRecDepth 16384 in
theorem ne_5_4 : ((5 : Int32) = 4) = False := by decide
set_option maxRecDepth 16384 in
theorem nI_p1 (a : Nat) : nI a + 1 = nI (a + 1) := nI_add a 1
set_option maxRecDepth 16384 in
theorem nI_p2 (a : Nat) : nI a + 2 = nI (a + 2) := nI_add a 2
set_option maxRecDepth 16384 in
theorem nI_p3 (a : Nat) : nI a + 3 = nI (a + 3) := nI_add a 3
set_option maxRecDepth 16384 in
theorem nI_p4 (a : Nat) : nI a + 4 = nI (a + 4) := nI_add a 4
set_option maxRecDepth 16384 in
theorem nI_p5 (a : Nat) : nI a + 5 = nI (a + 5) := nI_add a 5
set_option maxRecDepth 16384 in
theorem up_at {α : Type} (f : Nat → α) (k j : Nat) (x : α) : px_up f k x j = if j = k then x else f j := rfl
set_option maxRecDepth 16384 in
theorem i32_le (x y : Int32) : (x ≤ y) = (¬ y < x) := propext Int32.not_lt.symm
