/-! ROWS -/
set_option maxRecDepth 16384 in
theorem in_01 : px_in 0 1 = true := by decide
set_option maxRecDepth 16384 in
theorem lgc_self (x : Int64) : lg_cmp x x = 0 := by unfold lg_cmp; simp
set_option maxRecDepth 16384 in
theorem wr_id {h : px_H} {r : Nat} {x : px_C} (hr : h.2[r]? = some x) : px_wr h r x = h := by
  unfold px_wr
  obtain ⟨hl, he⟩ := List.getElem?_eq_some_iff.mp hr
  rw [← he, List.set_getElem_self]
/-- the byte of an int -/
def by8 (x : Int32) : Int32 := x.toInt8.toInt32
set_option maxRecDepth 16384 in
theorem nar_by (x : Int32) : px_nar 0 x.toInt8.toInt32 = by8 x := by
  show x.toInt8.toInt32.toInt8.toInt32 = by8 x
  rw [Int8.toInt8_toInt32]; rfl
set_option maxRecDepth 16384 in
theorem by_255 (x : Int32) : by8 x &&& 255 = x &&& 255 := by
  apply Int32.toBitVec_inj.mp
  unfold by8
  apply BitVec.eq_of_getLsbD_eq
  intro i hi
  simp only [Int32.toBitVec_and, BitVec.getLsbD_and]
  by_cases h8 : i < 8
  · rw [Int8.toBitVec_toInt32, Int32.toBitVec_toInt8, BitVec.getLsbD_signExtend, if_pos h8, BitVec.getLsbD_signExtend, if_pos hi]
    simp [hi, h8]
  · have h0 : (Int32.toBitVec 255).getLsbD i = false := by
      show (BitVec.ofNat 32 255).getLsbD i = false
      rw [BitVec.getLsbD_ofNat, Nat.testBit_lt_two_pow (Nat.lt_of_lt_of_le (show 255 < 2 ^ 8 by decide) (Nat.pow_le_pow_right (by decide) (by omega))), Bool.and_false]
    rw [h0, Bool.and_false, Bool.and_false]
/-- a Row at r with room N, n bytes, its cells f -/
def rowAt (h : px_H) (r N n : Nat) (f : Nat → Int32) : Prop := h.2[r]? = some (.inl (1, [.ref (r + 1), .int (nI n)])) ∧ h.2[r + 1]? = some (.inr (0, N, .inl f)) ∧ n ≤ N ∧ N ≤ 40000
set_option maxRecDepth 16384 in
theorem rowAt_lt {h : px_H} {r N n : Nat} {f : Nat → Int32} (w : rowAt h r N n f) : r + 1 < h.2.length := (List.getElem?_eq_some_iff.mp w.2.1).1
set_option maxRecDepth 16384 in
theorem nI_sub {a b : Nat} (h : b ≤ a) : nI a - nI b = nI (a - b) := by
  obtain ⟨d, rfl⟩ := Nat.le.dest h
  rw [Nat.add_sub_cancel_left, ← nI_add]
  apply Int32.toBitVec_inj.mp
  rw [Int32.toBitVec_sub, Int32.toBitVec_add, BitVec.add_comm, BitVec.add_sub_cancel]
set_option maxRecDepth 16384 in
theorem r_hasRoom {sx : Nat × (Nat → Int32)} {h : px_H} {r N n : Nat} {f : Nat → Int32} {x : Int32} {Q : px_O → px_H → Prop} (w : rowAt h r N n f) :
    px_Wp sx 27 0 [some (.ref r), some (.int x)] [] h Q ↔ if nI (N - n) < x then Q (.inl (some (.int 0))) h else Q (.inl (some (.int 1))) h := by
  obtain ⟨h1, h2, h3, h4⟩ := w
  simp only [pc27_0, pc27_1, pc27_1n, pc27_2, pc27_5, pc27_6, pc27_6n, pc27_7, pc27_10, pc27_11, pc27_14, pc27_15, pc27_18, pc27_19, px_op_some, px_kv_ap, px_ki_ap, px_kl_ap, px_kn_ap, px_kh_ap, px_op_none, px_K_some, px_K_none, px_K_thr, px_kill, ↓reduceIte, if_true, if_false, true_and, and_true, px_gf, px_pf, px_ai, px_aj, px_aa, px_wi, px_wj, px_wa, px_an, px_cls, tg_0, List.getElem?_cons_zero, List.getElem?_cons_succ, h1, h2, show Int32.ofNat N - nI n = nI (N - n) from nI_sub h3, nar_0, nar_1]
set_option maxRecDepth 16384 in
theorem r_add {sx : Nat × (Nat → Int32)} {h : px_H} {r N n : Nat} {f : Nat → Int32} {x : Int32} {Q : px_O → px_H → Prop} (w : rowAt h r N n f) (hn : n < N) :
    px_Wp sx 28 0 [some (.ref r), some (.int x)] [] h Q ↔ Q (.inl none) (px_wr (px_wr h (r + 1) (.inr (0, N, .inl (px_up f n (by8 x))))) r (.inl (1, [.ref (r + 1), .int (nI (n + 1))]))) := by
  have hl := rowAt_lt w
  obtain ⟨h1, h2, h3, h4⟩ := w
  have hge : ¬ Int32.ofNat N ≤ nI n := nI_ge hn (by omega)
  have hne : r + 1 ≠ r := by omega
  have hin : px_in (nI n) N = true := px_inb hn (by omega)
  simp only [pc28_0, pc28_0n, pc28_1, pc28_4, pc28_4n, pc28_5, pc28_8, pc28_9, pc28_12, pc28_12n, pc28_13, pc28_16, pc28_16n, pc28_17, pc28_20, pc28_21, pc28_22, pc28_23, pc28_23n, pc28_24, pc28_24r, pc28_25, pc28_28, pc28_29, pc28_30, pc28_33, px_op_some, px_kv_ap, px_ki_ap, px_kl_ap, px_kn_ap, px_kh_ap, px_op_none, px_K_some, px_K_none, px_K_thr, px_kill, ↓reduceIte, if_true, if_false, true_and, and_true, px_gf, px_pf, px_ai, px_aj, px_aa, px_wi, px_wj, px_wa, px_an, px_cls, tg_0, List.getElem?_cons_zero, List.getElem?_cons_succ, List.length_cons, List.length_nil, Nat.reduceAdd, Nat.reduceLT, List.set_cons_zero, List.set_cons_succ, px_fit, and_self, h1, h2, hge, tg_b0, hin, wr_at, hne, nI_clamp (show n < 2 ^ 31 by omega), nI_1, nar_by]
set_option maxRecDepth 16384 in
theorem r_at {sx : Nat × (Nat → Int32)} {h : px_H} {r N n : Nat} {f : Nat → Int32} {x : Int32} {Q : px_O → px_H → Prop} (w : rowAt h r N n f) :
    px_Wp sx 30 0 [some (.ref r), some (.int x)] [] h Q ↔ Q (.inl (some (.int (if x < 0 then -1 else if nI n ≤ x then -1 else f x.toNatClampNeg &&& 255)))) h := by
  have hl := rowAt_lt w
  obtain ⟨h1, h2, h3, h4⟩ := w
  by_cases g1 : x < 0
  · simp only [pc30_0, pc30_1, pc30_4, pc30_5, pc30_5n, pc30_6, pc30_9, pc30_12, pc30_12n, pc30_13, pc30_16, pc30_17, pc30_18, pc30_21, pc30_22, pc30_25, pc30_26, px_op_some, px_kv_ap, px_ki_ap, px_kl_ap, px_kn_ap, px_kh_ap, px_op_none, px_K_some, px_K_none, px_K_thr, px_kill, ↓reduceIte, if_true, if_false, true_and, and_true, px_gf, px_pf, px_ai, px_aj, px_aa, px_wi, px_wj, px_wa, px_an, px_cls, List.getElem?_cons_zero, List.getElem?_cons_succ, h1, h2, g1]
  · by_cases g2 : nI n ≤ x
    · simp only [pc30_0, pc30_1, pc30_4, pc30_5, pc30_5n, pc30_6, pc30_9, pc30_12, pc30_12n, pc30_13, pc30_16, pc30_17, pc30_18, pc30_21, pc30_22, pc30_25, pc30_26, px_op_some, px_kv_ap, px_ki_ap, px_kl_ap, px_kn_ap, px_kh_ap, px_op_none, px_K_some, px_K_none, px_K_thr, px_kill, ↓reduceIte, if_true, if_false, true_and, and_true, px_gf, px_pf, px_ai, px_aj, px_aa, px_wi, px_wj, px_wa, px_an, px_cls, List.getElem?_cons_zero, List.getElem?_cons_succ, h1, h2, g1, g2]
    · have hin : px_in x N = true := by
        obtain ⟨j, hj, rfl⟩ := nI_of g1
        have : j < n := by
          apply Nat.lt_of_not_le; intro q; exact g2 (nI_le q hj)
        exact px_inb (by omega) (by omega)
      simp only [pc30_0, pc30_1, pc30_4, pc30_5, pc30_5n, pc30_6, pc30_9, pc30_12, pc30_12n, pc30_13, pc30_16, pc30_17, pc30_18, pc30_21, pc30_22, pc30_25, pc30_26, px_op_some, px_kv_ap, px_ki_ap, px_kl_ap, px_kn_ap, px_kh_ap, px_op_none, px_K_some, px_K_none, px_K_thr, px_kill, ↓reduceIte, if_true, if_false, true_and, and_true, px_gf, px_pf, px_ai, px_aj, px_aa, px_wi, px_wj, px_wa, px_an, px_cls, List.getElem?_cons_zero, List.getElem?_cons_succ, h1, h2, g1, g2, tg_b0, hin]
