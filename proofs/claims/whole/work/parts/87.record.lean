/-! RECORDS: what is written to a journal, on both sides -/
set_option maxRecDepth 16384 in
theorem px_wr_comm {h : px_H} {r r' : Nat} {x x' : px_C} (hne : r ≠ r') : px_wr (px_wr h r x) r' x' = px_wr (px_wr h r' x') r x := by
  unfold px_wr
  exact Prod.ext rfl (List.set_comm _ _ hne)
set_option maxRecDepth 16384 in
theorem up_up {α : Type} (f : Nat → α) (k : Nat) (x y : α) : px_up (px_up f k x) k y = px_up f k y := by
  funext j; unfold px_up; split <;> rfl
set_option maxRecDepth 16384 in
theorem up_ne {α : Type} {f : Nat → α} {k j : Nat} {x : α} (h : j ≠ k) : px_up f k x j = f j := if_neg h
/-- the heap with another Row at r -/
def rowH (h : px_H) (r N n : Nat) (f : Nat → Int32) : px_H := px_wr (px_wr h (r + 1) (.inr (0, N, .inl f))) r (.inl (1, [.ref (r + 1), .int (nI n)]))
set_option maxRecDepth 16384 in
theorem rowH_rowH {h : px_H} {r N N' n n' : Nat} {f f' : Nat → Int32} : rowH (rowH h r N n f) r N' n' f' = rowH h r N' n' f' := by
  unfold rowH
  rw [px_wr_comm (r := r) (r' := r + 1) (by omega), px_wr_wr, px_wr_wr]
set_option maxRecDepth 16384 in
theorem rowH_len {h : px_H} {r N n : Nat} {f : Nat → Int32} : (rowH h r N n f).2.length = h.2.length := by unfold rowH; rw [px_wr_len, px_wr_len]
set_option maxRecDepth 16384 in
theorem rowH_1 {h : px_H} {r N n : Nat} {f : Nat → Int32} : (rowH h r N n f).1 = h.1 := rfl
set_option maxRecDepth 16384 in
theorem rowH_at {h : px_H} {r N n k : Nat} {f : Nat → Int32} (h1 : r ≠ k) (h2 : r + 1 ≠ k) : (rowH h r N n f).2[k]? = h.2[k]? := by
  unfold rowH; rw [wr_at, if_neg h1, wr_at, if_neg h2]
set_option maxRecDepth 16384 in
theorem rowH_r {h : px_H} {r N n : Nat} {f : Nat → Int32} (hl : r + 1 < h.2.length) : (rowH h r N n f).2[r]? = some (.inl (1, [.ref (r + 1), .int (nI n)])) := by
  unfold rowH; rw [wr_at, if_pos rfl, if_pos (by rw [px_wr_len]; omega)]
set_option maxRecDepth 16384 in
theorem rowH_c {h : px_H} {r N n : Nat} {f : Nat → Int32} (hl : r + 1 < h.2.length) : (rowH h r N n f).2[r + 1]? = some (.inr (0, N, .inl f)) := by
  unfold rowH; rw [wr_at, if_neg (by omega), wr_at, if_pos rfl, if_pos hl]
set_option maxRecDepth 16384 in
theorem rowAt_rowH {h : px_H} {r N n : Nat} {f : Nat → Int32} (hl : r + 1 < h.2.length) (hn : n ≤ N) (hN : N ≤ 40000) : rowAt (rowH h r N n f) r N n f := ⟨rowH_r hl, rowH_c hl, hn, hN⟩
set_option maxRecDepth 16384 in
theorem rowH_id {h : px_H} {r N n : Nat} {f : Nat → Int32} (w : rowAt h r N n f) : rowH h r N n f = h := by
  unfold rowH; rw [wr_id w.2.1, wr_id w.1]
/-- since f0 the bytes from R on are g's first n -/
def wrote (f0 f : Nat → Int32) (R : Nat) (g : Nat → Int32) (n : Nat) : Prop := (∀ j, j < R → f j = f0 j) ∧ ∀ k, k < n → f (R + k) &&& 255 = g k
set_option maxRecDepth 16384 in
theorem wrote_0 (f : Nat → Int32) (R : Nat) (g : Nat → Int32) : wrote f f R g 0 := ⟨fun _ _ => rfl, fun k hk => absurd hk (by omega)⟩
set_option maxRecDepth 16384 in
theorem wrote_up {f0 f : Nat → Int32} {R : Nat} {g : Nat → Int32} {n : Nat} {x : Int32} (w : wrote f0 f R g n) (hx : x &&& 255 = g n) : wrote f0 (px_up f (R + n) (by8 x)) R g (n + 1) := by
  refine ⟨fun j hj => by rw [up_ne (by omega)]; exact w.1 j hj, fun k hk => ?_⟩
  by_cases e : k = n
  · subst e; rw [up_same, by_255, hx]
  · rw [up_ne (by omega)]; exact w.2 k (by omega)
section RECC
variable {sx : Nat × (Nat → Int32)} {h : px_H} {r N R a : Nat} {f0 f g : Nat → Int32} {Q : px_O → px_H → Prop}
set_option maxRecDepth 16384 in
theorem c_add {x : Int32} (hl : r + 1 < h.2.length) (hN : N ≤ 40000) (hr : R + a + 1 ≤ N) (w : wrote f0 f R g a) (hx : x &&& 255 = g a) (hQ : ∀ f', wrote f0 f' R g (a + 1) → Q (.inl none) (rowH h r N (R + (a + 1)) f')) :
    px_Wp sx 28 0 [some (.ref r), some (.int x)] [] (rowH h r N (R + a) f) Q := by
  rw [r_add (rowAt_rowH hl (by omega) hN) (by omega)]
  exact Eq.mp (congrArg (Q (.inl none)) (rowH_rowH (h := h) (r := r) (N := N) (n := R + a) (n' := R + a + 1) (f := f)).symm) (hQ _ (wrote_up w hx))
set_option maxRecDepth 16384 in
theorem ushr_8 {m : Nat} (hm : m < 65536) : ((nI m).toUInt32 >>> ((8 : Int32).toUInt32 &&& Int32.toUInt32 31)).toInt32 = nI (m / 256) := by
  have e : ((8 : Int32).toUInt32 &&& Int32.toUInt32 31) = 8 := by decide
  rw [e]
  apply Int32.toBitVec_inj.mp
  show ((nI m).toUInt32 >>> 8).toBitVec = (nI (m / 256)).toBitVec
  rw [UInt32.toBitVec_shiftRight]
  show (BitVec.ofNat 32 m) >>> ((8 : BitVec 32) % 32) = BitVec.ofNat 32 (m / 256)
  rw [show ((8 : BitVec 32) % 32) = 8#32 by decide, BitVec.ushiftRight_eq', show (8#32).toNat = 8 by decide]
  apply BitVec.eq_of_toNat_eq
  rw [BitVec.toNat_ushiftRight, BitVec.toNat_ofNat, BitVec.toNat_ofNat, Nat.mod_eq_of_lt (by omega), Nat.mod_eq_of_lt (by omega), Nat.shiftRight_eq_div_pow]
set_option maxRecDepth 16384 in
theorem nI_255 (m : Nat) : nI m &&& 255 = nI (m % 256) := by
  apply Int32.toBitVec_inj.mp
  show (BitVec.ofNat 32 m) &&& (BitVec.ofNat 32 255) = BitVec.ofNat 32 (m % 256)
  apply BitVec.eq_of_toNat_eq
  rw [BitVec.toNat_and, BitVec.toNat_ofNat, BitVec.toNat_ofNat, BitVec.toNat_ofNat, show 255 % 2 ^ 32 = 2 ^ 8 - 1 by decide, Nat.and_two_pow_sub_one_eq_mod, Nat.mod_mod_of_dvd _ (by decide), Nat.mod_eq_of_lt (a := m % 256) (by omega)]
set_option maxRecDepth 16384 in
theorem nI_small {m : Nat} (h : m < 256) : nI m &&& 255 = nI m := by rw [nI_255, Nat.mod_eq_of_lt h]
set_option maxRecDepth 16384 in
theorem c_short {m : Nat} (hm : m < 65536) (hl : r + 1 < h.2.length) (hN : N ≤ 40000) (hr : R + a + 2 ≤ N) (w : wrote f0 f R g a) (h0 : nI (m % 256) = g a) (h1 : nI (m / 256) = g (a + 1)) (hQ : ∀ f', wrote f0 f' R g (a + 2) → Q (.inl none) (rowH h r N (R + (a + 2)) f')) :
    px_Wp sx 38 0 [some (.ref r), some (.int (nI m))] [] (rowH h r N (R + a) f) Q := by
  have hcl : px_cls (rowH h r N (R + a) f) r = some 1 := by unfold px_cls; rw [rowH_r hl]
  simp only [pc38_0, pc38_0n, pc38_1, pc38_2, hcl, true_and]
  refine c_add hl hN (by omega) w ((nI_255 m).trans h0) (fun f1 w1 => ?_)
  have hcl : px_cls (rowH h r N (R + (a + 1)) f1) r = some 1 := by unfold px_cls; rw [rowH_r hl]
  simp only [px_K_none, pc38_5, pc38_5n, pc38_6, pc38_7, pc38_9, pc38_10, hcl, true_and, ushr_8 hm]
  refine c_add hl hN (by omega) w1 ((nI_small (by omega)).trans h1) (fun f2 w2 => ?_)
  simp only [px_K_none, pc38_13]
  exact hQ f2 w2
/-- a byte of a long -/
def lb (v : Int64) (y : Int32) : Int32 := ((v.toUInt64 >>> (y.toInt64.toUInt64 &&& Int64.toUInt64 63)).toInt64).toInt32
set_option maxRecDepth 16384 in
theorem c_long {v : Int64} (hl : r + 1 < h.2.length) (hN : N ≤ 40000) (hr : R + a + 8 ≤ N) (hg : ∀ k, k < 8 → lb v (nI (8 * k)) &&& 255 = g (a + k)) (hQ : ∀ f', wrote f0 f' R g (a + 8) → Q (.inl none) (rowH h r N (R + (a + 8)) f')) :
    ∀ m k, k + m = 8 → ∀ f, wrote f0 f R g (a + k) → px_Wp sx 35 2 [some (.ref r), some (.long v), none, some (.int (nI (8 * k)))] [] (rowH h r N (R + (a + k)) f) Q := by
  intro m
  induction m with
  | zero =>
    intro k hk f w
    have hk : k = 8 := by omega
    subst hk
    simp only [pc35_2, pc35_3, pc35_5, pc35_22, show (64 : Int32) = nI (8 * 8) from rfl, if_pos (Int32.le_refl (nI (8 * 8)))]
    exact hQ f w
  | succ m ih =>
    intro k hk f w
    have hge : ¬ (64 : Int32) ≤ nI (8 * k) := nI_ge (b := 64) (by omega) (by decide)
    have hcl : px_cls (rowH h r N (R + (a + k)) f) r = some 1 := by unfold px_cls; rw [rowH_r hl]
    rw [pc35_2]
    simp only [pc35_3, pc35_5, pc35_8, pc35_8n, pc35_9, pc35_10, pc35_11, pc35_12, pc35_13, if_neg hge, hcl, true_and]
    refine c_add (x := lb v (nI (8 * k))) hl hN (by omega) w (hg k (by omega)) (fun f1 w1 => ?_)
    simp only [px_K_none, pc35_16, pc35_19, px_kill, show nI (8 * k) + 8 = nI (8 * (k + 1)) from nI_add (8 * k) 8]
    exact ih (k + 1) (by omega) f1 w1
set_option maxRecDepth 16384 in
theorem c_addLong {v : Int64} (hl : r + 1 < h.2.length) (hN : N ≤ 40000) (hr : R + a + 8 ≤ N) (w : wrote f0 f R g a) (hg : ∀ k, k < 8 → lb v (nI (8 * k)) &&& 255 = g (a + k)) (hQ : ∀ f', wrote f0 f' R g (a + 8) → Q (.inl none) (rowH h r N (R + (a + 8)) f')) :
    px_Wp sx 35 0 [some (.ref r), some (.long v), none, none] [] (rowH h r N (R + a) f) Q := by
  simp only [pc35_0, pc35_1, px_kill]
  exact c_long hl hN hr hg hQ 8 0 (by decide) f w
/-- the sum of the first n -/
def sumF (g : Nat → Int32) : Nat → Int32
  | 0 => 0
  | n + 1 => sumF g n + g n
set_option maxRecDepth 16384 in
theorem c_sum_l {Y n : Nat} {x y z : Int32} (hY : h.2[Y]? = some (.inl (7, yrdF Y x y z))) (w : rowAt h (Y + 1) 40000 n f) (hn : R + a ≤ n) (hf : ∀ k, k < a → f (R + k) &&& 255 = g k) (hQ : Q (.inl (some (.int (sumF g a &&& 255)))) h) :
    ∀ m k, k + m = a → px_Wp sx 95 5 [some (.ref Y), some (.int (nI R)), some (.int (nI (R + a))), some (.int (sumF g k)), some (.int (nI (R + k)))] [] h Q := by
  have hn4 := w.2.2
  intro m
  induction m with
  | zero =>
    intro k hk
    have hk : k = a := by omega
    subst hk
    simp only [pc95_5, pc95_7, pc95_8, pc95_29, pc95_30, pc95_33, pc95_34, if_pos (Int32.le_refl (nI (R + k)))]
    exact hQ
  | succ m ih =>
    intro k hk
    have hge : ¬ nI (R + a) ≤ nI (R + k) := nI_ge (by omega) (by omega)
    have hcl : px_cls h (Y + 1) = some 1 := by unfold px_cls; rw [w.1]
    have h0 : ¬ nI (R + k) < 0 := nI_pos (by omega)
    have h1 : ¬ nI n ≤ nI (R + k) := nI_ge (by omega) (by omega)
    have hc : (nI (R + k)).toNatClampNeg = R + k := nI_clamp (by omega)
    rw [pc95_5]
    unfold yrdF at hY
    simp only [pc95_7, pc95_8, pc95_11, pc95_12, pc95_12n, pc95_13, pc95_16, pc95_18, px_gf, hY, if_true, List.getElem?_cons_zero, px_op_some, px_kv_ap, px_ki_ap, px_kl_ap, px_kn_ap, px_kh_ap, if_neg hge, hcl, true_and]
    rw [r_at w]
    simp only [px_K_some, pc95_21, pc95_22, pc95_23, pc95_26, px_kill, if_neg h0, if_neg h1, hc, hf k (by omega), nI_1]
    exact ih (k + 1) (by omega)
set_option maxRecDepth 16384 in
theorem c_sum {Y n : Nat} {x y z : Int32} (hY : h.2[Y]? = some (.inl (7, yrdF Y x y z))) (w : rowAt h (Y + 1) 40000 n f) (hn : R + a ≤ n) (hf : ∀ k, k < a → f (R + k) &&& 255 = g k) (hQ : Q (.inl (some (.int (sumF g a &&& 255)))) h) :
    px_Wp sx 95 0 [some (.ref Y), some (.int (nI R)), some (.int (nI (R + a))), none, none] [] h Q := by
  simp only [pc95_0, pc95_1, pc95_2, pc95_3, px_kill]
  exact c_sum_l hY w hn hf hQ a 0 (by omega)
set_option maxRecDepth 16384 in
theorem c_close {Y : Nat} {x y z : Int32} (hl : Y + 2 < h.2.length) (hY : h.2[Y]? = some (.inl (7, yrdF Y x y z))) (w : wrote f0 f R g a) (hr : R + a + 1 ≤ 40000) (hg : sumF g a &&& 255 = g a) (hQ : ∀ f', wrote f0 f' R g (a + 1) → Q (.inl none) (rowH h (Y + 1) 40000 (R + (a + 1)) f')) :
    px_Wp sx 94 0 [some (.ref Y), some (.int (nI R))] [] (rowH h (Y + 1) 40000 (R + a) f) Q := by
  have hY' : (rowH h (Y + 1) 40000 (R + a) f).2[Y]? = some (.inl (7, yrdF Y x y z)) := by rw [rowH_at (by omega) (by omega)]; exact hY
  have hw := rowAt_rowH (h := h) (r := Y + 1) (N := 40000) (n := R + a) (f := f) hl (by omega) (by omega)
  have hcY : px_cls (rowH h (Y + 1) 40000 (R + a) f) Y = some 7 := by unfold px_cls; rw [hY']
  have hcR : px_cls (rowH h (Y + 1) 40000 (R + a) f) (Y + 1) = some 1 := by unfold px_cls; rw [hw.1]
  have hY2 := hY'
  unfold yrdF at hY2
  simp only [pc94_0, pc94_0n, pc94_1, pc94_4, pc94_4n, pc94_5, pc94_6, pc94_6n, pc94_7, pc94_10, pc94_13, px_gf, hY2, hw.1, if_true, List.getElem?_cons_zero, List.getElem?_cons_succ, px_op_some, px_kv_ap, px_ki_ap, px_kl_ap, px_kn_ap, px_kh_ap, hcY, true_and]
  refine c_sum hY' hw (by omega) w.2 ?_
  simp only [px_K_some, pc94_16, hcR, true_and]
  have e : sumF g a &&& 255 &&& 255 = g a := by rw [Int32.and_assoc, Int32.and_self, hg]
  refine c_add hl (by omega) (by omega) w e (fun f1 w1 => ?_)
  simp only [px_K_none, pc94_19]
  exact hQ f1 w1
set_option maxRecDepth 16384 in
theorem c_open {Y m kd : Nat} {x y z : Int32} (hl : Y + 2 < h.2.length) (hY : h.2[Y]? = some (.inl (7, yrdF Y x y z))) (hm : m ≤ 39000) (hR : R ≤ 40000) (hk : kd < 256) (g0 : g 0 = nI kd) (g1 : g 1 = nI (m % 256)) (g2 : g 2 = nI (m / 256)) (g3 : g 3 = nI (m % 256)) (g4 : g 4 = nI (m / 256))
    (hQ0 : 40000 < R + (6 + m) → Q (.inl (some (.int 0))) (rowH h (Y + 1) 40000 R f)) (hQ1 : R + (6 + m) ≤ 40000 → ∀ f', wrote f f' R g 5 → Q (.inl (some (.int 1))) (rowH h (Y + 1) 40000 (R + 5) f')) :
    px_Wp sx 93 0 [some (.ref Y), some (.int (nI kd)), some (.int (nI m))] [] (rowH h (Y + 1) 40000 R f) Q := by
  have hY' : ∀ n f, (rowH h (Y + 1) 40000 n f).2[Y]? = some (.inl (7, yrdF Y x y z)) := fun n f => by rw [rowH_at (by omega) (by omega)]; exact hY
  have hcR : ∀ n f, px_cls (rowH h (Y + 1) 40000 n f) (Y + 1) = some 1 := fun n f => by unfold px_cls; rw [rowH_r hl]
  have hw := rowAt_rowH (h := h) (r := Y + 1) (N := 40000) (n := R) (f := f) hl hR (by omega)
  unfold yrdF at hY'
  simp only [pc93_0, pc93_0n, pc93_1, pc93_4, pc93_5, pc93_6, pc93_7, pc93_8, pc93_9, px_gf, hY', if_true, List.getElem?_cons_zero, px_op_some, px_kv_ap, px_ki_ap, px_kl_ap, px_kn_ap, px_kh_ap, hcR, true_and]
  rw [r_hasRoom hw, show 5 + nI m + 1 = nI (6 + m) from by rw [show (5 : Int32) = nI 5 from rfl, nI_add, nI_1]; congr 1; omega]
  by_cases g9 : R + (6 + m) ≤ 40000
  · have q := hQ1 g9
    rw [if_neg (nI_nlt (by omega) (by omega))]
    simp only [px_K_some, pc93_12, pc93_15, pc93_16, pc93_17, pc93_17n, pc93_18, pc93_21, pc93_22, ne_1_0, not_false_eq_true, if_true, px_gf, hY', List.getElem?_cons_zero, px_op_some, px_kv_ap, px_ki_ap, px_kl_ap, px_kn_ap, px_kh_ap, hcR, true_and]
    refine c_add (R := R) (a := 0) (f0 := f) hl (by omega) (by omega) (wrote_0 f R g) ((nI_small hk).trans g0.symm) (fun f1 w1 => ?_)
    simp only [px_K_none, pc93_25, pc93_25n, pc93_26, pc93_29, pc93_30, if_true, px_gf, hY', List.getElem?_cons_zero, px_op_some, px_kv_ap, px_ki_ap, px_kl_ap, px_kn_ap, px_kh_ap, hcR, true_and]
    refine c_short (by omega) hl (by omega) (by omega) w1 g1.symm g2.symm (fun f2 w2 => ?_)
    simp only [px_K_none, pc93_33, pc93_33n, pc93_34, pc93_37, pc93_38, if_true, px_gf, hY', List.getElem?_cons_zero, px_op_some, px_kv_ap, px_ki_ap, px_kl_ap, px_kn_ap, px_kh_ap, hcR, true_and]
    refine c_short (by omega) hl (by omega) (by omega) w2 g3.symm g4.symm (fun f3 w3 => ?_)
    simp only [px_K_none, pc93_41, pc93_42, nar_1]
    exact q f3 w3
  · rw [if_pos (nI_lt (by omega) (by omega))]
    simp only [px_K_some, pc93_12, pc93_15, pc93_16, not_true_eq_false, if_false, nar_0]
    exact hQ0 (by omega)
end RECC
