/-! A RECORD READ, the class's -/
/-! two bytes as a number -/
set_option maxRecDepth 16384 in
theorem or_shl8 {x y : Nat} (hx : x < 256) (hy : y < 256) : nI x ||| nI y <<< ((8 : Int32) &&& 31) = nI (x + 256 * y) := by
  rw [show ((8 : Int32) &&& 31) = 8 by decide]
  apply Int32.toBitVec_inj.mp
  rw [Int32.toBitVec_or, Int32.toBitVec_shiftLeft]
  show BitVec.ofNat 32 x ||| BitVec.ofNat 32 y <<< ((8 : BitVec 32).smod 32) = BitVec.ofNat 32 (x + 256 * y)
  rw [show ((8 : BitVec 32).smod 32) = 8#32 by decide, BitVec.shiftLeft_eq', show (8#32).toNat = 8 by decide]
  apply BitVec.eq_of_toNat_eq
  rw [BitVec.toNat_or, BitVec.toNat_shiftLeft, BitVec.toNat_ofNat, BitVec.toNat_ofNat, BitVec.toNat_ofNat, Nat.mod_eq_of_lt (a := x) (by omega), Nat.mod_eq_of_lt (a := y) (by omega), Nat.shiftLeft_eq, Nat.mod_eq_of_lt (by omega), Nat.mod_eq_of_lt (by omega)]
  have := Nat.two_pow_add_eq_or_of_lt (i := 8) (b := x) (by omega) y
  rw [show 2 ^ 8 * y = y * 2 ^ 8 from Nat.mul_comm _ _] at this
  rw [Nat.or_comm, ← this]; omega
/-- a byte of a row with n bytes; 255 behind it -/
def svB (n : Nat) (bv : Nat → Nat) (j : Nat) : Nat := if j < n then bv j else 255
set_option maxRecDepth 16384 in
theorem svB_lt {n : Nat} {bv : Nat → Nat} (hb : ∀ j, j < n → bv j < 256) (j : Nat) : svB n bv j < 256 := by
  unfold svB; split
  · exact hb j (by assumption)
  · decide
def sumN (bv : Nat → Nat) (p : Nat) : Nat → Nat
  | 0 => 0
  | k + 1 => sumN bv p k + bv (p + k)
/-- a record of c bytes stands at p, whole and right -/
def rOK (n : Nat) (bv : Nat → Nat) (p c : Nat) : Prop := p + 6 + c ≤ n ∧ bv (p + 1) + 256 * bv (p + 2) = c ∧ bv (p + 3) + 256 * bv (p + 4) = c ∧ sumN bv p (5 + c) % 256 = bv (p + 5 + c)
section RREAD
variable {sx : Nat × (Nat → Int32)} {h : px_H} {r N n p Y : Nat} {f : Nat → Int32} {bv : Nat → Nat} {Q : px_O → px_H → Prop}
set_option maxRecDepth 16384 in
theorem r_atB (w : rowAt h r N n f) (hb : ∀ j, j < n → f j &&& 255 = nI (bv j) ∧ bv j < 256) (hp : p ≤ 100000) (hQ : ∀ x, x &&& 255 = nI (svB n bv p) → (p < n → x = nI (bv p)) → Q (.inl (some (.int x))) h) :
    px_Wp sx 30 0 [some (.ref r), some (.int (nI p))] [] h Q := by
  have hn := w.2.2
  rw [r_at w, if_neg (nI_pos (by omega))]
  by_cases e : p < n
  · rw [if_neg (nI_ge (by omega) (by omega)), nI_clamp (by omega), (hb p e).1]
    exact hQ _ (by unfold svB; rw [if_pos e, nI_small (hb p e).2]) (fun _ => rfl)
  · rw [if_pos (nI_le (by omega) (by omega))]
    exact hQ _ (by unfold svB; rw [if_neg e]; decide) (fun z => absurd z e)
set_option maxRecDepth 16384 in
theorem c_shortAt (w : rowAt h r N n f) (hb : ∀ j, j < n → f j &&& 255 = nI (bv j) ∧ bv j < 256) (hp : p ≤ 90000) (hQ : Q (.inl (some (.int (nI (svB n bv p + 256 * svB n bv (p + 1)))))) h) :
    px_Wp sx 37 0 [some (.ref r), some (.int (nI p))] [] h Q := by
  have hc : px_cls h r = some 1 := by unfold px_cls; rw [w.1]
  simp only [pc37_0, pc37_0n, pc37_1, pc37_2, hc, true_and]
  refine r_atB w hb (by omega) (fun x hx _ => ?_)
  simp only [px_K_some, pc37_5, pc37_8, pc37_9, pc37_9n, pc37_10, pc37_11, pc37_12, pc37_13, nI_1, hc, true_and, hx]
  refine r_atB w hb (by omega) (fun x' hx' _ => ?_)
  simp only [px_K_some, pc37_16, pc37_19, pc37_20, pc37_22, pc37_23, pc37_24, hx', or_shl8 (svB_lt (fun j hj => (hb j hj).2) p) (svB_lt (fun j hj => (hb j hj).2) (p + 1))]
  exact hQ
set_option maxRecDepth 16384 in
theorem sumF_N (bv : Nat → Nat) (p : Nat) : ∀ k, sumF (fun j => nI (bv (p + j))) k = nI (sumN bv p k)
  | 0 => rfl
  | k + 1 => by
    show sumF (fun j => nI (bv (p + j))) k + nI (bv (p + k)) = nI (sumN bv p k + bv (p + k))
    rw [sumF_N bv p k, nI_add]
set_option maxRecDepth 16384 in
theorem nI_inj {a b : Nat} (ha : a < 2 ^ 31) (hb : b < 2 ^ 31) : (nI a = nI b) = (a = b) := by
  apply propext
  exact ⟨fun z => by have := nI_clamp ha; rw [z, nI_clamp hb] at this; exact this.symm, fun z => by rw [z]⟩
set_option maxRecDepth 16384 in
theorem c_endOfRecord {x y z : Int32} (hY : h.2[Y]? = some (.inl (7, yrdF Y x y z))) (w : rowAt h (Y + 1) 40000 n f) (hb : ∀ j, j < n → f j &&& 255 = nI (bv j) ∧ bv j < 256) (hp : p < n)
    (hQ1 : ∀ c, rOK n bv p c → Q (.inl (some (.int (nI (p + 6 + c))))) h) (hQ0 : (∀ c, ¬ rOK n bv p c) → Q (.inl (some (.int (-1)))) h) :
    px_Wp sx 104 0 [some (.ref Y), some (.int (nI p)), none, none, none] [] h Q := by
  have hn := w.2.2
  have hY1 := hY
  have w1 := w.1
  unfold yrdF at hY1
  have hcR : px_cls h (Y + 1) = some 1 := by unfold px_cls; rw [w.1]
  have hcY : px_cls h Y = some 7 := by unfold px_cls; rw [hY]
  have hb2 : ∀ j, j < n → bv j < 256 := fun j hj => (hb j hj).2
  simp only [pc104_0, pc104_0n, pc104_1, pc104_4, pc104_5, pc104_6, pc104_7, px_gf, hY1, if_true, List.getElem?_cons_zero, px_op_some, px_kv_ap, px_ki_ap, px_kl_ap, px_kn_ap, px_kh_ap, nI_1, hcR, true_and]
  refine c_shortAt w hb (by omega) ?_
  have b1 := svB_lt hb2 (p + 1)
  have b2 := svB_lt hb2 (p + 1 + 1)
  generalize hc : svB n bv (p + 1) + 256 * svB n bv (p + 1 + 1) = c
  have hc6 : c < 65536 := by omega
  have e1 : nI p + 5 + nI c + 1 = nI (p + 6 + c) := by rw [show (5 : Int32) = nI 5 from rfl, nI_add, nI_add, nI_1]; exact congrArg nI (by omega)
  by_cases g1 : p + 6 + c ≤ n
  · have g1' : ¬ nI n < nI (p + 6 + c) := nI_nlt g1 (by omega)
    have s1 : svB n bv (p + 1) = bv (p + 1) := by unfold svB; rw [if_pos (by omega)]
    have s2 : svB n bv (p + 1 + 1) = bv (p + 2) := by unfold svB; rw [if_pos (by omega)]
    have s3 : svB n bv (p + 3) = bv (p + 3) := by unfold svB; rw [if_pos (by omega)]
    have s4 : svB n bv (p + 3 + 1) = bv (p + 4) := by unfold svB; rw [if_pos (by omega)]
    have b3 := hb2 (p + 3) (by omega)
    have b4 := hb2 (p + 4) (by omega)
    have e3 : nI p + 3 = nI (p + 3) := nI_add p 3
    simp only [px_K_some, pc104_10, pc104_11, pc104_12, pc104_13, pc104_14, pc104_15, pc104_16, pc104_17, pc104_18, pc104_19, pc104_20, pc104_20n, pc104_21, pc104_24, pc104_27, pc104_30, pc104_31, pc104_31n, pc104_32, pc104_35, pc104_36, pc104_37, pc104_38, px_kill, e1, px_gf, hY1, w1, if_true, List.getElem?_cons_zero, List.getElem?_cons_succ, px_op_some, px_kv_ap, px_ki_ap, px_kl_ap, px_kn_ap, px_kh_ap, if_neg g1', e3, hcR, true_and]
    refine c_shortAt w hb (by omega) ?_
    rw [s3, s4]
    by_cases g2 : c = bv (p + 3) + 256 * bv (p + 4)
    · have e4 : nI (p + 6 + c) - 1 = nI (p + (5 + c)) := by
        rw [show (1 : Int32) = nI 1 from rfl, nI_sub (by omega)]; exact congrArg nI (by omega)
      simp only [px_K_some, pc104_41, pc104_44, pc104_44n, pc104_45, pc104_46, pc104_47, pc104_48, pc104_49, nI_inj (a := c) (b := bv (p + 3) + 256 * bv (p + 4)) (by omega) (by omega), ← g2, not_true_eq_false, if_false, e4, hcY, true_and]
      refine c_sum (R := p) (a := 5 + c) (g := fun k => nI (bv (p + k))) hY w (by omega) (fun k hk => (hb (p + k) (by omega)).1) ?_
      rw [sumF_N, nI_255]
      simp only [px_K_some, pc104_52, pc104_52n, pc104_53, pc104_56, pc104_57, pc104_58, pc104_59, px_gf, hY1, if_true, List.getElem?_cons_zero, px_op_some, px_kv_ap, px_ki_ap, px_kl_ap, px_kn_ap, px_kh_ap, e4, hcR, true_and]
      rw [r_at w, if_neg (nI_pos (by omega)), if_neg (nI_ge (by omega) (by omega)), nI_clamp (by omega), (hb (p + (5 + c)) (by omega)).1]
      have b5 := hb2 (p + (5 + c)) (by omega)
      by_cases g3 : sumN bv p (5 + c) % 256 = bv (p + (5 + c))
      · simp only [px_K_some, pc104_62, pc104_65, pc104_66, pc104_69, pc104_70, pc104_72, pc104_74, pc104_77, pc104_78, pc104_81, pc104_82, px_kill, nI_inj (a := sumN bv p (5 + c) % 256) (b := bv (p + (5 + c))) (by omega) (by omega), g3, not_true_eq_false, if_false, ne_1_0]
        exact hQ1 c ⟨g1, by rw [← hc, s1, s2], g2.symm, by rw [g3]; exact congrArg bv (by omega)⟩
      · simp only [px_K_some, pc104_62, pc104_65, pc104_66, pc104_69, pc104_70, pc104_72, pc104_74, pc104_77, pc104_78, pc104_81, pc104_82, px_kill, nI_inj (a := sumN bv p (5 + c) % 256) (b := bv (p + (5 + c))) (by omega) (by omega), g3, not_false_eq_true, if_true]
        refine hQ0 (fun c' ok => ?_)
        obtain ⟨k1, k2, k3, k4⟩ := ok
        have : c' = c := by rw [← k2, ← hc, s1, s2]
        subst this
        exact g3 (by rw [k4]; exact congrArg bv (by omega))
    · simp only [px_K_some, pc104_41, pc104_44, pc104_44n, pc104_45, pc104_46, pc104_47, pc104_48, pc104_49, pc104_52, pc104_52n, pc104_53, pc104_56, pc104_57, pc104_58, pc104_59, pc104_62, pc104_65, pc104_66, pc104_69, pc104_70, pc104_72, pc104_74, pc104_77, pc104_78, pc104_81, pc104_82, px_kill, nI_inj (a := c) (b := bv (p + 3) + 256 * bv (p + 4)) (by omega) (by omega), g2, not_false_eq_true, if_true]
      refine hQ0 (fun c' ok => ?_)
      obtain ⟨k1, k2, k3, k4⟩ := ok
      have : c' = c := by rw [← k2, ← hc, s1, s2]
      subst this
      exact g2 k3.symm
  · have g1' : nI n < nI (p + 6 + c) := nI_lt (by omega) (by omega)
    simp only [px_K_some, pc104_10, pc104_11, pc104_12, pc104_13, pc104_14, pc104_15, pc104_16, pc104_17, pc104_18, pc104_19, pc104_20, pc104_20n, pc104_21, pc104_24, pc104_27, pc104_69, pc104_70, pc104_72, pc104_74, pc104_77, pc104_78, pc104_81, pc104_82, px_kill, e1, px_gf, hY1, w1, if_true, List.getElem?_cons_zero, List.getElem?_cons_succ, px_op_some, px_kv_ap, px_ki_ap, px_kl_ap, px_kn_ap, px_kh_ap, if_pos g1']
    refine hQ0 (fun c' ok => ?_)
    obtain ⟨k1, k2, k3, k4⟩ := ok
    have s1 : svB n bv (p + 1) = bv (p + 1) := by unfold svB; rw [if_pos (by omega)]
    have s2 : svB n bv (p + 1 + 1) = bv (p + 2) := by unfold svB; rw [if_pos (by omega)]
    have : c' = c := by rw [← k2, ← hc, s1, s2]
    subst this
    exact g1 k1
end RREAD
