/-! PUT -/
def sg (x : Int32) (k : Nat) : Int32 := ((x.toUInt32 >>> ((nI (8 * k)).toUInt32 &&& Int32.toUInt32 31)).toInt32) &&& 255
def gd (c : Int32) : Prop := c = 0 ∨ c = 10 ∨ (¬ c < 32 ∧ ¬ 126 < c)
def cnt (x : Int32) : Nat → Nat
  | 0 => 0
  | k + 1 => cnt x k + if sg x k = 0 then 0 else 1
set_option maxRecDepth 16384 in
theorem put_l1 {sx : Nat × (Nat → Int32)} {h : px_H} {x : Int32} {Q : px_O → px_H → Prop}
    (hbad : (∃ j, j < 4 ∧ ¬ gd (sg x j)) → (h.2.length + 1 ≤ px_CT ∧ h.1 + 6 ≤ px_ST) ∧ Q (.inr h.2.length) (px_al h 6 (.inl (12, []))))
    (hgood : (∀ j, j < 4 → gd (sg x j)) → ∀ l4, px_Wp sx 1 72 [some (.ref 0), some (.int x), some (.int (nI (cnt x 4))), some (.int 32), l4] [] h Q) :
    ∀ m k, k + m = 4 → (∀ j, j < k → gd (sg x j)) → ∀ l4, px_Wp sx 1 4 [some (.ref 0), some (.int x), some (.int (nI (cnt x k))), some (.int (nI (8 * k))), l4] [] h Q := by
  intro m
  induction m with
  | zero =>
    intro k hk hg l4
    have hk : k = 4 := by omega
    subst hk
    simp only [pc1_4, pc1_5, pc1_7, if_pos (show (32 : Int32) ≤ nI (8 * 4) by decide)]
    exact hgood hg l4
  | succ m ih =>
    intro k hk hg l4
    have hlt : ¬ (32 : Int32) ≤ nI (8 * k) := nI_ge (a := 8 * k) (b := 32) (by omega) (by decide)
    have hs : ((x.toUInt32 >>> ((nI (8 * k)).toUInt32 &&& Int32.toUInt32 31)).toInt32) &&& 255 = sg x k := rfl
    have h8 : nI (8 * k) + 8 = nI (8 * (k + 1)) := nI_add (8 * k) 8
    have hn : gd (sg x k) → ∀ l4, px_Wp sx 1 4 [some (.ref 0), some (.int x), some (.int (nI (cnt x (k + 1)))), some (.int (nI (8 * (k + 1)))), l4] [] h Q := fun q => ih (k + 1) (by omega) (fun j hj => by
      by_cases e : j = k
      · rw [e]; exact q
      · exact hg j (by omega))
    rw [pc1_4]
    by_cases h0 : sg x k = 0
    · have := hn (.inl h0) (some (.int (sg x k)))
      simp only [pc1_5, pc1_7, pc1_10, pc1_11, pc1_12, pc1_13, pc1_16, pc1_17, pc1_19, pc1_21, pc1_24, pc1_26, pc1_28, pc1_31, pc1_33, pc1_35, pc1_38, pc1_40, pc1_42, pc1_45, pc1_48, pc1_48r, pc1_53, pc1_54, pc1_56, pc1_59, pc1_60, pc1_63, pc1_64, pc1_65, pc1_66, pc1_69, if_neg hlt, hs, h0, h8, if_true, not_true_eq_false, if_false, px_kill]
      simp only [cnt, h0, if_true, Nat.add_zero] at this
      rw [show nI (cnt x k) + 0 = nI (cnt x k) from nI_add _ 0]
      exact this
    · have h1 := hn
      simp only [cnt, h0, if_false, nI_succ] at h1
      by_cases h10 : sg x k = 10
      · have h2 := h1 (.inr (.inl h10)) (some (.int (sg x k)))
        simp only [pc1_5, pc1_7, pc1_10, pc1_11, pc1_12, pc1_13, pc1_16, pc1_17, pc1_19, pc1_21, pc1_24, pc1_26, pc1_28, pc1_31, pc1_33, pc1_35, pc1_38, pc1_40, pc1_42, pc1_45, pc1_48, pc1_48r, pc1_53, pc1_54, pc1_56, pc1_59, pc1_60, pc1_63, pc1_64, pc1_65, pc1_66, pc1_69, if_neg hlt, hs, h0, h10, h8, if_true, not_false_eq_true, if_false, px_kill, show ((10 : Int32) = 0) = False from eq_false (by decide)]
        rw [h10] at h2
        exact h2
      · by_cases h32 : sg x k < 32
        · have hb := hbad ⟨k, by omega, fun q => q.elim h0 (fun q => q.elim h10 (fun q => q.1 h32))⟩
          simp only [pc1_5, pc1_7, pc1_10, pc1_11, pc1_12, pc1_13, pc1_16, pc1_17, pc1_19, pc1_21, pc1_24, pc1_26, pc1_28, pc1_31, pc1_33, pc1_35, pc1_38, pc1_40, pc1_42, pc1_45, pc1_48, pc1_48r, pc1_53, pc1_54, pc1_56, pc1_59, pc1_60, pc1_63, pc1_64, pc1_65, pc1_66, pc1_69, if_neg hlt, hs, h0, h10, h32, h8, if_true, not_false_eq_true, if_false, px_kill]
          exact hb
        · by_cases h126 : sg x k ≤ 126
          · have h2 := h1 (.inr (.inr ⟨h32, Int32.not_lt.mpr h126⟩)) (some (.int (sg x k)))
            simp only [pc1_5, pc1_7, pc1_10, pc1_11, pc1_12, pc1_13, pc1_16, pc1_17, pc1_19, pc1_21, pc1_24, pc1_26, pc1_28, pc1_31, pc1_33, pc1_35, pc1_38, pc1_40, pc1_42, pc1_45, pc1_48, pc1_48r, pc1_53, pc1_54, pc1_56, pc1_59, pc1_60, pc1_63, pc1_64, pc1_65, pc1_66, pc1_69, if_neg hlt, hs, h0, h10, h32, h126, h8, if_true, not_false_eq_true, if_false, px_kill]
            exact h2
          · have hb := hbad ⟨k, by omega, fun q => q.elim h0 (fun q => q.elim h10 (fun q => q.2 (Int32.not_le.mp h126)))⟩
            simp only [pc1_5, pc1_7, pc1_10, pc1_11, pc1_12, pc1_13, pc1_16, pc1_17, pc1_19, pc1_21, pc1_24, pc1_26, pc1_28, pc1_31, pc1_33, pc1_35, pc1_38, pc1_40, pc1_42, pc1_45, pc1_48, pc1_48r, pc1_53, pc1_54, pc1_56, pc1_59, pc1_60, pc1_63, pc1_64, pc1_65, pc1_66, pc1_69, if_neg hlt, hs, h0, h10, h32, h126, h8, if_true, not_false_eq_true, if_false, px_kill]
            exact hb
set_option maxRecDepth 16384 in
theorem sh_aux (x : Int32) (c : Int32) (d : UInt32) (s : Nat) (hs : s ≤ 24) (h1 : (x >>> c).toBitVec = x.toBitVec.sshiftRight s) (h2 : (x.toUInt32 >>> d).toBitVec = x.toBitVec >>> s) : (x >>> c) &&& 255 = (x.toUInt32 >>> d).toInt32 &&& 255 := by
  apply Int32.toBitVec_inj.mp
  apply BitVec.eq_of_getLsbD_eq
  intro i hi
  rw [Int32.toBitVec_and, Int32.toBitVec_and, BitVec.getLsbD_and, BitVec.getLsbD_and, h1, show (x.toUInt32 >>> d).toInt32.toBitVec = (x.toUInt32 >>> d).toBitVec from rfl, h2]
  by_cases h8 : i < 8
  · rw [BitVec.getLsbD_sshiftRight, BitVec.getLsbD_ushiftRight, if_pos (by omega)]
    simp [show ¬ 32 ≤ i by omega]
  · have h0 : (Int32.toBitVec 255).getLsbD i = false := by
      show (BitVec.ofNat 32 255).getLsbD i = false
      rw [BitVec.getLsbD_ofNat, Nat.testBit_lt_two_pow (Nat.lt_of_lt_of_le (show 255 < 2 ^ 8 by decide) (Nat.pow_le_pow_right (by decide) (by omega))), Bool.and_false]
    rw [h0, Bool.and_false, Bool.and_false]
set_option maxRecDepth 16384 in
theorem sg_eq (x : Int32) : ∀ k, k < 4 → (x >>> ((8 * nI k) &&& 31)) &&& 255 = sg x k := by
  intro k hk
  match k, hk with
  | 0, _ => exact sh_aux x _ _ 0 (by decide) rfl rfl
  | 1, _ => exact sh_aux x _ _ 8 (by decide) rfl rfl
  | 2, _ => exact sh_aux x _ _ 16 (by decide) rfl rfl
  | 3, _ => exact sh_aux x _ _ 24 (by decide) rfl rfl
set_option maxRecDepth 16384 in
theorem sg_of (x : Int32) (k : Nat) : ∃ j, j < 256 ∧ sg x k = nI j := by
  refine ⟨(sg x k).toBitVec.toNat, ?_, ?_⟩
  · unfold sg
    rw [Int32.toBitVec_and, BitVec.toNat_and]
    exact Nat.lt_of_le_of_lt Nat.and_le_right (by decide)
  · apply Int32.toBitVec_inj.mp
    show _ = BitVec.ofNat 32 _
    rw [BitVec.ofNat_toNat, BitVec.setWidth_eq]
set_option maxRecDepth 16384 in
theorem sg_le0 (x : Int32) (k : Nat) : (sg x k ≤ 0) = (sg x k = 0) := by
  obtain ⟨j, hj, e⟩ := sg_of x k
  rw [e, ← nI_0]
  apply propext
  rw [nI_leI (by omega) (by decide), nI_eq (by omega) (by decide)]
  omega
set_option maxRecDepth 16384 in
theorem sg_pos {x : Int32} {k : Nat} (h : (sg x k = 0) = False) : (0 < sg x k) = True := by
  apply eq_true; apply Int32.not_le.mp; rw [sg_le0, h]; exact id
set_option maxRecDepth 16384 in
theorem cnt_mono (x : Int32) (k : Nat) : ∀ m, cnt x k ≤ cnt x (k + m) := by
  intro m
  induction m with
  | zero => exact Nat.le_refl _
  | succ m ih => exact Nat.le_trans ih (by show cnt x (k + m) ≤ cnt x (k + m) + _; omega)
set_option maxRecDepth 16384 in
theorem cnt_le (x : Int32) : ∀ k, cnt x k ≤ k := by
  intro k
  induction k with
  | zero => exact Nat.le_refl _
  | succ k ih => simp only [cnt]; split <;> omega
def adF (cv : Int32 → Int32) (x : Int32) (n : Nat) (f : Nat → Int32) : Nat → Nat → Int32
  | 0 => f
  | k + 1 => if sg x k = 0 then adF cv x n f k else px_up (adF cv x n f k) (n + cnt x k) (cv (sg x k))
set_option maxRecDepth 16384 in
theorem wr4 (h : px_H) {r r' : Nat} (hne : r ≠ r') (a b c d : px_C) : px_wr (px_wr (px_wr (px_wr h r a) r' b) r c) r' d = px_wr (px_wr h r c) r' d := by
  unfold px_wr
  simp only
  rw [List.set_comm b c hne.symm, List.set_set, List.set_set]
def ptH (h : px_H) (x : Int32) (n : Nat) (k : Nat) : px_H := px_wr (px_wr h 46 (.inr (0, 600, .inl (adF by8 x n (iA h 46) k)))) 45 (.inl (1, [.ref 46, .int (nI (n + cnt x k))]))
set_option maxRecDepth 16384 in
theorem pt_row {h : px_H} (hS : shape h) (x : Int32) (n k : Nat) (hk : n + cnt x k ≤ 600) : rowAt (ptH h x n k) 45 600 (n + cnt x k) (adF by8 x n (iA h 46) k) := by
  refine ⟨?_, ?_, hk, by decide⟩
  · unfold ptH; rw [wr_at, if_pos rfl, if_pos (by rw [px_wr_len]; have := hS.1; omega)]
  · unfold ptH; rw [wr_at, if_neg (by decide), wr_at, if_pos rfl, if_pos (by have := hS.1; omega)]
set_option maxRecDepth 16384 in
theorem pt_0 {h : px_H} (hS : shape h) {x : Int32} {n : Nat} (hn : fI h 45 1 = nI n) : ptH h x n 0 = h := by
  unfold ptH
  have e : (nI (n + cnt x 0)) = fI h 45 1 := hn.symm
  rw [e, show adF by8 x n (iA h 46) 0 = iA h 46 from rfl, wr_id (at_46 hS), wr_id (at_45 hS)]
set_option maxRecDepth 16384 in
theorem put_l2 {sx : Nat × (Nat → Int32)} {h : px_H} (hS : shape h) {x : Int32} {n : Nat} {z : Int32} {Q : px_O → px_H → Prop} (hr : n + cnt x 4 ≤ 600)
    (hQ : Q (.inl (some (.int (nI (n + cnt x 4))))) (ptH h x n 4)) :
    ∀ m k, k + m = 4 → ∀ l4, px_Wp sx 1 93 [some (.ref 0), some (.int x), some (.int z), some (.int (nI (8 * k))), l4] [] (ptH h x n k) Q := by
  intro m
  have h00 : ∀ k, (ptH h x n k).2[0]? = some (.inl (0, iyaF)) := fun k => by
    unfold ptH; rw [wr_at, if_neg (by decide), wr_at, if_neg (by decide)]; exact at_0 hS
  induction m with
  | zero =>
    intro k hk l4
    have hk : k = 4 := by omega
    subst hk
    have w := pt_row hS x n 4 hr
    simp only [pc1_93, pc1_94, pc1_96, pc1_99, pc1_100, pc1_101, pc1_102, pc1_105, pc1_106, pc1_108, pc1_110, pc1_113, pc1_113n, pc1_114, pc1_117, pc1_119, pc1_122, pc1_125, pc1_128, pc1_128n, pc1_129, pc1_132, pc1_135, if_pos (show (32 : Int32) ≤ nI (8 * 4) by decide), px_gf, h00, if_true, iy_2, px_op_some, px_kv_ap, px_ki_ap, px_kl_ap, px_kn_ap, px_kh_ap, w.1, List.getElem?_cons_zero, List.getElem?_cons_succ]
    exact hQ
  | succ m ih =>
    intro k hk l4
    have hlt : ¬ (32 : Int32) ≤ nI (8 * k) := nI_ge (a := 8 * k) (b := 32) (by omega) (by decide)
    have hs : ((x.toUInt32 >>> ((nI (8 * k)).toUInt32 &&& Int32.toUInt32 31)).toInt32) &&& 255 = sg x k := rfl
    have h8 : nI (8 * k) + 8 = nI (8 * (k + 1)) := nI_add (8 * k) 8
    have hm := cnt_mono x (k + 1) m
    rw [show k + 1 + m = 4 by omega] at hm
    have hn := ih (k + 1) (by omega)
    rw [pc1_93]
    by_cases h0 : sg x k = 0
    · have e : ptH h x n (k + 1) = ptH h x n k := by simp only [ptH, adF, cnt, h0, if_true, Nat.add_zero]
      rw [e] at hn
      simp only [pc1_94, pc1_96, pc1_99, pc1_100, pc1_101, pc1_102, pc1_105, pc1_106, pc1_108, pc1_110, pc1_113, pc1_113n, pc1_114, pc1_117, pc1_119, pc1_122, pc1_125, pc1_128, pc1_128n, pc1_129, pc1_132, pc1_135, if_neg hlt, hs, h0, h8, if_true, px_kill]
      exact hn _
    · have hc : cnt x (k + 1) = cnt x k + 1 := by simp only [cnt, h0, if_false]
      have w := pt_row hS x n k (by omega)
      have hcl : px_cls (ptH h x n k) 45 = some 1 := by unfold px_cls; rw [w.1]
      have e : ptH h x n (k + 1) = px_wr (px_wr (ptH h x n k) 46 (.inr (0, 600, .inl (px_up (adF by8 x n (iA h 46) k) (n + cnt x k) (by8 (sg x k)))))) 45 (.inl (1, [.ref 46, .int (nI (n + cnt x k + 1))])) := by
        simp only [ptH, adF, hc, h0, if_false]
        rw [wr4 h (show 46 ≠ 45 by decide)]
        rfl
      rw [e] at hn
      simp only [pc1_94, pc1_96, pc1_99, pc1_100, pc1_101, pc1_102, pc1_105, pc1_106, pc1_108, pc1_110, pc1_113, pc1_113n, pc1_114, pc1_117, pc1_119, pc1_122, pc1_125, pc1_128, pc1_128n, pc1_129, pc1_132, pc1_135, if_neg hlt, hs, h0, h8, if_true, if_false, px_kill, px_gf, h00, iy_2, px_op_some, px_kv_ap, px_ki_ap, px_kl_ap, px_kn_ap, px_kh_ap, hcl, true_and, r_add w (show n + cnt x k < 600 by omega), px_K_none]
      exact hn _
set_option maxRecDepth 16384 in
theorem cls_put {sx : Nat × (Nat → Int32)} {h : px_H} (hS : shape h) {x : Int32} {n : Nat} (hn : fI h 45 1 = nI n) (hle : n ≤ 600) {Q : px_O → px_H → Prop} (hc : h.2.length + 1 ≤ px_CT) (hs : h.1 + 6 ≤ px_ST)
    (h1 : (∃ j, j < 4 ∧ ¬ gd (sg x j)) → Q (.inr h.2.length) (px_al h 6 (.inl (12, []))))
    (h2 : (∀ j, j < 4 → gd (sg x j)) → 600 < n + cnt x 4 → Q (.inr h.2.length) (px_al h 6 (.inl (16, []))))
    (h3 : (∀ j, j < 4 → gd (sg x j)) → n + cnt x 4 ≤ 600 → Q (.inl (some (.int (nI (n + cnt x 4))))) (ptH h x n 4)) :
    px_Wp sx 1 0 [some (.ref 0), some (.int x), none, none, none] [] h Q := by
  have w : rowAt h 45 600 n (iA h 46) := ⟨by rw [at_45 hS, hn], at_46 hS, hle, by decide⟩
  have hcl : px_cls h 45 = some 1 := by unfold px_cls; rw [w.1]
  have hc4 := cnt_le x 4
  simp only [pc1_0, pc1_1, pc1_2, pc1_3, px_kill]
  refine put_l1 (fun q => ⟨⟨hc, hs⟩, h1 q⟩) (fun q l4 => ?_) 4 0 rfl (fun j hj => absurd hj (by omega)) none
  simp only [pc1_72, pc1_72n, pc1_73, pc1_76, pc1_77, pc1_80, px_gf, at_0 hS, iy_2, if_true, px_op_some, px_kv_ap, px_ki_ap, px_kl_ap, px_kn_ap, px_kh_ap, hcl, true_and, r_hasRoom w]
  by_cases g : nI (600 - n) < nI (cnt x 4)
  · have g' : 600 - n < cnt x 4 := (nI_ltI (by omega) (by omega)).mp g
    simp only [if_pos g, px_K_some, pc1_80, pc1_83, not_true_eq_false, if_false]
    exact ⟨⟨hc, hs⟩, h2 q (by omega)⟩
  · have g' : ¬ 600 - n < cnt x 4 := fun e => g ((nI_ltI (by omega) (by omega)).mpr e)
    simp only [if_neg g, px_K_some, pc1_80, pc1_83, pc1_86, pc1_86r, pc1_91, pc1_92, ne_1_0, not_false_eq_true, if_true, px_kill]
    have := put_l2 (sx := sx) hS (z := nI (cnt x 4)) (x := x) (n := n) (Q := Q) (by omega) (h3 q (by omega)) 4 0 rfl l4
    rw [pt_0 hS hn] at this
    exact this
set_option maxRecDepth 16384 in
theorem mod_l1 {sx : Nat × (Nat → Int32)} {h : px_H} {x : Int32} {Q : px_O → px_H → Prop}
    (hQ : ∀ g l5, (g = 1 ∧ (∀ j, j < 4 → gd (sg x j)) ∨ g = 0 ∧ ∃ j, j < 4 ∧ ¬ gd (sg x j)) → px_Wp sx 143 79 [some (.ref 619), some (.int x), some (.int (nI (cnt x 4))), some (.int g), some (.int (nI 4)), l5] [] h Q) :
    ∀ m k, k + m = 4 → ∀ g l5, (g = 1 ∧ (∀ j, j < k → gd (sg x j)) ∨ g = 0 ∧ ∃ j, j < k ∧ ¬ gd (sg x j)) → px_Wp sx 143 7 [some (.ref 619), some (.int x), some (.int (nI (cnt x k))), some (.int g), some (.int (nI k)), l5] [] h Q := by
  intro m
  induction m with
  | zero =>
    intro k hk g l5 hg
    have hk : k = 4 := by omega
    subst hk
    simp only [pc143_7, pc143_9, pc143_10, if_pos (show (4 : Int32) ≤ nI 4 by decide)]
    exact hQ g l5 hg
  | succ m ih =>
    intro k hk g l5 hg
    have hlt : ¬ (4 : Int32) ≤ nI k := nI_ge (a := k) (b := 4) (by omega) (by decide)
    have hs : (x >>> ((8 * nI k) &&& 31)) &&& 255 = sg x k := sg_eq x k (by omega)
    have hlt4 : (nI k < 4) = True := eq_true (Int32.not_le.mp hlt)
    have hnx : ∀ j, j < k + 1 → j < k ∨ j = k := fun j hj => by omega
    rw [pc143_7]
    by_cases gk : gd (sg x k)
    · have h1 : ∀ l5, px_Wp sx 143 7 [some (.ref 619), some (.int x), some (.int (nI (cnt x (k + 1)))), some (.int g), some (.int (nI (k + 1))), l5] [] h Q := fun l5 => ih (k + 1) (by omega) g l5 (hg.elim (fun q => .inl ⟨q.1, fun j hj => (hnx j hj).elim (q.2 j) (fun e => e ▸ gk)⟩) (fun q => .inr ⟨q.1, by obtain ⟨j, hj, hb⟩ := q.2; exact ⟨j, by omega, hb⟩⟩))
      have hg1 : g = 1 ∨ g = 0 := hg.elim (fun q => .inl q.1) (fun q => .inr q.1)
      simp only [cnt] at h1
      rcases gk with h0 | h10 | ⟨h32, h126⟩
      · rcases hg1 with rfl | rfl <;> simp only [h0, if_true, Nat.add_zero] at h1 <;> simp only [pc143_9, pc143_10, pc143_13, pc143_14, pc143_16, pc143_18, pc143_19, pc143_20, pc143_23, pc143_24, pc143_26, pc143_27, pc143_30, pc143_32, pc143_35, pc143_37, pc143_39, pc143_42, pc143_44, pc143_46, pc143_48, pc143_51, pc143_54, pc143_55, pc143_58, pc143_59, pc143_60, pc143_62, pc143_65, pc143_66, pc143_67, pc143_68, pc143_71, pc143_72, pc143_73, pc143_76, if_neg hlt, hs, h0, if_true, if_false, px_kill, ne_1_0, nI_1, Int32.reduceLE, Int32.le_refl] <;> exact h1 _
      · have e0 : ((10 : Int32) = 0) = False := eq_false (by decide)
        rcases hg1 with rfl | rfl <;> simp only [h10, e0, if_false] at h1 <;> simp only [pc143_9, pc143_10, pc143_13, pc143_14, pc143_16, pc143_18, pc143_19, pc143_20, pc143_23, pc143_24, pc143_26, pc143_27, pc143_30, pc143_32, pc143_35, pc143_37, pc143_39, pc143_42, pc143_44, pc143_46, pc143_48, pc143_51, pc143_54, pc143_55, pc143_58, pc143_59, pc143_60, pc143_62, pc143_65, pc143_66, pc143_67, pc143_68, pc143_71, pc143_72, pc143_73, pc143_76, if_neg hlt, hs, h10, e0, if_true, if_false, px_kill, ne_1_0, nI_1, Int32.reduceLE] <;> exact h1 _
      · have e0 : (sg x k = 0) = False := eq_false (fun e => h32 (by rw [e]; decide))
        have e1 : (sg x k < 32) = False := eq_false h32
        have e2 : (126 < sg x k) = False := eq_false h126
        have e10 : (sg x k = 10) = False := eq_false (fun e => h32 (by rw [e]; decide))
        rcases hg1 with rfl | rfl <;> simp only [e0, if_false] at h1 <;> simp only [pc143_9, pc143_10, pc143_13, pc143_14, pc143_16, pc143_18, pc143_19, pc143_20, pc143_23, pc143_24, pc143_26, pc143_27, pc143_30, pc143_32, pc143_35, pc143_37, pc143_39, pc143_42, pc143_44, pc143_46, pc143_48, pc143_51, pc143_54, pc143_55, pc143_58, pc143_59, pc143_60, pc143_62, pc143_65, pc143_66, pc143_67, pc143_68, pc143_71, pc143_72, pc143_73, pc143_76, pc144_0, pc144_1, pc144_2, pc144_5, pc144_6, pc144_7, pc144_10, pc144_11, pc144_14, pc144_15, if_neg hlt, hs, e0, e1, e2, e10, sg_pos e0, hlt4, if_true, if_false, px_kill, ne_1_0, nI_1, px_K_some, i32_le, nar_1, not_false_eq_true, not_true_eq_false] <;> exact h1 _
    · have h1 : ∀ l5, px_Wp sx 143 7 [some (.ref 619), some (.int x), some (.int (nI (cnt x (k + 1)))), some (.int 0), some (.int (nI (k + 1))), l5] [] h Q := fun l5 => ih (k + 1) (by omega) 0 l5 (.inr ⟨rfl, k, by omega, gk⟩)
      have hg1 : g = 1 ∨ g = 0 := hg.elim (fun q => .inl q.1) (fun q => .inr q.1)
      have e0 : (sg x k = 0) = False := eq_false (fun e => gk (.inl e))
      have e10 : (sg x k = 10) = False := eq_false (fun e => gk (.inr (.inl e)))
      simp only [cnt, e0, if_false] at h1
      by_cases h32 : sg x k < 32
      · rcases hg1 with rfl | rfl <;> simp only [pc143_9, pc143_10, pc143_13, pc143_14, pc143_16, pc143_18, pc143_19, pc143_20, pc143_23, pc143_24, pc143_26, pc143_27, pc143_30, pc143_32, pc143_35, pc143_37, pc143_39, pc143_42, pc143_44, pc143_46, pc143_48, pc143_51, pc143_54, pc143_55, pc143_58, pc143_59, pc143_60, pc143_62, pc143_65, pc143_66, pc143_67, pc143_68, pc143_71, pc143_72, pc143_73, pc143_76, pc144_0, pc144_1, pc144_2, pc144_5, pc144_6, pc144_7, pc144_10, pc144_11, pc144_14, pc144_15, if_neg hlt, hs, e0, e10, h32, sg_pos e0, hlt4, if_true, if_false, px_kill, ne_1_0, nI_1, px_K_some, i32_le, nar_0, not_false_eq_true, not_true_eq_false] <;> exact h1 _
      · have h126 : 126 < sg x k := by
          apply Int32.not_le.mp; intro q; exact gk (.inr (.inr ⟨h32, Int32.not_lt.mpr q⟩))
        rcases hg1 with rfl | rfl <;> simp only [pc143_9, pc143_10, pc143_13, pc143_14, pc143_16, pc143_18, pc143_19, pc143_20, pc143_23, pc143_24, pc143_26, pc143_27, pc143_30, pc143_32, pc143_35, pc143_37, pc143_39, pc143_42, pc143_44, pc143_46, pc143_48, pc143_51, pc143_54, pc143_55, pc143_58, pc143_59, pc143_60, pc143_62, pc143_65, pc143_66, pc143_67, pc143_68, pc143_71, pc143_72, pc143_73, pc143_76, pc144_0, pc144_1, pc144_2, pc144_5, pc144_6, pc144_7, pc144_10, pc144_11, pc144_14, pc144_15, if_neg hlt, hs, e0, e10, h32, h126, sg_pos e0, hlt4, if_true, if_false, px_kill, ne_1_0, nI_1, px_K_some, i32_le, nar_0, not_false_eq_true, not_true_eq_false] <;> exact h1 _
