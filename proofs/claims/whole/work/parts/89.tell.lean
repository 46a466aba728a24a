/-! TELL, UNTELL on both sides -/
/-- the bytes of a told tag's record -/
def tagB (j : Nat) (v : Int64) (k : Nat) : Int32 := if k = 0 then nI j else lb v (nI (8 * (k - 1))) &&& 255
set_option maxRecDepth 16384 in
theorem tagB_0 {j : Nat} {v : Int64} : tagB j v 0 = nI j := rfl
set_option maxRecDepth 16384 in
theorem tagB_s {j k : Nat} {v : Int64} : tagB j v (1 + k) = lb v (nI (8 * k)) &&& 255 := by
  unfold tagB; rw [if_neg (by omega), Nat.add_sub_cancel_left]
set_option maxRecDepth 16384 in
theorem recB_congr {kd m : Nat} {d d' : Nat → Int32} (h : ∀ k, k < m → d k = d' k) : recB kd m d = recB kd m d' := by
  have hs : ∀ k, k ≤ m → sumF d k = sumF d' k := by
    intro k
    induction k with
    | zero => intro _; rfl
    | succ k ih => intro hk; show sumF d k + d k = sumF d' k + d' k; rw [ih (by omega), h k (by omega)]
  funext k
  unfold recB
  rw [hs m (Nat.le_refl m)]
  by_cases h5 : k < 5 + m
  · by_cases h0 : 5 ≤ k
    · rw [h (k - 5) (by omega)]
    · have : k = 0 ∨ k = 1 ∨ k = 2 ∨ k = 3 ∨ k = 4 := by omega
      rcases this with rfl | rfl | rfl | rfl | rfl <;> rfl
  · rw [if_neg h5, if_neg h5]
/-- the heap with other tags in the yard at Y -/
def tagH (h : px_H) (Y : Nat) (T : Nat → Int32) (G : Nat → Int64) : px_H := px_wr (px_wr h (Y + 10) (.inr (3, 8, .inl T))) (Y + 9) (.inr (2, 8, .inr (.inl G)))
section TELL
variable {sx : Nat × (Nat → Int32)} {h : px_H} {Y R j : Nat} {x y z : Int32} {f T : Nat → Int32} {G : Nat → Int64} {Q : px_O → px_H → Prop}
set_option maxRecDepth 16384 in
theorem c_open' {m kd : Nat} {g : Nat → Int32} (w : rowAt h (Y + 1) 40000 R f) (hY : h.2[Y]? = some (.inl (7, yrdF Y x y z))) (hm : m ≤ 39000) (hk : kd < 256) (g0 : g 0 = nI kd) (g1 : g 1 = nI (m % 256)) (g2 : g 2 = nI (m / 256)) (g3 : g 3 = nI (m % 256)) (g4 : g 4 = nI (m / 256))
    (hQ0 : 40000 < R + (6 + m) → Q (.inl (some (.int 0))) h) (hQ1 : R + (6 + m) ≤ 40000 → ∀ f', wrote f f' R g 5 → Q (.inl (some (.int 1))) (rowH h (Y + 1) 40000 (R + 5) f')) :
    px_Wp sx 93 0 [some (.ref Y), some (.int (nI kd)), some (.int (nI m))] [] h Q := by
  have e := rowH_id w
  have hl : Y + 2 < h.2.length := rowAt_lt w
  have := c_open (sx := sx) (f := f) (Q := Q) hl hY hm w.2.2.1 hk g0 g1 g2 g3 g4 (by rw [e]; exact hQ0) hQ1
  rw [e] at this
  exact this
set_option maxRecDepth 16384 in
theorem c_learnTag {b : Int32} {v : Int64} (hb : b = 0 ∨ b = 1) (hY : h.2[Y]? = some (.inl (7, yrdF Y x y z))) (hT : h.2[Y + 10]? = some (.inr (3, 8, .inl T))) (hG : h.2[Y + 9]? = some (.inr (2, 8, .inr (.inl G)))) (hj : j < 8)
    (hQ : Q (.inl none) (tagH h Y (px_up T j b) (px_up G j v))) :
    px_Wp sx 101 0 [some (.ref Y), some (.int (nI j)), some (.int b), some (.long v), none] [] h Q := by
  have hl : Y + 10 < h.2.length := (List.getElem?_eq_some_iff.mp hT).1
  have j0 : ¬ nI j < 0 := nI_pos (by omega)
  have j8 : ¬ (8 : Int32) ≤ nI j := nI_ge (b := 8) (by omega) (by decide)
  have ij : px_in (nI j) 8 = true := px_inb hj (by decide)
  have cj : (nI j).toNatClampNeg = j := nI_clamp (by omega)
  have e1 : (Y + 10 = Y) = False := eq_false (by omega)
  have e2 : (Y + 10 = Y + 9) = False := eq_false (by omega)
  have nb : px_nar 3 b = b := by rcases hb with rfl | rfl <;> rfl
  unfold yrdF at hY
  simp only [pc101_0, pc101_1, pc101_4, pc101_5, pc101_7, pc101_10, pc101_10n, pc101_11, pc101_14, pc101_15, pc101_16, pc101_17, pc101_17n, pc101_18, pc101_21, pc101_22, pc101_23, pc101_24, px_op_some, px_kv_ap, px_ki_ap, px_kl_ap, px_kn_ap, px_kh_ap, px_op_none, px_K_some, px_K_none, px_K_thr, px_kill, ↓reduceIte, if_true, if_false, true_and, and_true, px_gf, px_pf, px_ai, px_aj, px_aa, px_wi, px_wj, px_wa, px_an, px_cls, hY, hT, hG, tg_b3, List.getElem?_cons_zero, List.getElem?_cons_succ, if_neg j0, if_neg j8, ij, cj, and_self, wr_at, e1, e2, nb]
  exact hQ
set_option maxRecDepth 16384 in
theorem tagH_at {k : Nat} (h1 : Y + 10 ≠ k) (h2 : Y + 9 ≠ k) : (tagH h Y T G).2[k]? = h.2[k]? := by
  unfold tagH; rw [wr_at, if_neg h2, wr_at, if_neg h1]
set_option maxRecDepth 16384 in
theorem c_untell (w : rowAt h (Y + 1) 40000 R f) (hY : h.2[Y]? = some (.inl (7, yrdF Y x y z))) (hT : h.2[Y + 10]? = some (.inr (3, 8, .inl T))) (hG : h.2[Y + 9]? = some (.inr (2, 8, .inr (.inl G)))) (hj : j < 8)
    (hQ0 : 40000 < R + 7 → Q (.inl (some (.int 0))) h) (hQ1 : R + 7 ≤ 40000 → ∀ f', wrote f f' R (recB 3 1 (fun _ => nI j)) 7 → Q (.inl (some (.int 1))) (tagH (rowH h (Y + 1) 40000 (R + 7) f') Y (px_up T j 0) (px_up G j 0))) :
    px_Wp sx 102 0 [some (.ref Y), some (.int (nI j)), none] [] h Q := by
  have hl : Y + 2 < h.2.length := rowAt_lt w
  have hcY : px_cls h Y = some 7 := by unfold px_cls; rw [hY]
  have hY1 := hY
  have w1 := w.1
  unfold yrdF at hY1
  simp only [pc102_0, pc102_0n, pc102_1, pc102_4, pc102_7, pc102_8, pc102_8n, pc102_9, pc102_10, pc102_11, px_gf, hY1, w1, if_true, List.getElem?_cons_zero, List.getElem?_cons_succ, px_op_some, px_kv_ap, px_ki_ap, px_kl_ap, px_kn_ap, px_kh_ap, px_kill, hcY, true_and]
  refine c_open' (kd := 3) (m := 1) (g := recB 3 1 (fun _ => nI j)) w hY (by decide) (by decide) rfl rfl rfl rfl rfl (fun q => ?_) (fun q f1 u1 => ?_)
  · simp only [px_K_some, pc102_14, pc102_17, pc102_18, not_true_eq_false, if_false, nar_0]
    exact hQ0 q
  · have q' := hQ1 q
    have hY' : ∀ n f, (rowH h (Y + 1) 40000 n f).2[Y]? = some (.inl (7, [.ref (Y + 1), .int x, .ref (Y + 3), .ref (Y + 4), .ref (Y + 5), .ref (Y + 6), .int y, .ref (Y + 7), .ref (Y + 8), .int z, .ref (Y + 9), .ref (Y + 10)])) := fun n f => by rw [rowH_at (by omega) (by omega)]; exact hY
    have hcR : ∀ n f, px_cls (rowH h (Y + 1) 40000 n f) (Y + 1) = some 1 := fun n f => by unfold px_cls; rw [rowH_r hl]
    have hcY' : ∀ n f, px_cls (rowH h (Y + 1) 40000 n f) Y = some 7 := fun n f => by unfold px_cls; rw [hY']
    simp only [px_K_some, pc102_14, pc102_17, pc102_18, pc102_19, pc102_19n, pc102_20, pc102_23, pc102_24, ne_1_0, not_false_eq_true, if_true, px_gf, hY', List.getElem?_cons_zero, px_op_some, px_kv_ap, px_ki_ap, px_kl_ap, px_kn_ap, px_kh_ap, hcR, true_and]
    refine c_add hl (by omega) (by omega) u1 ((nI_small (by omega)).trans (rec_d (kd := 3) (m := 1) (k := 0) (d := fun _ => nI j) (by omega)).symm) (fun f2 u2 => ?_)
    simp only [px_K_none, pc102_27, pc102_27n, pc102_28, pc102_29, hcY', true_and]
    refine c_close hl hY u2 (by omega) rec_last (fun f3 u3 => ?_)
    simp only [px_K_none, pc102_32, pc102_32n, pc102_33, pc102_34, pc102_35, pc102_36, hcY', true_and]
    refine c_learnTag (Y := Y) (.inl rfl) (hY' _ _) (T := T) (G := G) (by rw [rowH_at (by omega) (by omega)]; exact hT) (by rw [rowH_at (by omega) (by omega)]; exact hG) hj ?_
    simp only [px_K_none, pc102_39, pc102_40, nar_1]
    exact q' f3 u3
set_option maxRecDepth 16384 in
theorem c_writeTag {v : Int64} (w : rowAt h (Y + 1) 40000 R f) (hY : h.2[Y]? = some (.inl (7, yrdF Y x y z))) (hT : h.2[Y + 10]? = some (.inr (3, 8, .inl T))) (hG : h.2[Y + 9]? = some (.inr (2, 8, .inr (.inl G)))) (hj : j < 8)
    (hQ0 : 40000 < R + 15 → Q (.inl (some (.int 0))) h) (hQ1 : R + 15 ≤ 40000 → ∀ f', wrote f f' R (recB 2 9 (tagB j v)) 15 → Q (.inl (some (.int 1))) (tagH (rowH h (Y + 1) 40000 (R + 15) f') Y (px_up T j 1) (px_up G j v))) :
    px_Wp sx 100 0 [some (.ref Y), some (.int (nI j)), some (.long v), none, none] [] h Q := by
  have hl : Y + 2 < h.2.length := rowAt_lt w
  have hcY : px_cls h Y = some 7 := by unfold px_cls; rw [hY]
  have hY1 := hY
  have w1 := w.1
  unfold yrdF at hY1
  simp only [pc100_0, pc100_0n, pc100_1, pc100_4, pc100_7, pc100_9, pc100_9n, pc100_10, pc100_11, pc100_13, px_gf, hY1, w1, if_true, List.getElem?_cons_zero, List.getElem?_cons_succ, px_op_some, px_kv_ap, px_ki_ap, px_kl_ap, px_kn_ap, px_kh_ap, px_kill, hcY, true_and]
  refine c_open' (kd := 2) (m := 9) (g := recB 2 9 (tagB j v)) w hY (by decide) (by decide) rfl rfl rfl rfl rfl (fun q => ?_) (fun q f1 u1 => ?_)
  · simp only [px_K_some, pc100_16, pc100_19, pc100_20, not_true_eq_false, if_false, nar_0]
    exact hQ0 q
  · have q' := hQ1 q
    have hY' : ∀ n f, (rowH h (Y + 1) 40000 n f).2[Y]? = some (.inl (7, [.ref (Y + 1), .int x, .ref (Y + 3), .ref (Y + 4), .ref (Y + 5), .ref (Y + 6), .int y, .ref (Y + 7), .ref (Y + 8), .int z, .ref (Y + 9), .ref (Y + 10)])) := fun n f => by rw [rowH_at (by omega) (by omega)]; exact hY
    have hcR : ∀ n f, px_cls (rowH h (Y + 1) 40000 n f) (Y + 1) = some 1 := fun n f => by unfold px_cls; rw [rowH_r hl]
    have hcY' : ∀ n f, px_cls (rowH h (Y + 1) 40000 n f) Y = some 7 := fun n f => by unfold px_cls; rw [hY']
    simp only [px_K_some, pc100_16, pc100_19, pc100_20, pc100_21, pc100_21n, pc100_22, pc100_25, pc100_26, ne_1_0, not_false_eq_true, if_true, px_gf, hY', List.getElem?_cons_zero, px_op_some, px_kv_ap, px_ki_ap, px_kl_ap, px_kn_ap, px_kh_ap, hcR, true_and]
    refine c_add hl (by omega) (by omega) u1 ((nI_small (by omega)).trans (rec_d (kd := 2) (m := 9) (k := 0) (d := tagB j v) (by omega)).symm) (fun f2 u2 => ?_)
    simp only [px_K_none, pc100_29, pc100_29n, pc100_30, pc100_33, pc100_34, px_gf, hY', if_true, List.getElem?_cons_zero, px_op_some, px_kv_ap, px_ki_ap, px_kl_ap, px_kn_ap, px_kh_ap, hcR, true_and]
    refine c_addLong hl (by omega) (by omega) u2 (fun k hk => ?_) (fun f3 u3 => ?_)
    · rw [show 5 + 1 + k = 5 + (1 + k) by omega, rec_d (by omega), tagB_s]
    simp only [px_K_none, pc100_37, pc100_37n, pc100_38, pc100_40, hcY', true_and]
    refine c_close hl hY u3 (by omega) rec_last (fun f4 u4 => ?_)
    simp only [px_K_none, pc100_43, pc100_43n, pc100_44, pc100_45, pc100_46, pc100_47, hcY', true_and]
    refine c_learnTag (Y := Y) (.inr rfl) (hY' _ _) (T := T) (G := G) (by rw [rowH_at (by omega) (by omega)]; exact hT) (by rw [rowH_at (by omega) (by omega)]; exact hG) hj ?_
    simp only [px_K_none, pc100_50, pc100_51, nar_1]
    exact q' f4 u4
set_option maxRecDepth 16384 in
theorem c_tell {v : Int64} (w : rowAt h (Y + 1) 40000 R f) (hY : h.2[Y]? = some (.inl (7, yrdF Y x y z))) (hT : h.2[Y + 10]? = some (.inr (3, 8, .inl T))) (hG : h.2[Y + 9]? = some (.inr (2, 8, .inr (.inl G)))) (hj : j < 8)
    (hQS : ¬ T j = 0 → G j = v → Q (.inl (some (.int 1))) h) (hQ0 : ¬ (¬ T j = 0 ∧ G j = v) → 40000 < R + 15 → Q (.inl (some (.int 0))) h) (hQ1 : ¬ (¬ T j = 0 ∧ G j = v) → R + 15 ≤ 40000 → ∀ f', wrote f f' R (recB 2 9 (tagB j v)) 15 → Q (.inl (some (.int 1))) (tagH (rowH h (Y + 1) 40000 (R + 15) f') Y (px_up T j 1) (px_up G j v))) :
    px_Wp sx 99 0 [some (.ref Y), some (.int (nI j)), some (.long v), none] [] h Q := by
  have hcY : px_cls h Y = some 7 := by unfold px_cls; rw [hY]
  have hY1 := hY
  unfold yrdF at hY1
  have ij : px_in (nI j) 8 = true := px_inb hj (by decide)
  have cj : (nI j).toNatClampNeg = j := nI_clamp (by omega)
  by_cases e : T j = 0
  · simp only [pc99_0, pc99_0n, pc99_1, pc99_4, pc99_5, pc99_6, pc99_9, pc99_9n, pc99_10, pc99_13, pc99_14, pc99_15, pc99_16, pc99_17, pc99_20, pc99_20n, pc99_21, pc99_22, pc99_23, px_op_some, px_kv_ap, px_ki_ap, px_kl_ap, px_kn_ap, px_kh_ap, px_op_none, px_K_some, px_K_none, px_K_thr, px_kill, ↓reduceIte, if_true, if_false, true_and, and_true, px_gf, px_pf, px_ai, px_aj, px_aa, px_wi, px_wj, px_wa, px_an, px_cls, hY1, hT, hG, tg_b3, List.getElem?_cons_zero, List.getElem?_cons_succ, ij, cj, and_self, e]
    refine c_writeTag w hY hT hG hj (fun q => ?_) (fun q f' u => ?_)
    · simp only [px_K_some, pc99_26, pc99_29, pc99_30, pc99_33, pc99_34, if_true, nar_0]; exact hQ0 (fun z => z.1 e) q
    · simp only [px_K_some, pc99_26, pc99_29, pc99_30, pc99_33, pc99_34, ne_1_0, if_false, nar_1]; exact hQ1 (fun z => z.1 e) q f' u
  · by_cases e2 : G j = v
    · simp only [pc99_0, pc99_0n, pc99_1, pc99_4, pc99_5, pc99_6, pc99_9, pc99_9n, pc99_10, pc99_13, pc99_14, pc99_15, pc99_16, pc99_17, pc99_20, pc99_20n, pc99_21, pc99_22, pc99_23, pc99_26, pc99_29, pc99_30, pc99_33, pc99_34, px_op_some, px_kv_ap, px_ki_ap, px_kl_ap, px_kn_ap, px_kh_ap, px_op_none, px_K_some, px_K_none, px_K_thr, px_kill, ↓reduceIte, if_true, if_false, true_and, and_true, px_gf, px_pf, px_ai, px_aj, px_aa, px_wi, px_wj, px_wa, px_an, px_cls, hY1, hT, hG, tg_b3, List.getElem?_cons_zero, List.getElem?_cons_succ, ij, cj, and_self, e, lgc_0, e2, nar_1]
      exact hQS e e2
    · simp only [pc99_0, pc99_0n, pc99_1, pc99_4, pc99_5, pc99_6, pc99_9, pc99_9n, pc99_10, pc99_13, pc99_14, pc99_15, pc99_16, pc99_17, pc99_20, pc99_20n, pc99_21, pc99_22, pc99_23, px_op_some, px_kv_ap, px_ki_ap, px_kl_ap, px_kn_ap, px_kh_ap, px_op_none, px_K_some, px_K_none, px_K_thr, px_kill, ↓reduceIte, if_true, if_false, true_and, and_true, px_gf, px_pf, px_ai, px_aj, px_aa, px_wi, px_wj, px_wa, px_an, px_cls, hY1, hT, hG, tg_b3, List.getElem?_cons_zero, List.getElem?_cons_succ, ij, cj, and_self, e, lgc_0, e2]
      refine c_writeTag w hY hT hG hj (fun q => ?_) (fun q f' u => ?_)
      · simp only [px_K_some, pc99_26, pc99_29, pc99_30, pc99_33, pc99_34, if_true, nar_0]; exact hQ0 (fun z => e2 z.2) q
      · simp only [px_K_some, pc99_26, pc99_29, pc99_30, pc99_33, pc99_34, ne_1_0, if_false, nar_1]; exact hQ1 (fun z => e2 z.2) q f' u
end TELL
