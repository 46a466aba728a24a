/-! LAYER, IMAGE, RETAG, UNTAG keep the invariant -/
section TAGS
variable {sx : Nat × (Nat → Int32)} {h : px_H} {i : Nat} {a b c : Option Value} {Q : px_O → px_H → Prop}
set_option maxRecDepth 16384 in
theorem Inv_rd {h' : px_H} (I : Inv h) (w : rdK h h') : Inv h' := by
  obtain ⟨w1, w2, w3, w4, w5, w6, w7⟩ := I
  obtain ⟨s, -, -, e, v, im⟩ := w
  have d : ∀ r, r < 668 → r ≠ 619 → ¬ (421 ≤ r ∧ r < 454) → ¬ (649 ≤ r ∧ r ≤ 653) → h'.2[r]? = h.2[r]? := fun r p q x y => e r p (by unfold imA; omega) (by unfold mtA; omega)
  exact ⟨s, relT_frm w2 (fun r hr => d r (by omega) (by omega) (by omega) (by omega)) (v 2 (by omega)), invB_frm w3 (d 47 (by omega) (by omega) (by omega) (by omega)) (v 44 (by omega)) (v 45 (by omega)) (v 46 (by omega)), im, invS_frm w5 (fun r hr => d r (by omega) (by omega) (by omega) (by omega)), fun q hq => invY_frm (w6 q hq) (fun r p s => d r (by omega) (by omega) (by omega) (by omega)) (fun r p s => d r (by omega) (by omega) (by omega) (by omega)), fun t ht => invX_frm (w7 t ht) (fun r p s => d r (by omega) (by omega) (by omega) (by omega)) (fun r p s => d r (by omega) (by omega) (by omega) (by omega))⟩
set_option maxRecDepth 16384 in
theorem Inv_yd {H : px_H} {q : Nat} {S' : yS} (I : Inv h) (hq : q < 2) (sH : shape H) (ok : yOK S') (cy : CY H (2 + 11 * q) S') (ry : RY H q S') (oth : ∀ q2 S2, q2 < 2 → q2 ≠ q → WFy S2 → RY h q2 S2 → RY H q2 S2) (e : ∀ r, ¬ cyA (2 + 11 * q) r → (r ≤ 618 ∨ r = 620 ∨ 655 ≤ r ∧ r ≤ 667) → H.2[r]? = h.2[r]?) (vk : vKeep h H) : Inv H := by
  obtain ⟨w1, w2, w3, w4, w5, w6, w7⟩ := I
  refine ⟨sH, relT_frm w2 (fun r hr => e r (by unfold cyA; omega) (by omega)) (vk 2 (by omega)), invB_frm w3 (e 47 (by unfold cyA; omega) (by omega)) (vk 44 (by omega)) (vk 45 (by omega)) (vk 46 (by omega)), imS_up w4 (fun r p s => e r (by unfold cyA; omega) (by omega)), invS_frm w5 (fun r hr => e r (by unfold cyA; omega) (by omega)), fun q2 hq2 => ?_, fun t ht => invX_frm (w7 t ht) (fun r p s => e r (by unfold cyA; omega) (by omega)) (fun r p s => e r (by unfold cyA; omega) (by omega))⟩
  by_cases x : q2 = q
  · subst x; exact ⟨S', ok, cy, ry⟩
  · obtain ⟨S2, o2, c2, r2⟩ := w6 q2 hq2
    exact ⟨S2, o2, CY_frm c2 (fun r p s => e r (by unfold cyA; omega) (by omega)), oth q2 S2 hq2 x (yOK_good o2).1 r2⟩
/-! both sides agree on what is told -/
set_option maxRecDepth 16384 in
theorem inv_told (I : Inv h) : (∀ j, j < 8 → iA h 12 j = iA h 628 j) ∧ ∀ j, j < 8 → iA h 23 j = iA h 628 (8 + j) := by
  have f : ∀ q, q < 2 → ∀ j, j < 8 → iA h (2 + 11 * q + 10) j = iA h 628 (8 * q + j) := fun q hq j hj => by
    obtain ⟨S, ok, cy, ry⟩ := I.2.2.2.2.2.1 q hq
    obtain ⟨-, -, -, -, -, -, -, -, -, T, j1, j2⟩ := cy
    obtain ⟨-, -, -, -, -, -, -, -, -, -, T', l1, l2⟩ := ry
    rw [iA_of j1, iA_of l1, j2 j hj, l2 j hj]
  refine ⟨fun j hj => ?_, fun j hj => f 1 (by decide) j hj⟩
  have := f 0 (by decide) j hj
  rw [Nat.mul_zero, Nat.zero_add] at this
  exact this
set_option maxRecDepth 16384 in
theorem told_of {q j : Nat} {S : yS} (ry : RY h q S) (hj : j < 8) (t0 : ¬ iA h 628 (8 * q + j) = 0) : yT S j = true := by
  obtain ⟨-, -, -, -, -, -, -, -, -, -, T', l1, l2⟩ := ry
  rw [iA_of l1, l2 j hj] at t0
  by_cases e : yT S j = true
  · exact e
  · rw [if_neg e] at t0; exact absurd rfl t0
set_option maxRecDepth 16384 in
theorem inv_toldI {q j : Nat} {S : yS} (ok : yOK S) (cy : CY h (2 + 11 * q) S) (ry : RY h q S) (hj : j < 8) (e : yT S j = true) : ∃ R B k s u l nl ns pos na nv bb, toldI h q (2 + 11 * q) j R B k s u l nl ns pos na nv bb := by
  have g := yOK_good ok
  obtain ⟨⟨x1, x2, x3, x4⟩, x5, x6, x7, x8⟩ := yd_nums cy ry
  obtain ⟨k, k1, k2, nl, ns, pos, na, nv, k3, k4⟩ := g.2.2.2 j hj e
  obtain ⟨⟨f, a1, a2⟩, -, ⟨D, d1, d2⟩, ⟨st, s1, s2⟩, -, -, -, -, ⟨G, i1, i2⟩, -⟩ := cy
  obtain ⟨-, -, -, -, ⟨D', e1, e2⟩, ⟨fr, sz, bt, us, U, f1, f2, f3, f4, f5, f6, f7⟩, -, -, -, ⟨G', j1, j2⟩, -⟩ := ry
  obtain ⟨y1, u, y2, y3, y4⟩ := f7 k k1
  have hP := g.1.2.2.2.2.2.1 k k1
  have h4 := g.1.1
  refine ⟨yR S, yB S, k, yP S k, u, yL S k, nl, ns, pos, na, nv, blB S k, ⟨h4, x4, g.1.2.2.1, x2, x5, k1⟩, ?_, fun a b ha hb eab => ?_, fun a ha => ?_, ?_, ⟨?_, hP, ?_, by omega⟩, fun m hm => ?_, fun m hm => ?_, k3⟩
  · rw [lA_of d1, lA_of i1, d2 k k1, i2 j hj e]; exact k2
  · rw [lA_of d1, d2 a ha, d2 b hb] at eab
    exact g.1.2.2.2.2.1 a b ha hb eab
  · rw [lA_of d1, lA_of e1, d2 a ha, e2 a ha]
  · rw [lA_of i1, lA_of j1, i2 j hj e, j2 j hj e]
  · rw [iA_of s1]; exact s2 k k1
  · rw [iA_of f1]; exact y2
  · rw [iA_of (r := 2 + 11 * q + 2) a1.2.1]; exact a2 _ (by omega)
  · rw [iA_of f3]; exact y4 m hm
/-! a yard's cells, as the older cases want them -/
set_option maxRecDepth 16384 in
theorem yd_cells {q : Nat} (hS : shape h) (hq : q < 2) : h.2[2 + 11 * q]? = some (.inl (7, yrdF (2 + 11 * q) (fI h (2 + 11 * q) 1) (fI h (2 + 11 * q) 6) (fI h (2 + 11 * q) 9))) ∧ h.2[2 + 11 * q + 1]? = some (.inl (1, [.ref (2 + 11 * q + 2), .int (fI h (2 + 11 * q + 1) 1)])) ∧ h.2[2 + 11 * q + 2]? = some (.inr (0, 40000, .inl (iA h (2 + 11 * q + 2)))) ∧ h.2[2 + 11 * q + 3]? = some (.inr (2, 60, .inr (.inl (lA h (2 + 11 * q + 3))))) ∧ h.2[2 + 11 * q + 4]? = some (.inr (1, 60, .inl (iA h (2 + 11 * q + 4)))) ∧ h.2[2 + 11 * q + 10]? = some (.inr (3, 8, .inl (iA h (2 + 11 * q + 10)))) ∧ h.2[2 + 11 * q + 9]? = some (.inr (2, 8, .inr (.inl (lA h (2 + 11 * q + 9))))) := by
  match q, hq with
  | 0, _ => exact ⟨at_2 hS, at_3 hS, at_4 hS, at_5 hS, at_6 hS, at_12 hS, at_11 hS⟩
  | 1, _ => exact ⟨at_13 hS, at_14 hS, at_15 hS, at_16 hS, at_17 hS, at_23 hS, at_22 hS⟩
set_option maxRecDepth 16384 in
theorem inv_layer {y w : Int32} (hL : sx.1 ≤ 3072) (hi : i + 6 ≤ sx.1) (hx : sx.2 (i + 1) = y) (hw : sx.2 (i + 2) = w) (I : Inv h) (hc : h.2.length + 1 ≤ px_CT) (hs : h.1 + 6 ≤ px_ST) (hQ : beh sx i h Q) : px_Wp sx 277 611 (lawL (nI i) a b c) [] h Q := by
  have hS := I.1
  have T := inv_told I
  refine st_layer_0 hL hi hx hw hS hc hs T.1 T.2 (fun q j _ hq hj _ e1 e2 t0 => ?_) (fin_thr I hQ)
  obtain ⟨S, ok, cy, ry⟩ := I.2.2.2.2.2.1 q hq
  have te := told_of ry hj t0
  obtain ⟨R, B, k, s, u, l, nl, ns, pos, na, nv, bb, tI⟩ := inv_toldI ok cy ry hj te
  obtain ⟨c1, c2, c3, c4, c5, c6, c7⟩ := yd_cells hS hq
  refine st_layer_t hL hi e1 e2 hS hc hs hq (yrd_at hq) (by omega) c1 c2 c3 c4 c5 c6 c7 hj ?_ t0 tI I.2.2.2.1 (fun h' a b c w => hQ h' a b c (Inv_rd I w) w.2.1 w.2.2.1)
  match q, hq with
  | 0, _ => have := T.1 j hj; rw [Nat.mul_zero, Nat.zero_add]; exact this
  | 1, _ => exact T.2 j hj
set_option maxRecDepth 16384 in
theorem inv_image {y w : Int32} (hL : sx.1 ≤ 3072) (hi : i + 6 ≤ sx.1) (hx : sx.2 (i + 1) = y) (hw : sx.2 (i + 2) = w) (I : Inv h) (hc : h.2.length + 1 ≤ px_CT) (hs : h.1 + 6 ≤ px_ST) (hQ : beh sx i h Q)
    (h2 : ∀ q j S, q < 2 → j < 8 → sx.2 (i + 1) = nI q → sx.2 (i + 2) = nI j → sx.2 (i + 3) = 2 → yOK S → CY h (2 + 11 * q) S → RY h q S → yT S j = true → px_Wp sx 277 531 (lawL (nI i) a b c) [] h Q) : px_Wp sx 277 531 (lawL (nI i) a b c) [] h Q := by
  have hS := I.1
  have T := inv_told I
  refine st_image_0 hL hi hx hw hS hc hs T.1 T.2 (fun q j _ hq hj _ e1 e2 t0 => ?_) (fin_thr I hQ)
  obtain ⟨S, ok, cy, ry⟩ := I.2.2.2.2.2.1 q hq
  have te := told_of ry hj t0
  obtain ⟨R, B, k, s, u, l, nl, ns, pos, na, nv, bb, tI⟩ := inv_toldI ok cy ry hj te
  obtain ⟨c1, c2, c3, c4, c5, c6, c7⟩ := yd_cells hS hq
  refine st_image_t hL hi e1 e2 hS hc hs hq (yrd_at hq) (by omega) c1 c2 c3 c4 c5 c6 c7 hj ?_ t0 tI I.2.2.2.1 (fun e3 => h2 q j S hq hj e1 e2 e3 ok cy ry te) (fun h' a b c w => hQ h' a b c (Inv_rd I w) w.2.1 w.2.2.1)
  match q, hq with
  | 0, _ => have := T.1 j hj; rw [Nat.mul_zero, Nat.zero_add]; exact this
  | 1, _ => exact T.2 j hj
set_option maxRecDepth 16384 in
theorem inv_untag {y w : Int32} (hL : sx.1 ≤ 3072) (hi : i + 6 ≤ sx.1) (hx : sx.2 (i + 1) = y) (hw : sx.2 (i + 2) = w) (I : Inv h) (hc : h.2.length + 1 ≤ px_CT) (hs : h.1 + 6 ≤ px_ST) (hQ : beh sx i h Q) : px_Wp sx 277 483 (lawL (nI i) a b c) [] h Q := by
  have hS := I.1
  have hl := hS.1
  have T := inv_told I
  refine st_untag_0 hL hi hx hw hS hc hs T.1 T.2 (fun q j _ hq hj _ e1 e2 t0 => ?_) (fin_thr I hQ)
  obtain ⟨S, ok, cy, ry⟩ := I.2.2.2.2.2.1 q hq
  have te := told_of ry hj t0
  obtain ⟨c1, c2, c3, c4, c5, c6, c7⟩ := yd_cells hS hq
  have cy' := cy
  have ry' := ry
  obtain ⟨⟨x1, x2, x3, x4⟩, x5, x6, x7, x8⟩ := yd_nums cy ry
  obtain ⟨⟨f, a1, a2⟩, -, -, -, -, -, -, -, ⟨G, i1, i2⟩, T0, j1, j2⟩ := cy
  obtain ⟨⟨J, r1, r2⟩, ⟨W, v1, v2⟩, -, -, -, -, -, -, -, ⟨G', g1, g2⟩, T', l1, l2⟩ := ry
  refine st_untag_t hL hi e1 e2 hS hc hs hq (yrd_at hq) (by omega) c1 c6 c7 a1 x7 hj ?_ t0 (fin_thr I hQ) (fun f' J' row' a b c room u1 u2 => ?_)
  · match q, hq with
    | 0, _ => have := T.1 j hj; rw [Nat.mul_zero, Nat.zero_add]; exact this
    | 1, _ => exact T.2 j hj
  have eT : iA h (2 + 11 * q + 10) = T0 := iA_of j1
  have eG : lA h (2 + 11 * q + 9) = G := lA_of i1
  have eJ : iA h 632 = J := iA_of r1
  have eW : iA h 633 = W := iA_of v1
  have eT' : iA h 628 = T' := iA_of l1
  rw [eT, eG, eW, eT']
  rw [eJ] at u2
  have cn := cy_tag (S := S) (j := j) (n := 7) (f' := f') (g := recB 3 1 (fun _ => nI j)) (T := T0) (G := G) (b := 0) (bt := false) (v := 0) cy' room (wrote_J (S := S) a2 u1) j2 i2 rfl (yG S) (fun z => absurd z (by decide)) (fun _ _ => rfl)
  have shT : shape (tagH (rowH h (2 + 11 * q + 1) 40000 (yR S + 7) f') (2 + 11 * q) (px_up T0 j 0) (px_up G j 0)) := by
    have q1 := shape_row (n' := yR S + 7) (f' := f') hS a1
    have e10 : (rowH h (2 + 11 * q + 1) 40000 (yR S + 7) f').2[2 + 11 * q + 10]? = some (.inr (3, 8, .inl T0)) := by unfold rowH; rw [wr_at, if_neg (by omega), wr_at, if_neg (by omega)]; exact j1
    have e9 : (rowH h (2 + 11 * q + 1) 40000 (yR S + 7) f').2[2 + 11 * q + 9]? = some (.inr (2, 8, .inr (.inl G))) := by unfold rowH; rw [wr_at, if_neg (by omega), wr_at, if_neg (by omega)]; exact i1
    unfold tagH
    exact shape_la (shape_ia q1 e10) (r := 2 + 11 * q + 9) (f := G) (by rw [wr_at, if_neg (by omega)]; exact e9)
  have frT : frm (cyA (2 + 11 * q)) h (tagH (rowH h (2 + 11 * q + 1) 40000 (yR S + 7) f') (2 + 11 * q) (px_up T0 j 0) (px_up G j 0)) := by
    unfold tagH rowH
    exact frm_wr (frm_wr (frm_wr (frm_wr (frm_refl _ _) ⟨by omega, by omega⟩) ⟨by omega, by omega⟩) ⟨by omega, by omega⟩) ⟨by omega, by omega⟩
  generalize tagH (rowH h (2 + 11 * q + 1) 40000 (yR S + 7) f') (2 + 11 * q) (px_up T0 j 0) (px_up G j 0) = h1 at *
  have up : ∀ r, 619 ≤ r → h1.2[r]? = h.2[r]? := fun r hr => frT.2.2 r (by unfold cyA; omega)
  have ry1 : ∀ q2 S2, RY h q2 S2 → RY h1 q2 S2 := fun q2 S2 x => RY_frm x (fun r p s => up r (by omega))
  obtain ⟨rn, ro⟩ := ry_tag (h := h1) (S := S) (q := q) (j := j) (n := 7) (J := J) (J' := J') (W := W) (T := T') (G := G') (V' := px_up (px_up (fI h 619) 0 0) 17 (nI 1)) (row' := row') (g := recB 3 1 (fun _ => nI j)) (b := 0) (bt := false) (v := G' (8 * q + j)) shT (yOK_good ok).1 hq hj (ry1 q S ry') room ((up 632 (by decide)).trans r1) ((up 633 (by decide)).trans v1) ((up 628 (by decide)).trans l1) ((up 627 (by decide)).trans g1) u2 rfl (yG S) (fun z => absurd z (by decide)) (fun _ _ => rfl)
  rw [up_id (f := G') (k := 8 * q + j) rfl] at rn ro
  have l1len : h1.2.length = h.2.length := frT.2.1
  have eH : tmH h1 (px_up (px_up (fI h 619) 0 0) 17 (nI 1)) row' J' (px_up W q (nI (yR S + 7))) (px_up T' (8 * q + j) 0) G' = px_wr (jouH (outH h1 (px_up (px_up (fI h 619) 0 0) 17 (nI 1)) row') J' (px_up W q (nI (yR S + 7)))) 628 (.inr (3, 16, .inl (px_up T' (8 * q + j) 0))) := by
    unfold tmH
    exact wr_id (by rw [wr_at, if_neg (by decide), jouH_at (by decide) (by decide), outH_at (by decide) (by decide)]; exact (up 627 (by decide)).trans g1)
  rw [eH] at rn ro
  generalize hH : px_wr (jouH (outH h1 (px_up (px_up (fI h 619) 0 0) 17 (nI 1)) row') J' (px_up W q (nI (yR S + 7)))) 628 (.inr (3, 16, .inl (px_up T' (8 * q + j) 0))) = H at *
  have frH : frm (fun r => r = 619 ∨ r = 636 ∨ r = 632 ∨ r = 633 ∨ r = 628) h1 H := by
    rw [← hH]; unfold jouH outH
    exact frm_wr (frm_wr (frm_wr (frm_wr (frm_wr (frm_refl _ _) (.inr (.inl rfl))) (.inl rfl)) (.inr (.inr (.inl rfl)))) (.inr (.inr (.inr (.inl rfl))))) (.inr (.inr (.inr (.inr rfl))))
  have sH : shape H := by
    rw [← hH]; unfold jouH outH
    refine shape_wr (shape_wr (shape_wr (shape_wr (shape_wr shT ?_) ?_) ?_) ?_) ?_ <;> rfl
  have z6 : H.2[619]? = some (.inl (11, modF (px_up (px_up (fI h 619) 0 0) 17 (nI 1)))) := by rw [← hH, wr_at, if_neg (by decide), jouH_at (by decide) (by decide)]; exact outH_o (by omega)
  refine hQ H a b c (Inv_yd (S' := yUnt S j) I hq sH (yOK_stp ok (.inr (.inr (.inl ⟨j, rfl, hj, room⟩)))) (CY_frm cn (fun r p s => frH.2.2 r (by omega))) rn (fun q2 S2 p1 p2 p3 p4 => ro q2 S2 p1 p2 p3 (ry1 q2 S2 p4)) (fun r p s => (frH.2.2 r (by omega)).trans (frT.2.2 r p)) (fun k hk => ?_)) ?_ ?_
  · rw [fI_md z6 k (by omega), up_ne (by omega), up_ne (by omega)]
  · have := frH.2.1; omega
  · have := frH.1; have := frT.1; omega
end TAGS
