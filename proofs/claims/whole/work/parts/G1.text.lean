/-! PUT, END, SYNC, LOSE keep the invariant -/
section WRITES
variable {sx : Nat × (Nat → Int32)} {h : px_H} {i : Nat} {a b c : Option Value} {Q : px_O → px_H → Prop}
set_option maxRecDepth 16384 in
theorem ad_rel {x : Int32} {n : Nat} {f g : Nat → Int32} (e : ∀ j, j < n → f j &&& 255 = g j) : ∀ k j, j < n + cnt x k → adF by8 x n f k j &&& 255 = adF id x n g k j := by
  intro k
  induction k with
  | zero => intro j hj; exact e j hj
  | succ k ih =>
    intro j hj
    unfold adF
    by_cases h0 : sg x k = 0
    · simp only [cnt, h0, if_true, Nat.add_zero] at hj ⊢
      exact ih j hj
    · simp only [cnt, h0, if_false] at hj ⊢
      by_cases ej : j = n + cnt x k
      · subst ej
        rw [up_same, up_same]
        show by8 (sg x k) &&& 255 = sg x k
        rw [by_255]; unfold sg; rw [Int32.and_assoc, Int32.and_self]
      · rw [up_ne ej, up_ne ej]; exact ih j (by omega)
set_option maxRecDepth 16384 in
theorem Inv_txt {h' : px_H} (w : Inv h) (hs : shape h') (ht : relT h') (e : ∀ r, r ≠ 45 → r ≠ 46 → (r ≤ 618 ∨ 621 ≤ r ∧ r ≤ 634 ∨ 655 ≤ r ∧ r ≤ 667) → h'.2[r]? = h.2[r]?) (ev : ∀ k, k = 44 ∨ k = 45 ∨ k = 46 → fI h' 619 k = fI h 619 k) : Inv h' := by
  obtain ⟨w1, w2, w3, w4, w5, w6, w7⟩ := w
  exact ⟨hs, ht, invB_frm w3 (e 47 (by decide) (by decide) (by omega)) (ev 44 (by omega)) (ev 45 (by omega)) (ev 46 (by omega)), imS_up w4 (fun r a b => e r (by omega) (by omega) (by omega)), invS_frm w5 (fun r hr => e r (by omega) (by omega) (by omega)), fun q hq => invY_frm (w6 q hq) (fun r a b => e r (by omega) (by omega) (by omega)) (fun r a b => e r (by omega) (by omega) (by omega)), fun t ht => invX_frm (w7 t ht) (fun r a b => e r (by omega) (by omega) (by omega)) (fun r a b => e r (by omega) (by omega) (by omega))⟩
set_option maxRecDepth 16384 in
theorem inv_put {x : Int32} (hL : sx.1 ≤ 3072) (hi : i + 6 ≤ sx.1) (hx : sx.2 (i + 1) = x) (I : Inv h) (hc : h.2.length + 1 ≤ px_CT) (hs : h.1 + 6 ≤ px_ST) (hQ : beh sx i h Q) : px_Wp sx 277 140 (lawL (nI i) a b c) [] h Q := by
  have hS := I.1
  have hl := hS.1
  obtain ⟨n, n1, n2, n3, n4⟩ := I.2.1
  refine st_put hL hi hx hS hc hs n1 n2 n3 (fin_thr I hQ) (fun hr y a b c => ?_)
  have s1 : shape (px_wr (ptH h x n 4) 668 (.inr (2, 1, .inr (.inl (px_up (lA h 668) 0 y))))) := shape_wr (shape_pt hS x n 4) rfl
  have e20 : iA (px_wr (ptH h x n 4) 668 (.inr (2, 1, .inr (.inl (px_up (lA h 668) 0 y))))) 620 = iA h 620 := iA_q (by unfold ptH; rw [wr_at, if_neg (by decide), wr_at, if_neg (by decide), wr_at, if_neg (by decide)])
  have r1 := pt_row hS x n 4 hr
  have m1 := mp_619 s1 (px_up (fI h 619) 0 0) x n 4
  have m2 := mp_620 s1 (px_up (fI h 619) 0 0) x n 4
  rw [e20] at m2
  have sH : shape (mpH (px_wr (ptH h x n 4) 668 (.inr (2, 1, .inr (.inl (px_up (lA h 668) 0 y))))) (px_up (fI h 619) 0 0) x n 4) := by unfold mpH; exact shape_wr (shape_wr s1 rfl) rfl
  have ne : ∀ {r : Nat}, r ≠ 619 → r ≠ 620 → r ≠ 668 → (mpH (px_wr (ptH h x n 4) 668 (.inr (2, 1, .inr (.inl (px_up (lA h 668) 0 y))))) (px_up (fI h 619) 0 0) x n 4).2[r]? = (ptH h x n 4).2[r]? := fun p q r => by unfold mpH; rw [wr_at, if_neg (fun z => p z.symm), wr_at, if_neg (fun z => q z.symm), wr_at, if_neg (fun z => r z.symm)]
  have ne2 : ∀ {r : Nat}, r ≠ 45 → r ≠ 46 → (ptH h x n 4).2[r]? = h.2[r]? := fun p q => by unfold ptH; rw [wr_at, if_neg (fun z => p z.symm), wr_at, if_neg (fun z => q z.symm)]
  have ln : (mpH (px_wr (ptH h x n 4) 668 (.inr (2, 1, .inr (.inl (px_up (lA h 668) 0 y))))) (px_up (fI h 619) 0 0) x n 4).2.length = h.2.length ∧ (mpH (px_wr (ptH h x n 4) 668 (.inr (2, 1, .inr (.inl (px_up (lA h 668) 0 y))))) (px_up (fI h 619) 0 0) x n 4).1 = h.1 := by
    unfold mpH ptH; simp only [px_wr_len]; exact ⟨trivial, rfl⟩
  refine hQ _ a b c (Inv_txt I sH ⟨n + cnt x 4, hr, ?_, ?_, fun j hj => ?_⟩ (fun r p q hr => (ne (by omega) (by omega) (by omega)).trans (ne2 p q)) (fun k hk => ?_)) (by omega) (by omega)
  · exact fI_of ((ne (by decide) (by decide) (by decide)).trans r1.1) rfl
  · rw [fI_md m1 2 (by omega), up_same]
  · rw [iA_of ((ne (by decide) (by decide) (by decide)).trans r1.2.1), iA_of m2]
    exact ad_rel n4 4 j hj
  · rw [fI_md m1 k (by omega), up_ne (by omega), up_ne (by omega)]
set_option maxRecDepth 16384 in
theorem inv_end {x : Int32} (hL : sx.1 ≤ 3072) (hi : i + 6 ≤ sx.1) (hx : sx.2 (i + 1) = x) (I : Inv h) (hc : h.2.length + 1 ≤ px_CT) (hs : h.1 + 6 ≤ px_ST) (hQ : beh sx i h Q) : px_Wp sx 277 196 (lawL (nI i) a b c) [] h Q := by
  have hS := I.1
  have hl := hS.1
  obtain ⟨n, n1, n2, n3, n4⟩ := I.2.1
  refine st_end hL hi hx hS hc hs (n2.trans n3.symm) (fun _ => fin_thr I hQ _ _) (fun g g' a b c => ?_)
  rw [n3] at g'
  obtain ⟨m, hm, rfl⟩ := nI_of2 (n := n) (M := nI n) (nI_toInt (by omega)) g (Int32.not_lt.mp g')
  have m1 : (px_wr (px_wr h 45 (.inl (1, [.ref 46, .int (nI m)]))) 619 (.inl (11, modF (px_up (px_up (fI h 619) 0 0) 2 (nI m))))).2[619]? = some (.inl (11, modF (px_up (px_up (fI h 619) 0 0) 2 (nI m)))) := by rw [wr_at, if_pos rfl, if_pos (by rw [px_wr_len]; omega)]
  have ne : ∀ {r : Nat}, r ≠ 45 → r ≠ 619 → (px_wr (px_wr h 45 (.inl (1, [.ref 46, .int (nI m)]))) 619 (.inl (11, modF (px_up (px_up (fI h 619) 0 0) 2 (nI m))))).2[r]? = h.2[r]? := fun p q => by rw [wr_at, if_neg (fun z => q z.symm), wr_at, if_neg (fun z => p z.symm)]
  refine hQ _ a b c (Inv_txt I (shape_wr (shape_wr hS rfl) rfl) ⟨m, by omega, ?_, ?_, fun j hj => ?_⟩ (fun r p q hr => ne p (by omega)) (fun k hk => ?_)) (by simp only [px_wr_len]; omega) (Nat.le_add_right _ _)
  · exact fI_of (r := 45) (c := 1) (fs := [.ref 46, .int (nI m)]) (by rw [wr_at, if_neg (by decide), wr_at, if_pos rfl, if_pos (by omega)]) rfl
  · rw [fI_md m1 2 (by omega), up_same]
  · rw [iA_q (ne (by decide) (by decide)), iA_q (ne (by decide) (by decide))]
    exact n4 j (by omega)
  · rw [fI_md m1 k (by omega), up_ne (by omega), up_ne (by omega)]
set_option maxRecDepth 16384 in
theorem inv_sync {y : Int32} (hL : sx.1 ≤ 3072) (hi : i + 6 ≤ sx.1) (hx : sx.2 (i + 1) = y) (I : Inv h) (hc : h.2.length + 1 ≤ px_CT) (hs : h.1 + 6 ≤ px_ST) (hQ : beh sx i h Q) : px_Wp sx 277 1142 (lawL (nI i) a b c) [] h Q := by
  have hS := I.1
  have hl := hS.1
  refine st_sync hL hi hx hS hc hs (fin_thr I hQ _ _) (fun q hqq a b c => ?_)
  have hq : q < 2 := by omega
  obtain ⟨-, i2, i3, i4, i5, i6, i7⟩ := I
  obtain ⟨S, ok, cy, ry⟩ := i6 q hq
  obtain ⟨⟨x1, x2, x3, x4⟩, x5, x6, x7, x8⟩ := yd_nums cy ry
  rw [show 3 + 11 * q = 2 + 11 * q + 1 by omega, x4, x2, x3, x7]
  have sY : shape (px_wr h (2 + 11 * q) (.inl (7, yrdF (2 + 11 * q) (nI (yR S)) (nI (yB S)) (nI (yK S))))) := by
    have b' := cy.2.1
    unfold yrdF at b'
    exact shape_int (k := 1) (y := nI (yR S)) hS b' rfl
  have e34 : iA h 634 = iA h 634 := rfl
  generalize hH : px_wr (px_wr (px_wr h (2 + 11 * q) (.inl (7, yrdF (2 + 11 * q) (nI (yR S)) (nI (yB S)) (nI (yK S))))) 619 (.inl (11, modF (px_up (fI h 619) 0 0)))) 634 (.inr (1, 2, .inl (px_up (iA h 634) q (nI (yR S))))) = H
  have sH : shape H := by rw [← hH]; exact shape_wr (shape_wr sY rfl) rfl
  have z0 : H.2[2 + 11 * q]? = some (.inl (7, yrdF (2 + 11 * q) (nI (yR S)) (nI (yB S)) (nI (yK S)))) := by rw [← hH, wr_at, if_neg (by omega), wr_at, if_neg (by omega), wr_at, if_pos rfl, if_pos (by omega)]
  have z6 : H.2[619]? = some (.inl (11, modF (px_up (fI h 619) 0 0))) := by rw [← hH, wr_at, if_neg (by decide), wr_at, if_pos rfl, if_pos (by rw [px_wr_len]; omega)]
  have z34 : H.2[634]? = some (.inr (1, 2, .inl (px_up (iA h 634) q (nI (yR S))))) := by rw [← hH, wr_at, if_pos rfl, if_pos (by simp only [px_wr_len]; omega)]
  have ne : ∀ {r : Nat}, r ≠ 2 + 11 * q → r ≠ 619 → r ≠ 634 → H.2[r]? = h.2[r]? := fun p r s => by rw [← hH, wr_at, if_neg (fun z => s z.symm), wr_at, if_neg (fun z => r z.symm), wr_at, if_neg (fun z => p z.symm)]
  have vk : ∀ k, k = 2 ∨ k = 44 ∨ k = 45 ∨ k = 46 → fI H 619 k = fI h 619 k := fun k hk => by rw [fI_md z6 k (by omega), up_ne (by omega)]
  refine hQ H a b c ⟨sH, relT_frm i2 (fun r hr => ne (by omega) (by omega) (by omega)) (vk 2 (by omega)), invB_frm i3 (ne (by omega) (by decide) (by decide)) (vk 44 (by omega)) (vk 45 (by omega)) (vk 46 (by omega)), imS_up i4 (fun r p s => ne (by omega) (by omega) (by omega)), invS_frm i5 (fun r hr => ne (by omega) (by omega) (by omega)), fun q2 hq2 => ?_, fun t ht => invX_frm (i7 t ht) (fun r p s => ne (by omega) (by omega) (by omega)) (fun r p s => ne (by omega) (by omega) (by omega))⟩ ?_ ?_
  · by_cases e : q2 = q
    · subst e
      refine ⟨sC S (yR S), yOK_sync ok, ?_, ?_⟩
      · obtain ⟨⟨f, a1, a2⟩, -, ⟨D, d1, d2⟩, ⟨st, s1, s2⟩, ⟨ln, l1, l2⟩, ⟨mk, m1⟩, ⟨ky, g1, g2⟩, ⟨kl, h1, h2⟩, ⟨G, j1, j2⟩, T, k1, k2⟩ := cy
        have w : ∀ {r : Nat} {x : px_C}, h.2[r]? = some x → 2 + 11 * q2 < r → r ≤ 2 + 11 * q2 + 10 → H.2[r]? = some x := fun e p s => (ne (by omega) (by omega) (by omega)).trans e
        exact ⟨⟨f, ⟨w a1.1 (by omega) (by omega), w a1.2.1 (by omega) (by omega), a1.2.2⟩, a2⟩, z0, ⟨D, w d1 (by omega) (by omega), d2⟩, ⟨st, w s1 (by omega) (by omega), s2⟩, ⟨ln, w l1 (by omega) (by omega), l2⟩, ⟨mk, w m1 (by omega) (by omega)⟩, ⟨ky, w g1 (by omega) (by omega), g2⟩, ⟨kl, w h1 (by omega) (by omega), h2⟩, ⟨G, w j1 (by omega) (by omega), j2⟩, T, w k1 (by omega) (by omega), k2⟩
      · obtain ⟨⟨J, a1, a2⟩, ⟨W, w1, w2⟩, -, rest⟩ := ry
        exact ⟨⟨J, (ne (by omega) (by decide) (by decide)).trans a1, a2⟩, ⟨W, (ne (by omega) (by decide) (by decide)).trans w1, w2⟩, ⟨_, z34, up_same _ _ _⟩, RYb_frm rest (fun r p s => ne (by omega) (by omega) (by omega))⟩
    · obtain ⟨S2, o2, c2, r2⟩ := i6 q2 hq2
      refine ⟨S2, o2, CY_frm c2 (fun r p s => ne (by omega) (by omega) (by omega)), ?_⟩
      obtain ⟨⟨J, a1, a2⟩, ⟨W, w1, w2⟩, ⟨C, c1, c2⟩, rest⟩ := r2
      exact ⟨⟨J, (ne (by omega) (by decide) (by decide)).trans a1, a2⟩, ⟨W, (ne (by omega) (by decide) (by decide)).trans w1, w2⟩, ⟨_, z34, by rw [up_ne e, iA_of c1]; exact c2⟩, RYb_frm rest (fun r p s => ne (by omega) (by omega) (by omega))⟩
  · rw [← hH]; simp only [px_wr_len]; omega
  · rw [← hH]; exact Nat.le_add_right _ _
set_option maxRecDepth 16384 in
theorem tra_inv {t X : Nat} (e : tra4 0 t = some X) (ht : t < 4) : X = 25 + 5 * t := Option.some.inj (e.symm.trans (tra_at ht))
set_option maxRecDepth 16384 in
theorem inv_lose {y w : Int32} (hL : sx.1 ≤ 3072) (hi : i + 6 ≤ sx.1) (hx : sx.2 (i + 1) = y) (hw : sx.2 (i + 2) = w) (I : Inv h) (hc : h.2.length + 1 ≤ px_CT) (hs : h.1 + 6 ≤ px_ST) (hQ : beh sx i h Q) : px_Wp sx 277 1450 (lawL (nI i) a b c) [] h Q := by
  have hS := I.1
  have hl := hS.1
  refine st_lose hL hi hx hw hS hc hs (rel_X (I.2.2.2.2.2.2 0 (by decide))) (rel_X (I.2.2.2.2.2.2 1 (by decide))) (rel_X (I.2.2.2.2.2.2 2 (by decide))) (rel_X (I.2.2.2.2.2.2 3 (by decide))) (fin_thr I hQ) (fun t X z eX ht y1 hz a b c => ?_)
  have eX := tra_inv eX ht
  subst eX
  obtain ⟨-, i2, i3, i4, i5, i6, i7⟩ := I
  generalize hH : px_wr (px_wr (px_wr h (25 + 5 * t) (.inl (8, [.int (fI h (25 + 5 * t) 0), .int (fI h (25 + 5 * t) 1), .int z, .int (fI h (25 + 5 * t) 3), .int (fI h (25 + 5 * t) 4), .int (fI h (25 + 5 * t) 5), .int (fI h (25 + 5 * t) 6), .int (fI h (25 + 5 * t) 7), .long (fJ h (25 + 5 * t) 8), .ref (25 + 5 * t + 1), .ref (25 + 5 * t + 3)]))) 619 (.inl (11, modF (px_up (fI h 619) 0 0)))) 659 (.inr (3, 4, .inl (px_up (iA h 659) t z))) = H
  have sH : shape H := by
    rw [← hH]
    exact shape_wr (shape_wr (shape_tr hS (tr_cell (i7 t ht))) rfl) rfl
  have z0 : H.2[25 + 5 * t]? = some (.inl (8, trF (25 + 5 * t) (fI h (25 + 5 * t) 0) (fI h (25 + 5 * t) 1) z (fI h (25 + 5 * t) 3) (fI h (25 + 5 * t) 4) (fI h (25 + 5 * t) 5) (fI h (25 + 5 * t) 6) (fI h (25 + 5 * t) 7) (fJ h (25 + 5 * t) 8))) := by rw [← hH, wr_at, if_neg (by omega), wr_at, if_neg (by omega), wr_at, if_pos rfl, if_pos (by omega)]; rfl
  have z6 : H.2[619]? = some (.inl (11, modF (px_up (fI h 619) 0 0))) := by rw [← hH, wr_at, if_neg (by decide), wr_at, if_pos rfl, if_pos (by rw [px_wr_len]; omega)]
  have z59 : H.2[659]? = some (.inr (3, 4, .inl (px_up (iA h 659) t z))) := by rw [← hH, wr_at, if_pos rfl, if_pos (by simp only [px_wr_len]; omega)]
  have ne : ∀ {r : Nat}, r ≠ 25 + 5 * t → r ≠ 619 → r ≠ 659 → H.2[r]? = h.2[r]? := fun p r s => by rw [← hH, wr_at, if_neg (fun z => s z.symm), wr_at, if_neg (fun z => r z.symm), wr_at, if_neg (fun z => p z.symm)]
  have vk : ∀ k, k = 2 ∨ k = 44 ∨ k = 45 ∨ k = 46 → fI H 619 k = fI h 619 k := fun k hk => by rw [fI_md z6 k (by omega), up_ne (by omega)]
  refine hQ H a b c ⟨sH, relT_frm i2 (fun r hr => ne (by omega) (by omega) (by omega)) (vk 2 (by omega)), invB_frm i3 (ne (by omega) (by decide) (by decide)) (vk 44 (by omega)) (vk 45 (by omega)) (vk 46 (by omega)), imS_up i4 (fun r p s => ne (by omega) (by omega) (by omega)), invS_frm i5 (fun r hr => ne (by omega) (by omega) (by omega)), fun q2 hq2 => invY_frm (i6 q2 hq2) (fun r p s => ne (by omega) (by omega) (by omega)) (fun r p s => ne (by omega) (by omega) (by omega)), fun t' ht' => ?_⟩ ?_ ?_
  · obtain ⟨ta, tb, tc, td, te, tg, ti, tk, tv, tl, tF, tcl, tC, x1, x2, x3, x4, x5⟩ := i7 t' ht'
    have dr : ∀ r, r ≠ 659 → (25 + 5 * t' < r ∧ r ≤ 29 + 5 * t' ∨ 655 ≤ r ∧ r ≤ 667) → H.2[r]? = h.2[r]? := fun r p hr => ne (by omega) (by omega) p
    have w2 : rowAt H (25 + 5 * t' + 1) 231 tl tF := ⟨by rw [dr _ (by omega) (by omega)]; exact x2.1, by rw [dr _ (by omega) (by omega)]; exact x2.2.1, x2.2.2⟩
    have w3 : rowAt H (25 + 5 * t' + 3) 4120 tcl tC := ⟨by rw [dr _ (by omega) (by omega)]; exact x3.1, by rw [dr _ (by omega) (by omega)]; exact x3.2.1, x3.2.2⟩
    have e60 : td = iA H 660 t' := by rw [iA_q (dr 660 (by decide) (by omega))]; exact x4
    have e59 : iA H 659 = px_up (iA h 659) t z := iA_of z59
    by_cases e : t' = t
    · subst e
      have x1' := x1
      unfold trF at x1'
      rw [fI_of x1' (k := 0) rfl, fI_of x1' (k := 1) rfl, fI_of x1' (k := 3) rfl, fI_of x1' (k := 4) rfl, fI_of x1' (k := 5) rfl, fI_of x1' (k := 6) rfl, fI_of x1' (k := 7) rfl, fJ_of x1' (k := 8) rfl] at z0
      refine ⟨ta, tb, z, td, te, tg, ti, tk, tv, tl, tF, tcl, tC, z0, w2, w3, e60, ?_⟩
      rcases x5 with ⟨p1, -⟩ | ⟨p1, p2, p3, p4, p5, p6, p7⟩
      · rw [p1] at y1; exact absurd y1 (by decide)
      · refine .inr ⟨by rw [iA_q (dr 655 (by decide) (by omega))]; exact p1, p2, by rw [iA_q (dr 658 (by decide) (by omega))]; exact p3, by rw [e59, up_same], p5, by rw [iA_q (dr 661 (by decide) (by omega))]; exact p6, ?_⟩
        have op := opn_frm (h' := H) p7 (by rw [iA_q (dr 662 (by decide) (by omega))]) (by rw [iA_q (dr 656 (by decide) (by omega))]) (by rw [iA_q (dr 657 (by decide) (by omega))]) (by rw [iA_q (dr 665 (by decide) (by omega))]) (fun m => by rw [iA_q (dr 664 (by decide) (by omega))]) (by rw [lA_q (dr 663 (by decide) (by omega))]) (by rw [iA_q (dr 667 (by decide) (by omega))]) (fun m => by rw [iA_q (dr 666 (by decide) (by omega))])
        exact ⟨hz, op.2⟩
    · refine ⟨ta, tb, tc, td, te, tg, ti, tk, tv, tl, tF, tcl, tC, (ne (by omega) (by omega) (by omega)).trans x1, w2, w3, e60, ?_⟩
      rw [iA_q (dr 655 (by decide) (by omega)), iA_q (dr 661 (by decide) (by omega)), iA_q (dr 658 (by decide) (by omega)), e59, up_ne e]
      rcases x5 with p | ⟨p1, p2, p3, p4, p5, p6, p7⟩
      · exact .inl p
      · exact .inr ⟨p1, p2, p3, p4, p5, p6, opn_frm (h' := H) p7 (by rw [iA_q (dr 662 (by decide) (by omega))]) (by rw [iA_q (dr 656 (by decide) (by omega))]) (by rw [iA_q (dr 657 (by decide) (by omega))]) (by rw [iA_q (dr 665 (by decide) (by omega))]) (fun m => by rw [iA_q (dr 664 (by decide) (by omega))]) (by rw [lA_q (dr 663 (by decide) (by omega))]) (by rw [iA_q (dr 667 (by decide) (by omega))]) (fun m => by rw [iA_q (dr 666 (by decide) (by omega))])⟩
  · rw [← hH]; simp only [px_wr_len]; omega
  · rw [← hH]; exact Nat.le_add_right _ _
end WRITES
