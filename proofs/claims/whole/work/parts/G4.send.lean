/-! SEND keeps the invariant -/
section SEND2
variable {sx : Nat × (Nat → Int32)} {h : px_H} {i : Nat} {a b c : Option Value} {Q : px_O → px_H → Prop}
set_option maxRecDepth 16384 in
theorem opn_frm2 {h' : px_H} {t : Nat} {b c g i k : Int32} {v : Int64} {l : Nat} {F : Nat → Int32} {cl : Nat} {C : Nat → Int32} (w : opn h t b c g i k v l F cl C) (hl : l ≤ 231) (hcl : cl ≤ 4120) (e1 : iA h' 662 t = iA h 662 t) (e2 : iA h' 656 t = iA h 656 t) (e3 : iA h' 657 t = iA h 657 t) (e4 : iA h' 665 t = iA h 665 t) (e5 : ∀ m, m < 300 → iA h' 664 (300 * t + m) = iA h 664 (300 * t + m)) (e6 : lA h' 663 t = lA h 663 t) (e7 : iA h' 667 t = iA h 667 t) (e8 : ∀ m, m < 6000 → iA h' 666 (6000 * t + m) = iA h 666 (6000 * t + m)) : opn h' t b c g i k v l F cl C := by
  obtain ⟨w1, w2, w3, w4, w5, w6, ⟨nl, ns, pos, na, nv, w7⟩, w8⟩ := w
  unfold opn
  rw [e1, e2, e3, e4, e6, e7]
  refine ⟨w1, w2, w3, w4, w5, fun m hm => by rw [e5 m (by omega)]; exact w6 m hm, ⟨nl, ns, pos, na, nv, img_congr w7 (fun m hm => e5 m (by omega))⟩, ?_⟩
  rcases w8 with x | x | ⟨x1, x2, x3⟩ | x
  · exact .inl x
  · exact .inr (.inl x)
  · exact .inr (.inr (.inl ⟨x1, x2, fun m hm => by rw [e8 m (by omega)]; exact x3 m hm⟩))
  · exact .inr (.inr (.inr x))
/-! a transfer's part that another transfer's change leaves as it is -/
set_option maxRecDepth 16384 in
theorem invX_oth {h' : px_H} {t : Nat} (w : invX h t) (ec : ∀ r, 25 + 5 * t ≤ r → r ≤ 29 + 5 * t → h'.2[r]? = h.2[r]?) (ei : ∀ r, r = 655 ∨ r = 656 ∨ r = 657 ∨ r = 658 ∨ r = 659 ∨ r = 660 ∨ r = 661 ∨ r = 662 ∨ r = 665 ∨ r = 667 → iA h' r t = iA h r t) (e5 : ∀ m, m < 300 → iA h' 664 (300 * t + m) = iA h 664 (300 * t + m)) (e6 : lA h' 663 t = lA h 663 t) (e8 : ∀ m, m < 6000 → iA h' 666 (6000 * t + m) = iA h 666 (6000 * t + m)) : invX h' t := by
  obtain ⟨a, b, c, d, e, g, i, k, v, l, F, cl, C, x1, x2, x3, x4, x5⟩ := w
  refine ⟨a, b, c, d, e, g, i, k, v, l, F, cl, C, by rw [ec _ (by omega) (by omega)]; exact x1, ⟨by rw [ec _ (by omega) (by omega)]; exact x2.1, by rw [ec _ (by omega) (by omega)]; exact x2.2.1, x2.2.2⟩, ⟨by rw [ec _ (by omega) (by omega)]; exact x3.1, by rw [ec _ (by omega) (by omega)]; exact x3.2.1, x3.2.2⟩, by rw [ei 660 (by omega)]; exact x4, ?_⟩
  rw [ei 655 (by omega), ei 661 (by omega), ei 658 (by omega), ei 659 (by omega)]
  rcases x5 with x | ⟨y1, y2, y3, y4, y5, y7, y6⟩
  · exact .inl x
  · exact .inr ⟨y1, y2, y3, y4, y5, y7, opn_frm2 y6 x2.2.2.1 x3.2.2.1 (ei 662 (by omega)) (ei 656 (by omega)) (ei 657 (by omega)) (ei 665 (by omega)) e5 e6 (ei 667 (by omega)) e8⟩
/-! a transfer has changed, the yards have not -/
set_option maxRecDepth 16384 in
theorem Inv_tr {H : px_H} {t : Nat} (I : Inv h) (ht : t < 4) (sH : shape H) (xt : invX H t) (e : ∀ r, ¬ (25 + 5 * t ≤ r ∧ r ≤ 29 + 5 * t) → (r ≤ 618 ∨ r = 620 ∨ 621 ≤ r ∧ r ≤ 634) → H.2[r]? = h.2[r]?) (ei : ∀ r t', t' < 4 → t' ≠ t → (655 ≤ r ∧ r ≤ 662 ∨ r = 665 ∨ r = 667) → iA H r t' = iA h r t') (e5 : ∀ t' m, t' < 4 → t' ≠ t → m < 300 → iA H 664 (300 * t' + m) = iA h 664 (300 * t' + m)) (e6 : ∀ t', t' < 4 → t' ≠ t → lA H 663 t' = lA h 663 t') (e8 : ∀ t' m, t' < 4 → t' ≠ t → m < 6000 → iA H 666 (6000 * t' + m) = iA h 666 (6000 * t' + m)) (vk : vKeep h H) : Inv H := by
  obtain ⟨w1, w2, w3, w4, w5, w6, w7⟩ := I
  refine ⟨sH, relT_frm w2 (fun r hr => e r (by omega) (by omega)) (vk 2 (by omega)), invB_frm w3 (e 47 (by omega) (by omega)) (vk 44 (by omega)) (vk 45 (by omega)) (vk 46 (by omega)), imS_up w4 (fun r p s => e r (by omega) (by omega)), invS_frm w5 (fun r hr => e r (by omega) (by omega)), fun q hq => invY_frm (w6 q hq) (fun r p s => e r (by omega) (by omega)) (fun r p s => e r (by omega) (by omega)), fun t' ht' => ?_⟩
  by_cases x : t' = t
  · subst x; exact xt
  · exact invX_oth (w7 t' ht') (fun r p s => e r (by omega) (by omega)) (fun r hr => ei r t' ht' x (by omega)) (fun m hm => e5 t' m ht' x hm) (e6 t' ht' x) (fun m hm => e8 t' m ht' x hm)
set_option maxRecDepth 16384 in
theorem inv_send {y w u : Int32} (hL : sx.1 ≤ 3072) (hi : i + 6 ≤ sx.1) (hx : sx.2 (i + 1) = y) (hw : sx.2 (i + 2) = w) (hu : sx.2 (i + 3) = u) (I : Inv h) (hc : h.2.length + 1 ≤ px_CT) (hs : h.1 + 6 ≤ px_ST) (hQ : beh sx i h Q) : px_Wp sx 277 1314 (lawL (nI i) a b c) [] h Q := by
  have hS := I.1
  have hl := hS.1
  have T := inv_told I
  refine st_send_0 hL hi hx hw hu hS hc hs T.1 T.2 (fun q j k hq hj hk8 e1 e2 e3 t0 => ?_) (fin_thr I hQ)
  obtain ⟨S, ok, cy, ry⟩ := I.2.2.2.2.2.1 q hq
  have te := told_of ry hj t0
  have g := yOK_good ok
  obtain ⟨c1, c2, c3, c4, c5, c6, c7⟩ := yd_cells hS hq
  obtain ⟨p, p1, p2, nl, ns, pos, na, nv, p3, p4⟩ := g.2.2.2 j hj te
  have hP := g.1.2.2.2.2.2.1 p p1
  have cy' := cy
  have ry' := ry
  obtain ⟨⟨x1, x2, x3, x4⟩, x5, x6, x7, x8⟩ := yd_nums cy ry
  obtain ⟨⟨f, a1, a2⟩, -, ⟨D, d1, d2⟩, ⟨st, s1, s2⟩, ⟨ln, l1, l2⟩, -, -, -, ⟨G, i1, i2⟩, -⟩ := cy
  obtain ⟨-, -, -, -, ⟨D', b1, b2⟩, ⟨fr, sz, bt, us, U, f1, f2, f3, f4, f5, f6, f7⟩, -, -, -, ⟨G', j1, j2⟩, -⟩ := ry
  obtain ⟨y1, v, y2, y3, y4⟩ := f7 p p1
  have h4 := g.1.1
  have tI : toldI h q (2 + 11 * q) j (yR S) (yB S) p (yP S p) v (yL S p) nl ns pos na nv (blB S p) := by
    refine ⟨⟨h4, x4, g.1.2.2.1, x2, x5, p1⟩, ?_, fun a b ha hb eab => ?_, fun a ha => ?_, ?_, ⟨?_, hP, ?_, by omega⟩, fun m hm => ?_, fun m hm => ?_, p3⟩
    · rw [lA_of d1, lA_of i1, d2 p p1, i2 j hj te]; exact p2
    · rw [lA_of d1, d2 a ha, d2 b hb] at eab
      exact g.1.2.2.2.2.1 a b ha hb eab
    · rw [lA_of d1, lA_of b1, d2 a ha, b2 a ha]
    · rw [lA_of i1, lA_of j1, i2 j hj te, j2 j hj te]
    · rw [iA_of s1]; exact s2 p p1
    · rw [iA_of f1]; exact y2
    · rw [iA_of (r := 2 + 11 * q + 2) a1.2.1]; exact a2 _ (by omega)
    · rw [iA_of f3]; exact y4 m hm
  have l231 := img_len p3
  have hX : ∀ t, t < 4 → h.2[25 + 5 * t]? = some (.inl (8, trF (25 + 5 * t) (iA h 655 t) (fI h (25 + 5 * t) 1) (fI h (25 + 5 * t) 2) (fI h (25 + 5 * t) 3) (fI h (25 + 5 * t) 4) (fI h (25 + 5 * t) 5) (fI h (25 + 5 * t) 6) (fI h (25 + 5 * t) 7) (fJ h (25 + 5 * t) 8))) := fun t ht => by
    have e := tr_cell (I.2.2.2.2.2.2 t ht)
    have r := rel_X (I.2.2.2.2.2.2 t ht)
    have : fI h (25 + 5 * t) 0 = iA h 655 t := by
      rcases r.2 with ⟨z1, z2, -⟩ | ⟨z1, z2, -⟩ <;> rw [z1, z2]
    rw [this] at e; exact e
  have hXr : ∀ t, t < 4 → ∃ n f, rowAt h (25 + 5 * t + 1) 231 n f := fun t ht => by
    obtain ⟨_, _, _, _, _, _, _, _, _, l, F, _, _, _, x2, -⟩ := I.2.2.2.2.2.2 t ht
    exact ⟨l, F, x2⟩
  have c8 : h.2[2 + 11 * q + 5]? = some (.inr (1, 60, .inl (iA h (2 + 11 * q + 5)))) := by rw [iA_of l1]; exact l1
  refine st_send_t hL hi e1 e2 e3 hS hc hs hq (yrd_at hq) (by omega) c1 c2 c3 c4 c5 c8 c6 c7 hj hk8 ?_ t0 tI (by rw [iA_of l1]; exact l2 p p1) (by rw [iA_of f2]; exact y1) (fun m hm => g.1.2.2.2.2.2.2 _ (by omega)) hX hXr (fin_thr I hQ) (fun t F gg row' o a b c ht o0 hF uo => ?_)
  · match q, hq with
    | 0, _ => have := T.1 j hj; rw [Nat.mul_zero, Nat.zero_add]; exact this
    | 1, _ => exact T.2 j hj
  obtain ⟨n0, f0, wX⟩ := hXr t ht
  have sC : shape (sndC h q k t (yL S p) F gg) := by
    unfold sndC
    have q1 := shape_tr (a' := 1) (b' := 1) (c' := 0) (d' := 0) (e' := 0) (g' := nI q) (i' := nI k) (k' := 0) (v' := fJ h (25 + 5 * t) 8) hS (hX t ht)
    exact shape_wr (shape_wr (shape_row (n := n0) (f := f0) q1 ⟨by rw [wr_at, if_neg (by omega)]; exact wX.1, by rw [wr_at, if_neg (by omega)]; exact wX.2.1, wX.2.2⟩) rfl) rfl
  have c0 : ∀ r, ¬ (25 + 5 * t ≤ r ∧ r ≤ 27 + 5 * t) → 619 ≠ r → 668 ≠ r → (sndC h q k t (yL S p) F gg).2[r]? = h.2[r]? := fun r a b c => sndC_at a b c
  have cX : (sndC h q k t (yL S p) F gg).2[25 + 5 * t]? = some (.inl (8, trF (25 + 5 * t) 1 1 0 0 0 (nI q) (nI k) 0 (fJ h (25 + 5 * t) 8))) := by
    unfold sndC
    rw [wr_at, if_neg (by omega), wr_at, if_neg (by omega), rowH_at (by omega) (by omega), wr_at, if_pos rfl, if_pos (by omega)]
  have cR : rowAt (sndC h q k t (yL S p) F gg) (25 + 5 * t + 1) 231 (yL S p) F := by
    refine ⟨?_, ?_, l231, by decide⟩
    · unfold sndC rowH
      rw [wr_at, if_neg (by omega), wr_at, if_neg (by omega), wr_at, if_pos rfl, if_pos (by simp only [px_wr_len]; omega)]
    · unfold sndC rowH
      rw [wr_at, if_neg (by omega), wr_at, if_neg (by omega), wr_at, if_neg (by omega), wr_at, if_pos rfl, if_pos (by simp only [px_wr_len]; omega)]
  have c6' : (sndC h q k t (yL S p) F gg).2[619]? = some (.inl (11, modF (px_up (fI h 619) 0 0))) := by
    unfold sndC
    rw [wr_at, if_pos rfl, if_pos (by unfold rowH; simp only [px_wr_len]; omega)]
  have cl : (sndC h q k t (yL S p) F gg).2.length = h.2.length ∧ (sndC h q k t (yL S p) F gg).1 = h.1 := by
    unfold sndC rowH; simp only [px_wr_len]; exact ⟨trivial, rfl⟩
  generalize sndC h q k t (yL S p) F gg = h1 at *
  have iA1 : ∀ r, 655 ≤ r → r ≤ 667 → iA h1 r = iA h r := fun r a b => iA_q (c0 r (by omega) (by omega) (by omega))
  have lA1 : lA h1 663 = lA h 663 := lA_q (c0 663 (by omega) (by omega) (by omega))
  have sO := shape_opn (h := h1) sC (q := q) (k := k) (t := t)
  have oL := opnH_len (h := h1) (q := q) (k := k) (t := t)
  have o55 : ∀ r, 655 ≤ r → r ≤ 662 → iA (opnH h1 q k t) r = px_up (iA h r) t (if r = 655 then 1 else if r = 656 then nI q else if r = 657 then nI k else if r = 658 then 1 else 0) := fun r a b => by
    have : r = 655 ∨ r = 656 ∨ r = 657 ∨ r = 658 ∨ r = 659 ∨ r = 660 ∨ r = 661 ∨ r = 662 := by omega
    rcases this with rfl | rfl | rfl | rfl | rfl | rfl | rfl | rfl
    · rw [← iA1 655 (by decide) (by decide)]; exact iA_of (t := 3) (n := 4) (by unfold opnH; rw [wr_at, if_neg (by decide), wr_at, if_neg (by decide), wr_at, if_neg (by decide), wr_at, if_neg (by decide), wr_at, if_neg (by decide), wr_at, if_neg (by decide), wr_at, if_neg (by decide), wr_at, if_pos rfl, if_pos (by omega)]; rfl)
    · rw [← iA1 656 (by decide) (by decide)]; exact iA_of (t := 1) (n := 4) (by unfold opnH; rw [wr_at, if_neg (by decide), wr_at, if_neg (by decide), wr_at, if_neg (by decide), wr_at, if_neg (by decide), wr_at, if_neg (by decide), wr_at, if_neg (by decide), wr_at, if_pos rfl, if_pos (by simp only [px_wr_len]; omega)]; rfl)
    · rw [← iA1 657 (by decide) (by decide)]; exact iA_of (t := 1) (n := 4) (by unfold opnH; rw [wr_at, if_neg (by decide), wr_at, if_neg (by decide), wr_at, if_neg (by decide), wr_at, if_neg (by decide), wr_at, if_neg (by decide), wr_at, if_pos rfl, if_pos (by simp only [px_wr_len]; omega)]; rfl)
    · rw [← iA1 658 (by decide) (by decide)]; exact iA_of (t := 1) (n := 4) (by unfold opnH; rw [wr_at, if_neg (by decide), wr_at, if_neg (by decide), wr_at, if_neg (by decide), wr_at, if_neg (by decide), wr_at, if_pos rfl, if_pos (by simp only [px_wr_len]; omega)]; rfl)
    · rw [← iA1 659 (by decide) (by decide)]; exact iA_of (t := 3) (n := 4) (by unfold opnH; rw [wr_at, if_neg (by decide), wr_at, if_neg (by decide), wr_at, if_neg (by decide), wr_at, if_pos rfl, if_pos (by simp only [px_wr_len]; omega)]; rfl)
    · rw [← iA1 660 (by decide) (by decide)]; exact iA_of (t := 1) (n := 4) (by unfold opnH; rw [wr_at, if_neg (by decide), wr_at, if_neg (by decide), wr_at, if_pos rfl, if_pos (by simp only [px_wr_len]; omega)]; rfl)
    · rw [← iA1 661 (by decide) (by decide)]; exact iA_of (t := 3) (n := 4) (by unfold opnH; rw [wr_at, if_neg (by decide), wr_at, if_pos rfl, if_pos (by simp only [px_wr_len]; omega)]; rfl)
    · rw [← iA1 662 (by decide) (by decide)]; exact iA_of (t := 3) (n := 4) (by unfold opnH; rw [wr_at, if_pos rfl, if_pos (by simp only [px_wr_len]; omega)]; rfl)
  have oN : ∀ r, ¬ (655 ≤ r ∧ r ≤ 662) → (opnH h1 q k t).2[r]? = h1.2[r]? := fun r hr => opnH_at hr
  have oS : (opnH h1 q k t).1 = h1.1 := rfl
  generalize opnH h1 q k t = h2 at *
  have eV : fI h1 619 = fI h1 619 := rfl
  generalize hH : px_wr (px_wr (outH h2 (px_up (fI h1 619) 17 (nI (yL S p))) row') 665 (.inr (1, 4, .inl (px_up (iA h 665) t (nI (yL S p)))))) 664 (.inr (1, 1200, .inl o)) = H
  have n2 : ∀ {r : Nat}, r ≠ 664 → r ≠ 665 → r ≠ 636 → r ≠ 619 → H.2[r]? = h2.2[r]? := fun a b c d => by rw [← hH, wr_at, if_neg (fun z => a z.symm), wr_at, if_neg (fun z => b z.symm), outH_at (fun z => c z.symm) (fun z => d z.symm)]
  have z64 : H.2[664]? = some (.inr (1, 1200, .inl o)) := by rw [← hH, wr_at, if_pos rfl, if_pos (by rw [px_wr_len, outH_len]; omega)]
  have z65 : H.2[665]? = some (.inr (1, 4, .inl (px_up (iA h 665) t (nI (yL S p))))) := by rw [← hH, wr_at, if_neg (by decide), wr_at, if_pos rfl, if_pos (by rw [outH_len]; omega)]
  have z6 : H.2[619]? = some (.inl (11, modF (px_up (fI h1 619) 17 (nI (yL S p))))) := by rw [← hH, wr_at, if_neg (by decide), wr_at, if_neg (by decide)]; exact outH_o (by omega)
  have sH : shape H := by
    rw [← hH]; unfold outH
    refine shape_wr (shape_wr (shape_wr (shape_wr sO ?_) ?_) ?_) ?_ <;> rfl
  have dn : ∀ r, ¬ (25 + 5 * t ≤ r ∧ r ≤ 27 + 5 * t) → r ≠ 619 → r ≠ 636 → ¬ (655 ≤ r ∧ r ≤ 662) → r ≠ 664 → r ≠ 665 → r ≠ 668 → H.2[r]? = h.2[r]? := fun r a b c d e f g => ((n2 e f c b).trans (oN r d)).trans (c0 r a (fun z => b z.symm) (fun z => g z.symm))
  have i55 : ∀ r, 655 ≤ r → r ≤ 662 → iA H r = px_up (iA h r) t (if r = 655 then 1 else if r = 656 then nI q else if r = 657 then nI k else if r = 658 then 1 else 0) := fun r a b => (iA_q (n2 (by omega) (by omega) (by omega) (by omega))).trans (o55 r a b)
  have e64 : iA H 664 = o := iA_of z64
  have e65 : iA H 665 = px_up (iA h 665) t (nI (yL S p)) := iA_of z65
  have u2 : ∀ m, m < yL S p → o (300 * t + m) = blB S p m := uo.2
  obtain ⟨_, _, _, _, _, _, _, _, _, _, _, cl0, C0, _, _, w3, -⟩ := I.2.2.2.2.2.2 t ht
  refine hQ H a b c (Inv_tr I ht sH ⟨1, 1, 0, 0, 0, nI q, nI k, 0, fJ h (25 + 5 * t) 8, yL S p, F, cl0, C0, ?_, ⟨?_, ?_, cR.2.2⟩, ⟨?_, ?_, w3.2.2⟩, ?_, .inr ⟨?_, rfl, ?_, ?_, rfl, ?_, ⟨.inl rfl, ⟨?_, .inl rfl⟩, ⟨q, hq, rfl, ?_⟩, ⟨k, hk8, rfl, ?_⟩, ?_, fun m hm => ?_, ⟨nl, ns, pos, na, nv, ?_⟩, .inl rfl⟩⟩⟩ (fun r a b => dn r (by omega) (by omega) (by omega) (by omega) (by omega) (by omega) (by omega)) (fun r t' ht' hne hr => ?_) (fun t' m ht' hne hm => ?_) (fun t' ht' hne => ?_) (fun t' m ht' hne hm => ?_) (fun k hk => ?_)) ?_ ?_
  · exact ((n2 (by omega) (by omega) (by omega) (by omega)).trans (oN _ (by omega))).trans cX
  · exact ((n2 (by omega) (by omega) (by omega) (by omega)).trans (oN _ (by omega))).trans cR.1
  · exact ((n2 (by omega) (by omega) (by omega) (by omega)).trans (oN _ (by omega))).trans cR.2.1
  · exact (dn _ (by omega) (by omega) (by omega) (by omega) (by omega) (by omega) (by omega)).trans w3.1
  · exact (dn _ (by omega) (by omega) (by omega) (by omega) (by omega) (by omega) (by omega)).trans w3.2.1
  · rw [i55 660 (by decide) (by decide), up_same]; rfl
  · rw [i55 655 (by decide) (by decide), up_same]; rfl
  · rw [i55 658 (by decide) (by decide), up_same]; rfl
  · rw [i55 659 (by decide) (by decide), up_same]; rfl
  · rw [i55 661 (by decide) (by decide), up_same]; rfl
  · rw [i55 662 (by decide) (by decide), up_same]; rfl
  · rw [i55 656 (by decide) (by decide), up_same]; rfl
  · rw [i55 657 (by decide) (by decide), up_same]; rfl
  · rw [e65, up_same]
  · rw [e64, u2 m hm]; exact hF m hm
  · exact img_congr p3 (fun m hm => by rw [e64]; exact u2 m hm)
  · by_cases z : r = 665
    · subst z; rw [e65, up_ne hne]
    · by_cases z' : r = 667
      · subst z'; rw [iA_q (dn 667 (by omega) (by omega) (by omega) (by omega) (by omega) (by omega) (by omega))]
      · rw [i55 r (by omega) (by omega), up_ne hne]
  · rw [e64, uo.1 _ (by omega)]
  · rw [lA_q (dn 663 (by omega) (by omega) (by omega) (by omega) (by omega) (by omega) (by omega))]
  · rw [iA_q (dn 666 (by omega) (by omega) (by omega) (by omega) (by omega) (by omega) (by omega))]
  · rw [fI_md z6 k (by omega), up_ne (by omega), fI_md c6' k (by omega), up_ne (by omega)]
  · rw [← hH, px_wr_len, px_wr_len, outH_len]; omega
  · rw [← hH]; show h2.1 ≤ _; omega
end SEND2
