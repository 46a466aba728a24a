/-! DELIVER keeps the invariant -/
section DELIVER
variable {sx : Nat × (Nat → Int32)} {h : px_H} {i : Nat} {a b c : Option Value} {Q : px_O → px_H → Prop}
set_option maxRecDepth 16384 in
theorem cl_X {H : px_H} {t : Nat} {z d g i k : Int32} {v : Int64} (w : invX h t) (hd : iA h 660 t = d) (ec : ∀ r, 25 + 5 * t < r → r ≤ 29 + 5 * t → H.2[r]? = h.2[r]?) (e60 : iA H 660 t = iA h 660 t) (zX : H.2[25 + 5 * t]? = some (.inl (8, trF (25 + 5 * t) 0 0 0 d z g i k v))) (z55 : iA H 655 t = 0) (z61 : iA H 661 t = z) : invX H t := by
  obtain ⟨_, _, _, _, _, _, _, _, _, l, F, cl, C, _, x2, x3, -⟩ := w
  exact ⟨0, 0, 0, d, z, g, i, k, v, l, F, cl, C, zX, ⟨by rw [ec _ (by omega) (by omega)]; exact x2.1, by rw [ec _ (by omega) (by omega)]; exact x2.2.1, x2.2.2⟩, ⟨by rw [ec _ (by omega) (by omega)]; exact x3.1, by rw [ec _ (by omega) (by omega)]; exact x3.2.1, x3.2.2⟩, by rw [e60, hd], .inl ⟨z55, rfl, rfl, rfl, z61.symm⟩⟩
set_option maxRecDepth 16384 in
theorem Inv_close {t : Nat} {z d g i k : Int32} {v : Int64} {gg : Nat → Int64} {fs : List Value} (I : Inv h) (ht : t < 4) (hz : z = 0 ∨ z = 1) (hd : iA h 660 t = d) : Inv (px_wr (px_wr (px_wr (px_wr (px_wr h (25 + 5 * t) (.inl (8, trF (25 + 5 * t) 0 0 0 d z g i k v))) 668 (.inr (2, 1, .inr (.inl gg)))) 619 (.inl (11, modF (px_up (fI h 619) 0 0)))) 655 (.inr (3, 4, .inl (px_up (iA h 655) t 0)))) 661 (.inr (3, 4, .inl (px_up (iA h 661) t z)))) := by
  have hS := I.1
  have hl := hS.1
  have lX : 25 + 5 * t < h.2.length := by omega
  have sH : shape (px_wr (px_wr (px_wr (px_wr (px_wr h (25 + 5 * t) (.inl (8, trF (25 + 5 * t) 0 0 0 d z g i k v))) 668 (.inr (2, 1, .inr (.inl gg)))) 619 (.inl (11, modF (px_up (fI h 619) 0 0)))) 655 (.inr (3, 4, .inl (px_up (iA h 655) t 0)))) 661 (.inr (3, 4, .inl (px_up (iA h 661) t z)))) := by
    have s0 := shape_tr (a' := 0) (b' := 0) (c' := 0) (d' := d) (e' := z) (g' := g) (i' := i) (k' := k) (v' := v) hS (tr_cell (I.2.2.2.2.2.2 t ht))
    exact shape_wr (shape_wr (shape_wr (shape_wr s0 rfl) rfl) rfl) rfl
  generalize hH : px_wr (px_wr (px_wr (px_wr (px_wr h (25 + 5 * t) (.inl (8, trF (25 + 5 * t) 0 0 0 d z g i k v))) 668 (.inr (2, 1, .inr (.inl gg)))) 619 (.inl (11, modF (px_up (fI h 619) 0 0)))) 655 (.inr (3, 4, .inl (px_up (iA h 655) t 0)))) 661 (.inr (3, 4, .inl (px_up (iA h 661) t z))) = H at sH ⊢
  have ne : ∀ {r : Nat}, r ≠ 25 + 5 * t → r ≠ 668 → r ≠ 619 → r ≠ 655 → r ≠ 661 → H.2[r]? = h.2[r]? := fun a b c d e => by rw [← hH, wr_at, if_neg (fun z => e z.symm), wr_at, if_neg (fun z => d z.symm), wr_at, if_neg (fun z => c z.symm), wr_at, if_neg (fun z => b z.symm), wr_at, if_neg (fun z => a z.symm)]
  have zX : H.2[25 + 5 * t]? = some (.inl (8, trF (25 + 5 * t) 0 0 0 d z g i k v)) := by rw [← hH, wr_at, if_neg (by omega), wr_at, if_neg (by omega), wr_at, if_neg (by omega), wr_at, if_neg (by omega), wr_at, if_pos rfl, if_pos lX]
  have z6 : H.2[619]? = some (.inl (11, modF (px_up (fI h 619) 0 0))) := by rw [← hH, wr_at, if_neg (by decide), wr_at, if_neg (by decide), wr_at, if_pos rfl, if_pos (by simp only [px_wr_len]; omega)]
  have z55 : iA H 655 = px_up (iA h 655) t 0 := iA_of (t := 3) (n := 4) (by rw [← hH, wr_at, if_neg (by decide), wr_at, if_pos rfl, if_pos (by simp only [px_wr_len]; omega)])
  have z61 : iA H 661 = px_up (iA h 661) t z := iA_of (t := 3) (n := 4) (by rw [← hH, wr_at, if_pos rfl, if_pos (by simp only [px_wr_len]; omega)])
  refine Inv_tr I ht sH (cl_X (I.2.2.2.2.2.2 t ht) hd (fun r p s => ne (by omega) (by omega) (by omega) (by omega) (by omega)) (by rw [iA_q (ne (by omega) (by decide) (by decide) (by decide) (by decide))]) zX (by rw [z55, up_same]) (by rw [z61, up_same])) (fun r p s => ne (by omega) (by omega) (by omega) (by omega) (by omega)) (fun r t' ht' hne hr => ?_) (fun t' m ht' hne hm => by rw [iA_q (ne (by omega) (by decide) (by decide) (by decide) (by decide))]) (fun t' ht' hne => by rw [lA_q (ne (by omega) (by decide) (by decide) (by decide) (by decide))]) (fun t' m ht' hne hm => by rw [iA_q (ne (by omega) (by decide) (by decide) (by decide) (by decide))]) (fun k hk => by rw [fI_md z6 k (by omega), up_ne (by omega)])
  by_cases r5 : r = 655
  · subst r5; rw [z55, up_ne hne]
  · by_cases r6 : r = 661
    · subst r6; rw [z61, up_ne hne]
    · rw [iA_q (ne (by omega) (by omega) (by omega) r5 r6)]
set_option maxRecDepth 16384 in
theorem inv_deliver {y : Int32} (hL : sx.1 ≤ 3072) (hi : i + 6 ≤ sx.1) (hx : sx.2 (i + 1) = y) (I : Inv h) (hc : h.2.length + 1 ≤ px_CT) (hs : h.1 + 6 ≤ px_ST) (hQ : beh sx i h Q) : px_Wp sx 277 1394 (lawL (nI i) a b c) [] h Q := by
  have hS := I.1
  have hl := hS.1
  refine st_deliver_0 hL hi hx hS hc hs (rel_X (I.2.2.2.2.2.2 0 (by decide))) (rel_X (I.2.2.2.2.2.2 1 (by decide))) (rel_X (I.2.2.2.2.2.2 2 (by decide))) (rel_X (I.2.2.2.2.2.2 3 (by decide))) (fun t ht e1 r55 r59 => ?_) (fin_thr I hQ)
  obtain ⟨ta, tb, tc, td, te, tg, ti, tk, tv, tl, tF, tcl, tC, x1, x2, x3, x4, x5⟩ := I.2.2.2.2.2.2 t ht
  rcases x5 with ⟨y1, -⟩ | ⟨y1, y2, y3, y4, y5, y6, ⟨o1, ⟨o2, o3⟩, ⟨g, hg, o4, o5⟩, ⟨th, hth, o6, o7⟩, o8, o9, ⟨nl, ns, pos, na, nv, ok⟩, o10⟩⟩
  · rw [r55] at y1; exact absurd y1 (by decide)
  subst y2 y5
  rw [r59] at y4
  subst y4
  subst o4
  subst o6
  have hb2 : ∀ m, m < tl → iA h 664 (300 * t + m) &&& 255 = iA h 664 (300 * t + m) := fun m hm => by rw [← o9 m hm, Int32.and_assoc, Int32.and_self]
  rcases o10 with rfl | ⟨rfl, ov⟩ | ⟨rfl, oc1, oc2⟩ | rfl
  · obtain ⟨S, okS, cy, ry⟩ := I.2.2.2.2.2.1 (1 - g) (by omega)
    refine st_dlv1 (S := S) (bb := fun m => iA h 664 (300 * t + m)) hL hi e1 hS ht hg x1 x2 o9 ok hth (yOK_good okS).1 cy ry I.2.2.2.1 r55 r59 y3.symm o5 o7 o8 (fun _ _ => rfl) hb2 (fun h1 h2 gg fs S' o' m' e' w' a b c an pa pm => ?_)
    obtain ⟨p1, p2, p3, p4, p5⟩ := pa
    obtain ⟨q1, q2, q3, q4, ⟨V', q5, q6⟩, q7, q8, q9, q10⟩ := pm
    have lX : 25 + 5 * t < h.2.length := by omega
    have u1 : ∀ r, ¬ cyA (2 + 11 * (1 - g)) r → r ≠ 25 + 5 * t → ¬ imA 421 r → h1.2[r]? = h.2[r]? := fun r p s u => by
      rw [p1.2.2 r (fun z => by rcases z with z | z | z; exact u z; exact s z; exact p z), wr_at, if_neg (fun z => s z.symm)]
    have l1 : h1.2.length = h.2.length := by rw [p1.2.1, px_wr_len]
    have u2 : ∀ {r : Nat}, r ≠ 668 → r ≠ 619 → r ≠ 662 → (dB h h1 t gg).2[r]? = h1.2[r]? := fun p s u => by unfold dB; rw [wr_at, if_neg (fun z => u z.symm), wr_at, if_neg (fun z => s z.symm), wr_at, if_neg (fun z => p z.symm)]
    have z62 : h2.2[662]? = some (.inr (3, 4, .inl (px_up (iA h 662) t 1))) := by
      rw [q1.2.2 662 (by unfold mtA ryA; omega)]; unfold dB; rw [wr_at, if_pos rfl, if_pos (by simp only [px_wr_len]; omega)]
    have u3 : ∀ r, ¬ (mtA r ∨ ryA r ∨ r = 655 ∨ r = 658 ∨ r = 661 ∨ r = 663) → r ≠ 662 → r ≠ 668 → h2.2[r]? = h1.2[r]? := fun r p s u => (q1.2.2 r p).trans (u2 u (by unfold mtA at p; omega) s)
    refine hQ h2 a b c (Inv_ans2 (S1 := S) (S' := S') (bb := fun m => iA h 664 (300 * t + m)) (kk := 1) (F := tF) (C := tC) I ht hg q2 okS (CY_frm p4 (fun r p s => u3 r (by unfold mtA ryA; omega) (by omega) (by omega))) q3 (fun q2' S2 w1 w2 w3 w4 => q4 q2' S2 w1 w2 w3 (RY_frm w4 (fun r p s => (u2 (by omega) (by omega) (by omega)).trans (u1 r (by unfold cyA; omega) (by omega) (by unfold imA; omega))))) (imS_up p5 (fun r p s => u3 r (by unfold mtA ryA; omega) (by omega) (by omega))) an ok hb2 (fun _ _ => rfl) o9 x2 x3 hth r55 r59 o5 o7 o8 x4.symm y6 (.inr rfl) ((u3 _ (by unfold mtA ryA; omega) (by omega) (by omega)).trans p3) q7 q8 q9 q10 (by rw [iA_of z62, up_same]) (fun t' hne => by rw [iA_of z62, up_ne hne]) (fun r w1 w2 w3 w4 w5 w6 w7 => (u3 r w4 w5 w6).trans (u1 r w1 w2 w3)) (fun k hk => ?_)) ?_ ?_
    · rw [fI_md q5 k (by omega), q6 k (by omega), up_ne (by omega)]
    · have : (dB h h1 t gg).2.length = h1.2.length := by unfold dB; simp only [px_wr_len]
      have := q1.2.1; omega
    · have : (dB h h1 t gg).1 = h1.1 := rfl
      have := q1.1; have e := p1.1; have : (px_wr h (25 + 5 * t) (.inl (8, trF (25 + 5 * t) 1 1 0 td 0 (nI g) (nI th) 1 tv))).1 = h.1 := rfl
      omega
  · obtain ⟨S, okS, cy, ry⟩ := I.2.2.2.2.2.1 g hg
    have gS := yOK_good okS
    refine st_dlv2 (S := S) hL hi e1 hS ht hg x1 x3 gS.1 cy ry (fun p hp => (gS.2.2.1 p hp).1) r55 r59 y3.symm o5 ov.symm (fun gg a b c nh => ?_) (fun p h1 F gg row' o a b c hp hv fr1 s1 zX wC hF uo => ?_)
    · refine hQ _ a b c (Inv_close (fs := []) I ht (.inl rfl) x4.symm) ?_ ?_
      · unfold dC; simp only [px_wr_len]; omega
      · exact Nat.le_add_right _ _
    · have gl := (gS.2.2.1 p hp).1
      have l1 : h1.2.length = h.2.length := fr1.2.1
      have u1 : ∀ r, ¬ (r = 25 + 5 * t ∨ r = 25 + 5 * t + 3 ∨ r = 25 + 5 * t + 4) → h1.2[r]? = h.2[r]? := fun r hr => fr1.2.2 r hr
      have sD : shape (dC h h1 gg) := shape_wr (shape_wr s1 rfl) rfl
      have u2 : ∀ {r : Nat}, r ≠ 668 → r ≠ 619 → (dC h h1 gg).2[r]? = h1.2[r]? := fun p s => by unfold dC; rw [wr_at, if_neg (fun z => s z.symm), wr_at, if_neg (fun z => p z.symm)]
      have lD : (dC h h1 gg).2.length = h1.2.length := by unfold dC; simp only [px_wr_len]
      have iD : ∀ r, 655 ≤ r → r ≤ 667 → iA (dC h h1 gg) r = iA h r := fun r p s => iA_q ((u2 (by omega) (by omega)).trans (u1 r (by omega)))
      unfold givH
      rw [iD 667 (by decide) (by decide), iD 660 (by decide) (by decide), iD 658 (by decide) (by decide)]
      generalize hH : px_wr (px_wr (px_wr (px_wr (outH (dC h h1 gg) (px_up (px_up (fI h 619) 0 0) 17 (nI (yL S p))) row') 667 (.inr (1, 4, .inl (px_up (iA h 667) t (nI (yL S p)))))) 666 (.inr (1, 24000, .inl o))) 660 (.inr (1, 4, .inl (px_up (iA h 660) t (iA h 660 t + 1))))) 658 (.inr (1, 4, .inl (px_up (iA h 658) t 3))) = H
      have sH : shape H := by
        rw [← hH]; unfold outH
        refine shape_wr (shape_wr (shape_wr (shape_wr (shape_wr (shape_wr sD ?_) ?_) ?_) ?_) ?_) ?_ <;> rfl
      have nD : ∀ {r : Nat}, r ≠ 658 → r ≠ 660 → r ≠ 666 → r ≠ 667 → r ≠ 636 → r ≠ 619 → H.2[r]? = (dC h h1 gg).2[r]? := fun a b c d e f => by rw [← hH, wr_at, if_neg (fun z => a z.symm), wr_at, if_neg (fun z => b z.symm), wr_at, if_neg (fun z => c z.symm), wr_at, if_neg (fun z => d z.symm), outH_at (fun z => e z.symm) (fun z => f z.symm)]
      have n1 : ∀ r, r ≠ 658 → r ≠ 660 → r ≠ 666 → r ≠ 667 → r ≠ 636 → r ≠ 619 → r ≠ 668 → H.2[r]? = h1.2[r]? := fun r a b c d e f g => (nD a b c d e f).trans (u2 g f)
      have dn : ∀ r, ¬ (r = 25 + 5 * t ∨ r = 25 + 5 * t + 3 ∨ r = 25 + 5 * t + 4) → r ≠ 658 → r ≠ 660 → r ≠ 666 → r ≠ 667 → r ≠ 636 → r ≠ 619 → r ≠ 668 → H.2[r]? = h.2[r]? := fun r x a b c d e f g => (n1 r a b c d e f g).trans (u1 r x)
      have z58 : iA H 658 = px_up (iA h 658) t 3 := iA_of (t := 1) (n := 4) (by rw [← hH, wr_at, if_pos rfl, if_pos (by simp only [px_wr_len, outH_len]; omega)])
      have z60 : iA H 660 = px_up (iA h 660) t (iA h 660 t + 1) := iA_of (t := 1) (n := 4) (by rw [← hH, wr_at, if_neg (by decide), wr_at, if_pos rfl, if_pos (by simp only [px_wr_len, outH_len]; omega)])
      have z66 : iA H 666 = o := iA_of (t := 1) (n := 24000) (by rw [← hH, wr_at, if_neg (by decide), wr_at, if_neg (by decide), wr_at, if_pos rfl, if_pos (by simp only [px_wr_len, outH_len]; omega)])
      have z67 : iA H 667 = px_up (iA h 667) t (nI (yL S p)) := iA_of (t := 1) (n := 4) (by rw [← hH, wr_at, if_neg (by decide), wr_at, if_neg (by decide), wr_at, if_neg (by decide), wr_at, if_pos rfl, if_pos (by rw [outH_len]; omega)])
      have z6 : H.2[619]? = some (.inl (11, modF (px_up (px_up (fI h 619) 0 0) 17 (nI (yL S p))))) := by rw [← hH, wr_at, if_neg (by decide), wr_at, if_neg (by decide), wr_at, if_neg (by decide), wr_at, if_neg (by decide)]; exact outH_o (by omega)
      have zx := (n1 _ (by omega) (by omega) (by omega) (by omega) (by omega) (by omega) (by omega)).trans zX
      have dd : ∀ r, (r = 25 + 5 * t + 1 ∨ r = 25 + 5 * t + 2 ∨ 655 ≤ r ∧ r ≤ 665 ∧ r ≠ 658 ∧ r ≠ 660) → H.2[r]? = h.2[r]? := fun r hr => dn r (by omega) (by omega) (by omega) (by omega) (by omega) (by omega) (by omega) (by omega)
      refine hQ H a b c (Inv_tr I ht sH ⟨1, 3, 0, td + 1, 0, nI g, nI th, tk, tv, tl, tF, yL S p, F, zx, ⟨by rw [dd _ (by omega)]; exact x2.1, by rw [dd _ (by omega)]; exact x2.2.1, x2.2.2⟩, ⟨by rw [n1 _ (by omega) (by omega) (by omega) (by omega) (by omega) (by omega) (by omega)]; exact wC.1, by rw [n1 _ (by omega) (by omega) (by omega) (by omega) (by omega) (by omega) (by omega)]; exact wC.2.1, wC.2.2⟩, by rw [z60, up_same, ← x4], .inr ⟨by rw [iA_q (dd 655 (by omega))]; exact r55, rfl, by rw [z58, up_same], by rw [iA_q (dd 659 (by omega))]; exact r59.symm, rfl, by rw [iA_q (dd 661 (by omega))]; exact y6, ⟨.inl rfl, ⟨by rw [iA_q (dd 662 (by omega))]; exact o2, o3⟩, ⟨g, hg, rfl, by rw [iA_q (dd 656 (by omega))]; exact o5⟩, ⟨th, hth, rfl, by rw [iA_q (dd 657 (by omega))]; exact o7⟩, by rw [iA_q (dd 665 (by omega))]; exact o8, fun m hm => by rw [iA_q (dd 664 (by omega))]; exact o9 m hm, ⟨nl, ns, pos, na, nv, by rw [iA_q (dd 664 (by omega))]; exact ok⟩, .inr (.inr (.inl ⟨rfl, by rw [z67, up_same], fun m hm => ?_⟩))⟩⟩⟩ (fun r x s => ?_) (fun r t' ht' hne hr => ?_) (fun t' m ht' hne hm => by rw [iA_q (dd 664 (by omega))]) (fun t' ht' hne => by rw [lA_q (dd 663 (by omega))]) (fun t' m ht' hne hm => ?_) (fun k hk => ?_)) ?_ ?_
      · rw [z66, uo.2 m hm]; exact hF m hm
      · exact dn r (by omega) (by omega) (by omega) (by omega) (by omega) (by omega) (by omega) (by omega)
      · have : r = 658 ∨ r = 660 ∨ r = 667 ∨ (655 ≤ r ∧ r ≤ 665 ∧ r ≠ 658 ∧ r ≠ 660) := by omega
        rcases this with rfl | rfl | rfl | z
        · rw [z58, up_ne hne]
        · rw [z60, up_ne hne]
        · rw [z67, up_ne hne]
        · rw [iA_q (dd r (.inr (.inr z)))]
      · rw [z66, uo.1 _ (by omega)]
      · rw [fI_md z6 k (by omega), up_ne (by omega), up_ne (by omega)]
      · rw [← hH]; simp only [px_wr_len, outH_len]; omega
      · have : (dC h h1 gg).1 = h1.1 := rfl
        have := fr1.1
        rw [← hH]; show (dC h h1 gg).1 ≤ _; omega
  · obtain ⟨S, okS, cy, ry⟩ := I.2.2.2.2.2.1 (1 - g) (by omega)
    have hc2 : ∀ m, m < tcl → iA h 666 (6000 * t + m) &&& 255 = iA h 666 (6000 * t + m) := fun m hm => by rw [← oc2 m hm, Int32.and_assoc, Int32.and_self]
    have hcl := x3.2.2.1
    refine st_dlv3 (S := S) (bb := fun m => iA h 664 (300 * t + m)) (cb := fun m => iA h 666 (6000 * t + m)) hL hi e1 hS ht hg x1 x2 o9 x3 oc2 ok hth (yOK_good okS).1 cy ry I.2.2.2.1 r55 r59 y3.symm o5 o7 o8 (fun _ _ => rfl) hb2 oc1 (fun _ _ => rfl) hc2 (fun h1 h2 gg a b c kN eh pm => ?_) (fun S1 h0 h1 h2 gg fs S' o' m' e' w' a b c kY fr0 s0 an pa pm => ?_)
    · obtain ⟨q1, q2, q3, q4, ⟨V', q5, q6⟩, q7, q8, q9, q10⟩ := pm
      subst eh
      have u2 : ∀ {r : Nat}, r ≠ 668 → r ≠ 619 → r ≠ 25 + 5 * t → (dC h (px_wr h (25 + 5 * t) (.inl (8, trF (25 + 5 * t) 0 0 0 td 0 (nI g) (nI th) tk tv))) gg).2[r]? = h.2[r]? := fun p s u => by unfold dC; rw [wr_at, if_neg (fun z => s z.symm), wr_at, if_neg (fun z => p z.symm), wr_at, if_neg (fun z => u z.symm)]
      have uX : (dC h (px_wr h (25 + 5 * t) (.inl (8, trF (25 + 5 * t) 0 0 0 td 0 (nI g) (nI th) tk tv))) gg).2[25 + 5 * t]? = some (.inl (8, trF (25 + 5 * t) 0 0 0 td 0 (nI g) (nI th) tk tv)) := by unfold dC; rw [wr_at, if_neg (by omega), wr_at, if_neg (by omega), wr_at, if_pos rfl, if_pos (by omega)]
      have u3 : ∀ r, ¬ (mtA r ∨ ryA r ∨ r = 655 ∨ r = 658 ∨ r = 661 ∨ r = 663) → r ≠ 668 → r ≠ 25 + 5 * t → h2.2[r]? = h.2[r]? := fun r p u w => (q1.2.2 r p).trans (u2 u (by unfold mtA at p; omega) w)
      have dd : ∀ r, (25 + 5 * t < r ∧ r ≤ 29 + 5 * t ∨ 655 ≤ r ∧ r ≤ 667 ∧ r ≠ 655 ∧ r ≠ 658 ∧ r ≠ 661 ∧ r ≠ 663) → h2.2[r]? = h.2[r]? := fun r hr => u3 r (by unfold mtA ryA; omega) (by omega) (by omega)
      refine hQ h2 a b c (Inv_ytr (S' := S) I (q := 1 - g) (by omega) ht q2 okS (CY_frm cy (fun r p s => u3 r (by unfold mtA ryA; omega) (by omega) (by omega))) q3 (fun q2' S2 w1 w2 w3 w4 => q4 q2' S2 w1 w2 w3 (RY_frm w4 (fun r p s => u2 (by omega) (by omega) (by omega)))) (imS_up I.2.2.2.1 (fun r p s => u3 r (by unfold mtA ryA; omega) (by omega) (by omega))) (cl_X (I.2.2.2.2.2.2 t ht) x4.symm (fun r p s => dd r (by omega)) (by rw [iA_q (dd 660 (by omega))]) ((q1.2.2 _ (by unfold mtA ryA; omega)).trans uX) (by rw [iA_of q7, up_same]) (by rw [iA_of q9, up_same])) (fun r p s u w => u3 r (by unfold mtA ryA; omega) (by omega) (by omega)) (fun r t' ht' hne hr => ?_) (fun t' m ht' hne hm => by rw [iA_q (dd 664 (by omega))]) (fun t' ht' hne => by rw [lA_of q10]) (fun t' m ht' hne hm => by rw [iA_q (dd 666 (by omega))]) (fun k hk => ?_)) ?_ ?_
      · have : r = 655 ∨ r = 658 ∨ r = 661 ∨ (655 ≤ r ∧ r ≤ 667 ∧ r ≠ 655 ∧ r ≠ 658 ∧ r ≠ 661 ∧ r ≠ 663) := by omega
        rcases this with rfl | rfl | rfl | z
        · rw [iA_of q7, up_ne hne]
        · rw [iA_of q8]
        · rw [iA_of q9, up_ne hne]
        · rw [iA_q (dd r (.inr z))]
      · rw [fI_md q5 k (by omega), q6 k (by omega), up_ne (by omega)]
      · have : (dC h (px_wr h (25 + 5 * t) (.inl (8, trF (25 + 5 * t) 0 0 0 td 0 (nI g) (nI th) tk tv))) gg).2.length = h.2.length := by unfold dC; simp only [px_wr_len]
        have := q1.2.1; omega
      · have : (dC h (px_wr h (25 + 5 * t) (.inl (8, trF (25 + 5 * t) 0 0 0 td 0 (nI g) (nI th) tk tv))) gg).1 = h.1 := rfl
        have := q1.1; omega
    · obtain ⟨p1, p2, p3, p4, p5⟩ := pa
      obtain ⟨q1, q2, q3, q4, ⟨V', q5, q6⟩, q7, q8, q9, q10⟩ := pm
      have u1 : ∀ r, ¬ cyA (2 + 11 * (1 - g)) r → r ≠ 25 + 5 * t → ¬ imA 421 r → h1.2[r]? = h.2[r]? := fun r p s u => by
        rw [p1.2.2 r (fun z => by rcases z with z | z | z; exact u z; exact s z; exact p z), fr0.2.2 r p]
      have l1 : h1.2.length = h.2.length := by rw [p1.2.1, fr0.2.1]
      have u2 : ∀ {r : Nat}, r ≠ 668 → r ≠ 619 → (dC h h1 gg).2[r]? = h1.2[r]? := fun p s => by unfold dC; rw [wr_at, if_neg (fun z => s z.symm), wr_at, if_neg (fun z => p z.symm)]
      have u3 : ∀ r, ¬ (mtA r ∨ ryA r ∨ r = 655 ∨ r = 658 ∨ r = 661 ∨ r = 663) → r ≠ 668 → h2.2[r]? = h1.2[r]? := fun r p u => (q1.2.2 r p).trans (u2 u (by unfold mtA at p; omega))
      have e62 : iA h2 662 = iA h 662 := iA_q ((u3 662 (by unfold mtA ryA; omega) (by omega)).trans (u1 662 (by unfold cyA; omega) (by omega) (by unfold imA; omega)))
      refine hQ h2 a b c (Inv_ans2 (S1 := S1) (S' := S') (bb := fun m => iA h 664 (300 * t + m)) (kk := tk) (F := tF) (C := tC) I ht hg q2 (keep_ok okS hcl hc2 kY) (CY_frm p4 (fun r p s => u3 r (by unfold mtA ryA; omega) (by omega))) q3 (fun q2' S2 w1 w2 w3 w4 => q4 q2' S2 w1 w2 w3 (RY_frm w4 (fun r p s => (u2 (by omega) (by omega)).trans (u1 r (by unfold cyA; omega) (by omega) (by unfold imA; omega))))) (imS_up p5 (fun r p s => u3 r (by unfold mtA ryA; omega) (by omega))) an ok hb2 (fun _ _ => rfl) o9 x2 x3 hth r55 r59 o5 o7 o8 x4.symm y6 o3 ((u3 _ (by unfold mtA ryA; omega) (by omega)).trans p3) q7 q8 q9 q10 (by rw [e62]; exact o2.symm) (fun t' hne => by rw [e62]) (fun r w1 w2 w3 w4 w5 w6 w7 => (u3 r w4 w6).trans (u1 r w1 w2 w3)) (fun k hk => ?_)) ?_ ?_
      · rw [fI_md q5 k (by omega), q6 k (by omega), up_ne (by omega)]
      · have : (dC h h1 gg).2.length = h1.2.length := by unfold dC; simp only [px_wr_len]
        have := q1.2.1; omega
      · have : (dC h h1 gg).1 = h1.1 := rfl
        have := q1.1; have := p1.1; have := fr0.1; omega
  · refine st_dlv4 hL hi e1 hS ht hg x1 r55 r59 y3.symm (fun gg a b c => hQ _ a b c (Inv_close (fs := []) I ht (.inr rfl) x4.symm) ?_ ?_)
    · simp only [px_wr_len]; omega
    · exact Nat.le_add_right _ _
end DELIVER
