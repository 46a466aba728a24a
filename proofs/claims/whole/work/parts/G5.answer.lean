/-! DELIVER: an answer keeps the invariant -/
section ANS
variable {sx : Nat × (Nat → Int32)} {h : px_H} {i : Nat} {a b c : Option Value} {Q : px_O → px_H → Prop}
set_option maxRecDepth 16384 in
theorem keep_ok {S S' : yS} {bb : Nat → Int32} {c : Nat} (ok : yOK S) (hc : c ≤ 4120) (hb : ∀ k, k < c → bb k &&& 255 = bb k) (k : keepY S bb c S') : yOK S' := by
  rcases k with ⟨rfl, -⟩ | ⟨rfl, n, b, r⟩
  · exact ok
  · exact yOK_stp ok (.inl ⟨bb, c, rfl, n, b, r, hc, hb⟩)
set_option maxRecDepth 16384 in
theorem keep_img {S S' : yS} {bb : Nat → Int32} {l nl ns : Nat} {pos na nv : Nat → Nat} (ok : yOK S) (k : keepY S bb l S') (im : imgOK bb l nl ns pos na nv) (hl : ∀ j, j < nl → hasD S (layB bb j)) : imgIn S' (dig bb l) := by
  have l3 := img_lay im
  rcases k with ⟨rfl, k, k1, k2, k3, k4⟩ | ⟨rfl, n, b, r⟩
  · subst k3
    have e : ∀ m, m < yL S' k → blB S' k m = bb m := k4
    exact ⟨k, k1, k2, nl, ns, pos, na, nv, img_congr im e, fun i hi => by rw [layB_congr (l := yL S' k) (by omega) e]; exact hl i hi⟩
  · have mB := moreB_keep (S := S) (bb := bb) (c := l) (yOK_good ok).1
    have eL : yL (yKeep S bb l) (yB S) = l := up_same _ _ _
    have e : ∀ m, m < l → blB (yKeep S bb l) (yB S) m = bb m := fun m hm => by
      show (addJ S (6 + l) (recB 1 l bb)).2.1 (px_up (yP S) (yB S) (yR S + 5) (yB S) + m) = _
      rw [up_same, Nat.add_assoc, addJ_new (Nat.le_add_right _ _), Nat.add_sub_cancel_left, rec_d hm]
    exact ⟨yB S, Nat.lt_succ_self _, up_same _ _ _, nl, ns, pos, na, nv, by rw [eL]; exact img_congr im e, fun i hi => by rw [layB_congr (l := l) (by omega) e]; exact moreB_has mB (hl i hi)⟩
set_option maxRecDepth 16384 in
theorem Inv_ytr {H : px_H} {q t : Nat} {S' : yS} (I : Inv h) (hq : q < 2) (ht : t < 4) (sH : shape H) (ok : yOK S') (cy : CY H (2 + 11 * q) S') (ry : RY H q S') (oth : ∀ q2 S2, q2 < 2 → q2 ≠ q → WFy S2 → RY h q2 S2 → RY H q2 S2) (im : imS H 421 (fun s => s)) (xt : invX H t) (e : ∀ r, ¬ cyA (2 + 11 * q) r → ¬ (25 + 5 * t ≤ r ∧ r ≤ 29 + 5 * t) → ¬ imA 421 r → (r ≤ 618 ∨ r = 620) → H.2[r]? = h.2[r]?) (ei : ∀ r t', t' < 4 → t' ≠ t → (655 ≤ r ∧ r ≤ 662 ∨ r = 665 ∨ r = 667) → iA H r t' = iA h r t') (e5 : ∀ t' m, t' < 4 → t' ≠ t → m < 300 → iA H 664 (300 * t' + m) = iA h 664 (300 * t' + m)) (e6 : ∀ t', t' < 4 → t' ≠ t → lA H 663 t' = lA h 663 t') (e8 : ∀ t' m, t' < 4 → t' ≠ t → m < 6000 → iA H 666 (6000 * t' + m) = iA h 666 (6000 * t' + m)) (vk : vKeep h H) : Inv H := by
  obtain ⟨w1, w2, w3, w4, w5, w6, w7⟩ := I
  refine ⟨sH, relT_frm w2 (fun r hr => e r (by unfold cyA; omega) (by omega) (by unfold imA; omega) (by omega)) (vk 2 (by omega)), invB_frm w3 (e 47 (by unfold cyA; omega) (by omega) (by unfold imA; omega) (by omega)) (vk 44 (by omega)) (vk 45 (by omega)) (vk 46 (by omega)), im, invS_frm w5 (fun r hr => e r (by unfold cyA; omega) (by omega) (by unfold imA; omega) (by omega)), fun q2 hq2 => ?_, fun t' ht' => ?_⟩
  · by_cases x : q2 = q
    · subst x; exact ⟨S', ok, cy, ry⟩
    · obtain ⟨S2, o2, c2, r2⟩ := w6 q2 hq2
      exact ⟨S2, o2, CY_frm c2 (fun r p s => e r (by unfold cyA; omega) (by omega) (by unfold imA; omega) (by omega)), oth q2 S2 hq2 x (yOK_good o2).1 r2⟩
  · by_cases x : t' = t
    · subst x; exact xt
    · exact invX_oth (w7 t' ht') (fun r p s => e r (by unfold cyA; omega) (by omega) (by unfold imA; omega) (by omega)) (fun r hr => ei r t' ht' x (by omega)) (fun m hm => e5 t' m ht' x hm) (e6 t' ht' x) (fun m hm => e8 t' m ht' x hm)
/-! what an answer leaves -/
set_option maxRecDepth 16384 in
theorem Inv_ans2 {H : px_H} {t g l nl ns th cl : Nat} {pos na nv : Nat → Nat} {bb F C : Nat → Int32} {d kk : Int32} {v : Int64} {S1 S' : yS} {fs : List Value} {o' m' e' : Nat → Int32} {w' : Nat → Int64} (I : Inv h) (ht : t < 4) (hg : g < 2) (sH : shape H) (ok1 : yOK S1) (cy : CY H (2 + 11 * (1 - g)) S') (ry : RY H (1 - g) S') (oth : ∀ q2 S2, q2 < 2 → q2 ≠ 1 - g → WFy S2 → RY h q2 S2 → RY H q2 S2) (im : imS H 421 (fun s => s))
    (an : ansO S1 bb l nl th t (fun z => trF (25 + 5 * t) 1 2 0 d 0 (nI g) (nI th) kk z) (fun z => trF (25 + 5 * t) 0 0 0 d 0 (nI g) (nI th) kk z) (fun z => trF (25 + 5 * t) 1 4 0 d 0 (nI g) (nI th) kk z) v (iA h 655) (iA h 658) (iA h 661) (lA h 663) fs S' o' m' e' w')
    (io : imgOK bb l nl ns pos na nv) (hb2 : ∀ m, m < l → bb m &&& 255 = bb m) (r64 : ∀ m, m < l → iA h 664 (300 * t + m) = bb m) (hF : ∀ m, m < l → F m &&& 255 = bb m) (wX : rowAt h (25 + 5 * t + 1) 231 l F) (wC : rowAt h (25 + 5 * t + 3) 4120 cl C) (hth : th < 8) (r55 : iA h 655 t = 1) (r59 : iA h 659 t = 0) (r56 : iA h 656 t = nI g) (r57 : iA h 657 t = nI th) (r65 : iA h 665 t = nI l) (r60 : iA h 660 t = d) (r61 : iA h 661 t = 0) (hk : kk = 0 ∨ kk = 1)
    (zX : H.2[25 + 5 * t]? = some (.inl (8, fs))) (z55 : H.2[655]? = some (.inr (3, 4, .inl o'))) (z58 : H.2[658]? = some (.inr (1, 4, .inl m'))) (z61 : H.2[661]? = some (.inr (3, 4, .inl e'))) (z63 : H.2[663]? = some (.inr (2, 4, .inr (.inl w')))) (z62 : iA H 662 t = kk) (z62' : ∀ t', t' ≠ t → iA H 662 t' = iA h 662 t')
    (E : ∀ r, ¬ cyA (2 + 11 * (1 - g)) r → r ≠ 25 + 5 * t → ¬ imA 421 r → ¬ (mtA r ∨ ryA r ∨ r = 655 ∨ r = 658 ∨ r = 661 ∨ r = 663) → r ≠ 662 → r ≠ 668 → r ≤ 667 → H.2[r]? = h.2[r]?) (vk : vKeep h H) : Inv H := by
  have hth' := hth
  have l231 := img_len io
  have dr : ∀ r, (25 + 5 * t < r ∧ r ≤ 29 + 5 * t ∨ r = 656 ∨ r = 657 ∨ r = 659 ∨ r = 660 ∨ r = 664 ∨ r = 665 ∨ r = 666 ∨ r = 667) → H.2[r]? = h.2[r]? := fun r hr => E r (by unfold cyA; omega) (by omega) (by unfold imA; omega) (by unfold mtA ryA; omega) (by omega) (by omega) (by omega)
  have w2 : rowAt H (25 + 5 * t + 1) 231 l F := ⟨by rw [dr _ (by omega)]; exact wX.1, by rw [dr _ (by omega)]; exact wX.2.1, wX.2.2⟩
  have w3 : rowAt H (25 + 5 * t + 3) 4120 cl C := ⟨by rw [dr _ (by omega)]; exact wC.1, by rw [dr _ (by omega)]; exact wC.2.1, wC.2.2⟩
  have e60 : d = iA H 660 t := by rw [iA_q (dr 660 (by omega))]; exact r60.symm
  have op : ∀ b v', (b = 2 ∧ v' = lA H 663 t ∨ b = 4) → opn H t b 0 (nI g) (nI th) kk v' l F cl C := fun b v' hb => by
    refine ⟨.inl rfl, ⟨z62.symm, hk⟩, ⟨g, hg, rfl, by rw [iA_q (dr 656 (by omega))]; exact r56⟩, ⟨th, hth, rfl, by rw [iA_q (dr 657 (by omega))]; exact r57⟩, by rw [iA_q (dr 665 (by omega))]; exact r65, fun m hm => by rw [iA_q (dr 664 (by omega)), r64 m hm]; exact hF m hm, ⟨nl, ns, pos, na, nv, img_congr io (fun m hm => by rw [iA_q (dr 664 (by omega))]; exact r64 m hm)⟩, ?_⟩
    rcases hb with hb | hb
    · exact .inr (.inl hb)
    · exact .inr (.inr (.inr hb))
  have res : yOK S' ∧ invX H t ∧ (∀ t', t' < 4 → t' ≠ t → iA H 655 t' = iA h 655 t' ∧ iA H 658 t' = iA h 658 t' ∧ iA H 661 t' = iA h 661 t' ∧ lA H 663 t' = lA h 663 t') := by
    have f55 := iA_of z55
    have f58 := iA_of z58
    have f61 := iA_of z61
    have f63 := lA_of z63
    rcases an with ⟨j, j1, j2, j3, rfl, rfl, rfl, rfl, rfl, rfl⟩ | ⟨j1, j2, rfl, rfl, rfl, rfl, rfl⟩ | ⟨j1, ⟨S2, j2, j3⟩, rfl, rfl, rfl, rfl, rfl⟩
    · refine ⟨ok1, ⟨1, 2, 0, d, 0, nI g, nI th, kk, layB bb j, l, F, cl, C, zX, w2, w3, e60, .inr ⟨by rw [f55]; exact r55, rfl, by rw [f58, up_same], by rw [iA_q (dr 659 (by omega))]; exact r59.symm, rfl, by rw [f61]; exact r61, op 2 _ (.inl ⟨rfl, by rw [f63, up_same]⟩)⟩⟩, fun t' ht' hne => ⟨by rw [f55], by rw [f58, up_ne hne], by rw [f61], by rw [f63, up_ne hne]⟩⟩
    · refine ⟨?_, ⟨0, 0, 0, d, 0, nI g, nI th, kk, v, l, F, cl, C, zX, w2, w3, e60, .inl ⟨by rw [f55, up_same], rfl, rfl, rfl, by rw [f61, up_same]⟩⟩, fun t' ht' hne => ⟨by rw [f55, up_ne hne], by rw [f58], by rw [f61, up_ne hne], by rw [f63]⟩⟩
      rcases j2 with ⟨-, rfl⟩ | ⟨j2, -⟩
      · exact ok1
      · exact keep_ok ok1 (by omega) hb2 j2
    · refine ⟨tell_ok (keep_ok ok1 (by omega) hb2 j2) hth (keep_img ok1 j2 io j1) j3, ⟨1, 4, 0, d, 0, nI g, nI th, kk, v, l, F, cl, C, zX, w2, w3, e60, .inr ⟨by rw [f55]; exact r55, rfl, by rw [f58, up_same], by rw [iA_q (dr 659 (by omega))]; exact r59.symm, rfl, by rw [f61]; exact r61, op 4 _ (.inr rfl)⟩⟩, fun t' ht' hne => ⟨by rw [f55], by rw [f58, up_ne hne], by rw [f61], by rw [f63]⟩⟩
  obtain ⟨okS, xt, ot⟩ := res
  refine Inv_ytr I (by omega) ht sH okS cy ry oth im xt (fun r p s u w => E r p (by omega) u (by unfold mtA ryA; omega) (by omega) (by omega) (by omega)) (fun r t' ht' hne hr => ?_) (fun t' m ht' hne hm => by rw [iA_q (dr 664 (by omega))]) (fun t' ht' hne => (ot t' ht' hne).2.2.2) (fun t' m ht' hne hm => by rw [iA_q (dr 666 (by omega))]) vk
  obtain ⟨p1, p2, p3, p4⟩ := ot t' ht' hne
  have : r = 655 ∨ r = 658 ∨ r = 661 ∨ r = 662 ∨ r = 656 ∨ r = 657 ∨ r = 659 ∨ r = 660 ∨ r = 665 ∨ r = 667 := by omega
  rcases this with rfl | rfl | rfl | rfl | rfl | rfl | rfl | rfl | rfl | rfl
  · exact p1
  · exact p2
  · exact p3
  · exact z62' t' hne
  · rw [iA_q (dr 656 (by omega))]
  · rw [iA_q (dr 657 (by omega))]
  · rw [iA_q (dr 659 (by omega))]
  · rw [iA_q (dr 660 (by omega))]
  · rw [iA_q (dr 665 (by omega))]
  · rw [iA_q (dr 667 (by omega))]
end ANS
