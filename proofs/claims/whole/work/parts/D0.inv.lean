/-! WHAT STANDS BETWEEN TWO CALLS -/
set_option maxRecDepth 16384 in
theorem cell_q {h h' : px_H} {r : Nat} (e : h'.2[r]? = h.2[r]?) : cell h' r = cell h r := by unfold cell; rw [e]
set_option maxRecDepth 16384 in
theorem fI_q {h h' : px_H} {r : Nat} (e : h'.2[r]? = h.2[r]?) (k : Nat) : fI h' r k = fI h r k := by unfold fI; rw [cell_q e]
set_option maxRecDepth 16384 in
theorem iA_q {h h' : px_H} {r : Nat} (e : h'.2[r]? = h.2[r]?) : iA h' r = iA h r := by unfold iA; rw [cell_q e]
set_option maxRecDepth 16384 in
theorem lA_q {h h' : px_H} {r : Nat} (e : h'.2[r]? = h.2[r]?) : lA h' r = lA h r := by unfold lA; rw [cell_q e]
set_option maxRecDepth 16384 in
theorem rA_q {h h' : px_H} {r : Nat} (e : h'.2[r]? = h.2[r]?) : rA h' r = rA h r := by unfold rA; rw [cell_q e]
set_option maxRecDepth 16384 in
theorem iA_of {h : px_H} {r t n : Nat} {f : Nat → Int32} (e : h.2[r]? = some (.inr (t, n, .inl f))) : iA h r = f := by unfold iA; rw [cell_of e]; rfl
set_option maxRecDepth 16384 in
theorem lA_of {h : px_H} {r t n : Nat} {f : Nat → Int64} (e : h.2[r]? = some (.inr (t, n, .inr (.inl f)))) : lA h r = f := by unfold lA; rw [cell_of e]; rfl
set_option maxRecDepth 16384 in
theorem rA_of {h : px_H} {r t n : Nat} {f : Nat → Option Nat} (e : h.2[r]? = some (.inr (t, n, .inr (.inr f)))) : rA h r = f := by unfold rA; rw [cell_of e]; rfl
set_option maxRecDepth 16384 in
theorem fI_of {h : px_H} {r c k : Nat} {fs : List Value} {x : Int32} (e : h.2[r]? = some (.inl (c, fs))) (ek : fs[k]? = some (.int x)) : fI h r k = x := by unfold fI; rw [cell_of e]; show cI (.inl (c, fs)) k = x; simp only [cI, ek]
set_option maxRecDepth 16384 in
theorem fJ_of {h : px_H} {r c k : Nat} {fs : List Value} {x : Int64} (e : h.2[r]? = some (.inl (c, fs))) (ek : fs[k]? = some (.long x)) : fJ h r k = x := by unfold fJ; rw [cell_of e]; show cJ (.inl (c, fs)) k = x; simp only [cJ, ek]
/-- the builds' numbers -/
def invB (h : px_H) : Prop := fI h 47 1 = fI h 619 44 ∧ fI h 47 2 = fI h 619 45 ∧ fI h 47 3 = fI h 619 46
/-- a tree's entries are those it was made with -/
def tre (h : px_H) (T : Nat) : Prop := ∃ π : Nat → Nat, (∀ i, i < 80 → rA h (T + 1) i = some (T + 2 + 2 * π i) ∧ π i < 80) ∧ ∀ i j, i < 80 → j < 80 → π i = π j → i = j
def inj6 (P : Nat → Nat) : Prop := ∀ a b, a < 6 → b < 6 → P a = P b → a = b
/-- the objects that are used again -/
def invS (h : px_H) : Prop := (∃ P, inj6 P ∧ imS h 48 P) ∧ tre h 87 ∧ tre h 249 ∧ tre h 457
/-- a yard -/
def invY (h : px_H) (q : Nat) : Prop := ∃ S, yOK S ∧ CY h (2 + 11 * q) S ∧ RY h q S
/-- an open transfer -/
def opn (h : px_H) (t : Nat) (b c g i k : Int32) (v : Int64) (l : Nat) (F : Nat → Int32) (cl : Nat) (C : Nat → Int32) : Prop :=
  (c = 0 ∨ c = 1) ∧ (k = iA h 662 t ∧ (k = 0 ∨ k = 1)) ∧ (∃ gg, gg < 2 ∧ g = nI gg ∧ iA h 656 t = nI gg) ∧ (∃ th, th < 8 ∧ i = nI th ∧ iA h 657 t = nI th) ∧ iA h 665 t = nI l ∧ (∀ m, m < l → F m &&& 255 = iA h 664 (300 * t + m)) ∧ (∃ nl ns pos na nv, imgOK (fun m => iA h 664 (300 * t + m)) l nl ns pos na nv) ∧
  (b = 1 ∨ b = 2 ∧ v = lA h 663 t ∨ b = 3 ∧ iA h 667 t = nI cl ∧ (∀ m, m < cl → C m &&& 255 = iA h 666 (6000 * t + m)) ∨ b = 4)
/-- a transfer -/
def invX (h : px_H) (t : Nat) : Prop := ∃ a b c d e g i k v l F cl C, h.2[25 + 5 * t]? = some (.inl (8, trF (25 + 5 * t) a b c d e g i k v)) ∧ rowAt h (25 + 5 * t + 1) 231 l F ∧ rowAt h (25 + 5 * t + 3) 4120 cl C ∧ d = iA h 660 t ∧
  (iA h 655 t = 0 ∧ a = 0 ∧ b = 0 ∧ c = 0 ∧ e = iA h 661 t ∨ iA h 655 t = 1 ∧ a = 1 ∧ b = iA h 658 t ∧ c = iA h 659 t ∧ e = 0 ∧ iA h 661 t = 0 ∧ opn h t b c g i k v l F cl C)
def Inv (h : px_H) : Prop := shape h ∧ relT h ∧ invB h ∧ imS h 421 (fun s => s) ∧ invS h ∧ (∀ q, q < 2 → invY h q) ∧ ∀ t, t < 4 → invX h t
section INVF
variable {h h' : px_H}
set_option maxRecDepth 16384 in
theorem relT_frm (w : relT h) (e : ∀ r, r = 45 ∨ r = 46 ∨ r = 620 → h'.2[r]? = h.2[r]?) (ef : fI h' 619 2 = fI h 619 2) : relT h' := by
  obtain ⟨n, a, b, c, d⟩ := w
  exact ⟨n, a, by rw [fI_q (e 45 (.inl rfl))]; exact b, by rw [ef]; exact c, by rw [iA_q (e 46 (.inr (.inl rfl))), iA_q (e 620 (.inr (.inr rfl)))]; exact d⟩
set_option maxRecDepth 16384 in
theorem invB_frm (w : invB h) (e : h'.2[47]? = h.2[47]?) (e1 : fI h' 619 44 = fI h 619 44) (e2 : fI h' 619 45 = fI h 619 45) (e3 : fI h' 619 46 = fI h 619 46) : invB h' := by
  unfold invB
  rw [fI_q e, fI_q e, fI_q e, e1, e2, e3]; exact w
set_option maxRecDepth 16384 in
theorem tre_frm {T : Nat} (w : tre h T) (e : h'.2[T + 1]? = h.2[T + 1]?) : tre h' T := by
  unfold tre; rw [rA_q e]; exact w
set_option maxRecDepth 16384 in
theorem invS_frm (w : invS h) (e : ∀ r, (50 ≤ r ∧ r ≤ 80) ∨ r = 88 ∨ r = 250 ∨ r = 458 → h'.2[r]? = h.2[r]?) : invS h' := by
  obtain ⟨⟨P, p1, p2⟩, t1, t2, t3⟩ := w
  exact ⟨⟨P, p1, imS_up p2 (fun r a b => e r (by omega))⟩, tre_frm t1 (e 88 (by omega)), tre_frm t2 (e 250 (by omega)), tre_frm t3 (e 458 (by omega))⟩
set_option maxRecDepth 16384 in
theorem invY_frm {q : Nat} (w : invY h q) (e1 : ∀ r, 2 + 11 * q ≤ r → r ≤ 12 + 11 * q → h'.2[r]? = h.2[r]?) (e2 : ∀ r, 621 ≤ r → r ≤ 634 → h'.2[r]? = h.2[r]?) : invY h' q := by
  obtain ⟨S, a, b, c⟩ := w
  exact ⟨S, a, CY_frm b (fun r x y => e1 r x (by omega)), RY_frm c e2⟩
set_option maxRecDepth 16384 in
theorem opn_frm {t : Nat} {b c g i k : Int32} {v : Int64} {l : Nat} {F : Nat → Int32} {cl : Nat} {C : Nat → Int32} (w : opn h t b c g i k v l F cl C) (e1 : iA h' 662 t = iA h 662 t) (e2 : iA h' 656 t = iA h 656 t) (e3 : iA h' 657 t = iA h 657 t) (e4 : iA h' 665 t = iA h 665 t) (e5 : ∀ m, iA h' 664 (300 * t + m) = iA h 664 (300 * t + m)) (e6 : lA h' 663 t = lA h 663 t) (e7 : iA h' 667 t = iA h 667 t) (e8 : ∀ m, iA h' 666 (6000 * t + m) = iA h 666 (6000 * t + m)) : opn h' t b c g i k v l F cl C := by
  unfold opn
  rw [e1, e2, e3, e4, e6, e7]
  simp only [e5, e8]
  exact w
set_option maxRecDepth 16384 in
theorem invX_frm {t : Nat} (w : invX h t) (e1 : ∀ r, 25 + 5 * t ≤ r → r ≤ 29 + 5 * t → h'.2[r]? = h.2[r]?) (e2 : ∀ r, 655 ≤ r → r ≤ 667 → h'.2[r]? = h.2[r]?) : invX h' t := by
  obtain ⟨a, b, c, d, e, g, i, k, v, l, F, cl, C, x1, x2, x3, x4, x5⟩ := w
  refine ⟨a, b, c, d, e, g, i, k, v, l, F, cl, C, by rw [e1 _ (by omega) (by omega)]; exact x1, ⟨by rw [e1 _ (by omega) (by omega)]; exact x2.1, by rw [e1 _ (by omega) (by omega)]; exact x2.2.1, x2.2.2⟩, ⟨by rw [e1 _ (by omega) (by omega)]; exact x3.1, by rw [e1 _ (by omega) (by omega)]; exact x3.2.1, x3.2.2⟩, by rw [iA_q (e2 660 (by decide) (by decide))]; exact x4, ?_⟩
  rw [iA_q (e2 655 (by decide) (by decide)), iA_q (e2 661 (by decide) (by decide)), iA_q (e2 658 (by decide) (by decide)), iA_q (e2 659 (by decide) (by decide))]
  rcases x5 with x | ⟨y1, y2, y3, y4, y5, y7, y6⟩
  · exact .inl x
  · exact .inr ⟨y1, y2, y3, y4, y5, y7, opn_frm y6 (by rw [iA_q (e2 662 (by decide) (by decide))]) (by rw [iA_q (e2 656 (by decide) (by decide))]) (by rw [iA_q (e2 657 (by decide) (by decide))]) (by rw [iA_q (e2 665 (by decide) (by decide))]) (fun m => by rw [iA_q (e2 664 (by decide) (by decide))]) (by rw [lA_q (e2 663 (by decide) (by decide))]) (by rw [iA_q (e2 667 (by decide) (by decide))]) (fun m => by rw [iA_q (e2 666 (by decide) (by decide))])⟩
/-- what no answer touches -/
def prs (r : Nat) : Prop := r ≤ 618 ∨ r = 620 ∨ 621 ≤ r ∧ r ≤ 634 ∨ 655 ≤ r ∧ r ≤ 667
/-- the reference's numbers that last -/
def vKeep (h h' : px_H) : Prop := ∀ k, k = 2 ∨ k = 44 ∨ k = 45 ∨ k = 46 → fI h' 619 k = fI h 619 k
set_option maxRecDepth 16384 in
theorem Inv_frm (w : Inv h) (hs : shape h') (e : ∀ r, r ≤ 618 ∨ r = 620 ∨ 621 ≤ r ∧ r ≤ 634 ∨ 655 ≤ r ∧ r ≤ 667 → h'.2[r]? = h.2[r]?) (ev : vKeep h h') : Inv h' := by
  obtain ⟨w1, w2, w3, w4, w5, w6, w7⟩ := w
  exact ⟨hs, relT_frm w2 (fun r hr => e r (by omega)) (ev 2 (.inl rfl)), invB_frm w3 (e 47 (by omega)) (ev 44 (.inr (.inl rfl))) (ev 45 (.inr (.inr (.inl rfl)))) (ev 46 (.inr (.inr (.inr rfl)))), imS_up w4 (fun r a b => e r (by omega)), invS_frm w5 (fun r hr => e r (by omega)), fun q hq => invY_frm (w6 q hq) (fun r a b => e r (by omega)) (fun r a b => e r (by omega)), fun t ht => invX_frm (w7 t ht) (fun r a b => e r (by omega)) (fun r a b => e r (by omega))⟩
set_option maxRecDepth 16384 in
theorem fI_md {v : Nat → Int32} (e : h.2[619]? = some (.inl (11, modF v))) : ∀ k, k = 0 ∨ k = 2 ∨ k = 17 ∨ k = 44 ∨ k = 45 ∨ k = 46 → fI h 619 k = v k := by
  intro k hk
  rcases hk with rfl | rfl | rfl | rfl | rfl | rfl <;> exact fI_of e rfl
/-! the two commonest ends of a call: refused, and answered with nothing changed -/
set_option maxRecDepth 16384 in
theorem Inv_thr {x : px_C} {t : Int32} {w : Nat} (i : Inv h) : Inv (px_wr (px_al h w x) 619 (.inl (11, modF (px_up (fI h 619) 0 t)))) := by
  have hl := i.1.1
  refine Inv_frm i (shape_wr (shape_al i.1 _ _) rfl) (fun r hr => ?_) (fun k hk => ?_)
  · rw [wr_at, if_neg (by omega), al_at, if_pos (by omega)]
  · rw [fI_md (v := px_up (fI h 619) 0 t) (by rw [wr_at, if_pos rfl, if_pos (by rw [px_al_len]; omega)]) k (by omega), up_ne (by omega)]
set_option maxRecDepth 16384 in
theorem Inv_ans {z : Nat → Int64} {t : Int32} (i : Inv h) : Inv (px_wr (px_wr h 668 (.inr (2, 1, .inr (.inl z)))) 619 (.inl (11, modF (px_up (fI h 619) 0 t)))) := by
  have hl := i.1.1
  refine Inv_frm i (shape_wr (shape_wr i.1 rfl) rfl) (fun r hr => ?_) (fun k hk => ?_)
  · rw [wr_at, if_neg (by omega), wr_at, if_neg (by omega)]
  · rw [fI_md (v := px_up (fI h 619) 0 t) (by rw [wr_at, if_pos rfl, if_pos (by rw [px_wr_len]; omega)]) k (by omega), up_ne (by omega)]
end INVF
