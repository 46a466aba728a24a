/-! FROM, the class's -/
set_option maxRecDepth 16384 in
theorem fnd_at {B : Nat → Nat} {c t : Nat} (hc : B t = c) : ∀ d k, k ≤ t → t < k + d → (∀ j, k ≤ j → j < t → B j ≠ c) → fnd B c k d = t
  | 0, k, h1, h2, _ => absurd h2 (by omega)
  | d + 1, k, h1, h2, h3 => by
    unfold fnd
    by_cases x : k = t
    · subst x; rw [if_pos hc]
    · rw [if_neg (h3 k (Nat.le_refl _) (by omega))]
      exact fnd_at hc d (k + 1) (by omega) (by omega) (fun j a b => h3 j (by omega) b)
def fromE (B : Nat → Nat) (s e : Nat) : Prop := wrd B s e [70, 82, 79, 77, 32, 101, 109, 112, 116, 121]
def fromT (B : Nat → Nat) (s e j : Nat) : Prop := wrd B s (e - 1) [70, 82, 79, 77, 32] ∧ s < e ∧ B (e - 1) = 48 + j ∧ j < 8
/-- what a first line makes -/
def frmR (S : yS) (IM : Nat → aM) (B : Nat → Nat) (s e x : Nat) (m : aM) : Prop :=
  (fromE B s e ∧ x = 0 ∧ m = imE) ∨ (¬ fromE B s e ∧ ∃ j, fromT B s e j ∧ (yT S j = true ∧ x = 0 ∧ m = IM j ∨ ¬ yT S j = true ∧ x = 2 ∧ m = imE)) ∨ (¬ fromE B s e ∧ (∀ j, ¬ fromT B s e j) ∧ x = 1 ∧ m = imE)
set_option maxRecDepth 16384 in
theorem frmR_det {S : yS} {IM : Nat → aM} {B : Nat → Nat} {s e x1 x2 : Nat} {m1 m2 : aM} (h1 : frmR S IM B s e x1 m1) (h2 : frmR S IM B s e x2 m2) : x1 = x2 ∧ m1 = m2 := by
  rcases h1 with ⟨a1, a2, a3⟩ | ⟨a1, j, a2, a3⟩ | ⟨a1, a2, a3, a4⟩
  · rcases h2 with ⟨b1, b2, b3⟩ | ⟨b1, -⟩ | ⟨b1, -⟩
    · exact ⟨by omega, by rw [a3, b3]⟩
    · exact absurd a1 b1
    · exact absurd a1 b1
  · rcases h2 with ⟨b1, -⟩ | ⟨b1, j', b2, b3⟩ | ⟨b1, b2, -⟩
    · exact absurd b1 a1
    · have : j = j' := by have := a2.2.2.1; have := b2.2.2.1; omega
      subst this
      rcases a3 with ⟨c1, c2, c3⟩ | ⟨c1, c2, c3⟩ <;> rcases b3 with ⟨d1, d2, d3⟩ | ⟨d1, d2, d3⟩
      · exact ⟨by omega, by rw [c3, d3]⟩
      · exact absurd c1 d1
      · exact absurd d1 c1
      · exact ⟨by omega, by rw [c3, d3]⟩
    · exact absurd a2 (b2 j)
  · rcases h2 with ⟨b1, -⟩ | ⟨b1, j', b2, b3⟩ | ⟨b1, b2, b3, b4⟩
    · exact absurd b1 a1
    · exact absurd b2 (a2 j')
    · exact ⟨by omega, by rw [a4, b4]⟩
/-- IM are the images that the tags tell -/
def tdS (S : yS) (IM : Nat → aM) : Prop := ∀ j, j < 8 → yT S j = true → ∃ k nl ns pos na nv, k < yB S ∧ yD S k = yG S j ∧ imgOK (blB S k) (yL S k) nl ns pos na nv ∧ (∀ i, i < nl → hasD S (layB (blB S k) i)) ∧ IM j = imgM (blB S k) nl ns pos na nv
set_option maxRecDepth 16384 in
theorem tdS_ex {S : yS} (g : goodC S) : ∃ IM, tdS S IM := by
  have : ∀ j, ∃ m, j < 8 → yT S j = true → ∃ k nl ns pos na nv, k < yB S ∧ yD S k = yG S j ∧ imgOK (blB S k) (yL S k) nl ns pos na nv ∧ (∀ i, i < nl → hasD S (layB (blB S k) i)) ∧ m = imgM (blB S k) nl ns pos na nv := fun j => by
    by_cases x : j < 8 ∧ yT S j = true
    · obtain ⟨k, k1, k2, nl, ns, pos, na, nv, k3, k4⟩ := g.2.2.2 j x.1 x.2
      exact ⟨_, fun _ _ => ⟨k, nl, ns, pos, na, nv, k1, k2, k3, k4, rfl⟩⟩
    · exact ⟨imE, fun a b => absurd ⟨a, b⟩ x⟩
  exact ⟨fun j => Classical.choose (this j), fun j => Classical.choose_spec (this j)⟩
set_option maxRecDepth 16384 in
theorem tdS_ok {S : yS} {IM : Nat → aM} (hw : WFy S) (td : tdS S IM) {j : Nat} (hj : j < 8) (e : yT S j = true) : imOK (IM j) ∧ ∀ i, i < iL (IM j) → hasD S (iD (IM j) i) := by
  obtain ⟨k, nl, ns, pos, na, nv, a1, a2, a3, a4, a5⟩ := td j hj e
  rw [a5]
  exact ⟨imgM_ok a3 (fun _ => bl_255 hw a1), a4⟩
section BEGIN
variable {sx : Nat × (Nat → Int32)} {h : px_H} {S : yS} {IM : Nat → aM} {q n s e j k nl ns : Nat} {f : Nat → Int32} {B : Nat → Nat} {P pos na nv : Nat → Nat} {Q : px_O → px_H → Prop}
set_option maxRecDepth 16384 in
theorem inv_toldK (ok : yOK S) (cy : CY h (2 + 11 * q) S) (ry : RY h q S) (hj : j < 8) (e : yT S j = true) (k1 : k < yB S) (k2 : yD S k = yG S j) (k3 : imgOK (blB S k) (yL S k) nl ns pos na nv) : ∃ u, toldI h q (2 + 11 * q) j (yR S) (yB S) k (yP S k) u (yL S k) nl ns pos na nv (blB S k) := by
  have g := yOK_good ok
  obtain ⟨⟨x1, x2, x3, x4⟩, x5, x6, x7, x8⟩ := yd_nums cy ry
  obtain ⟨⟨f, a1, a2⟩, -, ⟨D, d1, d2⟩, ⟨st, s1, s2⟩, -, -, -, -, ⟨G, i1, i2⟩, -⟩ := cy
  obtain ⟨-, -, -, -, ⟨D', e1, e2⟩, ⟨fr, sz, bt, us, U, f1, f2, f3, f4, f5, f6, f7⟩, -, -, -, ⟨G', j1, j2⟩, -⟩ := ry
  obtain ⟨y1, u, y2, y3, y4⟩ := f7 k k1
  have hP := g.1.2.2.2.2.2.1 k k1
  have h4 := g.1.1
  refine ⟨u, ⟨h4, x4, g.1.2.2.1, x2, x5, k1⟩, ?_, fun a b ha hb eab => ?_, fun a ha => ?_, ?_, ⟨?_, hP, ?_, by omega⟩, fun m hm => ?_, fun m hm => ?_, k3⟩
  · rw [lA_of d1, lA_of i1, d2 k k1, i2 j hj e]; exact k2
  · rw [lA_of d1, d2 a ha, d2 b hb] at eab
    exact g.1.2.2.2.2.1 a b ha hb eab
  · rw [lA_of d1, lA_of e1, d2 a ha, e2 a ha]
  · rw [lA_of i1, lA_of j1, i2 j hj e, j2 j hj e]
  · rw [iA_of s1]; exact s2 k k1
  · rw [iA_of f1]; exact y2
  · rw [iA_of (r := 2 + 11 * q + 2) a1.2.1]; exact a2 _ (by omega)
  · rw [iA_of f3]; exact y4 m hm
set_option maxRecDepth 16384 in
theorem c_readK {R B2 s2 u l : Nat} {bb : Nat → Int32} (hS : shape h) (hq : q < 2) (hj8 : j < 8) (tI : toldI h q (2 + 11 * q) j R B2 k s2 u l nl ns pos na nv bb) (i2 : imS h 48 P) (hP : inj6 P) (hQ : ∀ h1, tk2 h h1 48 nl ns bb P pos na nv → Q (.inl none) h1) :
    px_Wp sx 89 0 [some (.ref (2 + 11 * q)), some (.int (nI j)), some (.ref 48), none] [] h Q := by
  obtain ⟨⟨r1, r2, r3, r4, r5, r6⟩, r7, r8, r9, r10, ⟨r11, r12, r13, r14⟩, r15, r16, ok⟩ := tI
  obtain ⟨c1, c2, c3, c4, c5, c6, c7⟩ := yd_cells hS hq
  have hYB : h.2[2 + 11 * q]? = some (.inl (7, yrdF (2 + 11 * q) (fI h (2 + 11 * q) 1) (nI B2) (fI h (2 + 11 * q) 9))) := by rw [← r4]; exact c1
  have w : rowAt h (2 + 11 * q + 1) 40000 R (iA h (2 + 11 * q + 2)) := ⟨by rw [← r2]; exact c2, c3, r1, by decide⟩
  exact c_readImage (P := P) hP (by omega) hYB w c4 c5 c7 hj8 r3 r6 r7 r8 r11 ok r15 r12 (at_48 hS) (at_49 hS) i2 hQ
set_option maxRecDepth 16384 in
theorem c_begin_b (hS : shape h) (hq : q < 2) (ok : yOK S) (cy : CY h (2 + 11 * q) S) (ry : RY h q S) (td : tdS S IM) (i2 : imS h 48 P) (hP : inj6 P) (w : rowAt h 45 600 n f) (hB : txA f n B) (hs : s < e) (he : e ≤ n)
    (hQ : ∀ x m h', frmR S IM B s e x m → imC h' 48 P m → frm (imA 48) h h' → shape h' → Q (.inl (some (.int (nI x)))) h') :
    px_Wp sx 133 0 [some (.ref 47), some (.ref (2 + 11 * q)), some (.ref 45), some (.int (nI s)), some (.int (nI e)), none] [] h Q := by
  have hw := (yOK_good ok).1
  have n600 := w.2.2.1
  have hl := hS.1
  have c48 : px_cls h 48 = some 6 := by unfold px_cls; rw [at_48 hS]
  -- the image cleared
  have e48 : (px_wr h 48 (.inl (6, [.ref 49, .int 0, .ref 50, .int (fI h 48 3)]))).2[48]? = some (.inl (6, [.ref 49, .int 0, .ref 50, .int (fI h 48 3)])) := by rw [wr_at, if_pos rfl, if_pos (by omega)]
  generalize hh : px_wr h 48 (.inl (6, [.ref 49, .int 0, .ref 50, .int 0])) = h1
  have hS1 : shape h1 := by
    have s1 := shape_int (k := 1) (y := 0) hS (at_48 hS) rfl
    have s2 := shape_int (k := 3) (y := 0) s1 e48 rfl
    rw [show (px_wr h 48 (.inl (6, List.set [.ref 49, .int (fI h 48 1), .ref 50, .int (fI h 48 3)] 1 (.int 0)))) = px_wr h 48 (.inl (6, [.ref 49, .int 0, .ref 50, .int (fI h 48 3)])) from rfl, px_wr_wr] at s2
    rw [← hh]; exact s2
  have fr1 : frm (imA 48) h h1 := by rw [← hh]; exact frm_wr (frm_refl _ _) ⟨by decide, by decide⟩
  have a1 : ∀ r, r ≠ 48 → h1.2[r]? = h.2[r]? := fun r hr => by rw [← hh, wr_at, if_neg (fun z => hr z.symm)]
  have b1 : h1.2[48]? = some (.inl (6, [.ref 49, .int 0, .ref 50, .int 0])) := by rw [← hh, wr_at, if_pos rfl, if_pos (by omega)]
  have w1 : rowAt h1 45 600 n f := ⟨by rw [a1 _ (by decide)]; exact w.1, by rw [a1 _ (by decide)]; exact w.2.1, w.2.2⟩
  have hcl : px_cls h1 45 = some 1 := by unfold px_cls; rw [w1.1]
  have i21 : imS h1 48 P := imS_up i2 (fun r x y => a1 r (by omega))
  have im1 : imC h1 48 P imE := ⟨i21, ⟨lA h 49, ⟨b1, by rw [a1 _ (by decide)]; exact at_49 hS⟩, fun i hi => absurd hi (Nat.not_lt_zero i)⟩, fun t ht => absurd ht (Nat.not_lt_zero t)⟩
  have cy1 : CY h1 (2 + 11 * q) S := CY_frm cy (fun r x y => a1 r (by omega))
  have ry1 : RY h1 q S := RY_frm ry (fun r x y => a1 r (by omega))
  simp only [pc133_0, pc133_0n, pc133_1, pc133_4, px_op_some, px_kv_ap, px_ki_ap, px_kl_ap, px_kn_ap, px_kh_ap, px_op_none, px_K_some, px_K_none, px_K_thr, px_kill, ↓reduceIte, if_true, if_false, true_and, and_true, px_gf, at_47 hS, List.getElem?_cons_zero, List.getElem?_cons_succ, c48]
  simp only [pc81_0, pc81_0n, pc81_1, pc81_2, pc81_5, pc81_5n, pc81_6, pc81_7, pc81_10, px_op_some, px_kv_ap, px_ki_ap, px_kl_ap, px_kn_ap, px_kh_ap, px_op_none, px_K_some, px_K_none, px_K_thr, px_kill, ↓reduceIte, if_true, if_false, true_and, and_true, px_pf, at_48 hS, e48, List.length_cons, List.length_nil, Nat.reduceAdd, Nat.reduceLT, px_fit, and_self, List.set_cons_succ, List.set_cons_zero, px_wr_wr, hh, pc133_7, pc133_7n, pc133_8, pc133_9, pc133_11, pc133_13, hcl]
  refine c_says w1 hB str_1 (by omega) he (fun x hx => ?_)
  rcases hx with ⟨rfl, g1⟩ | ⟨rfl, g1⟩
  · simp only [px_K_some, pc133_16, pc133_19, pc133_20, px_op_some, px_kv_ap, px_ki_ap, px_kl_ap, px_kn_ap, px_kh_ap, px_op_none, px_K_some, px_K_none, px_K_thr, px_kill, ↓reduceIte, if_true, if_false, true_and, and_true, ne_1_0]
    exact hQ 0 imE h1 (.inl ⟨g1, rfl, rfl⟩) im1 fr1 hS1
  have s1 : nI e - 1 = nI (e - 1) := nI_sub (b := 1) (by omega)
  simp only [px_K_some, pc133_16, pc133_19, pc133_20, pc133_21, pc133_21n, pc133_22, pc133_24, pc133_25, pc133_26, px_op_some, px_kv_ap, px_ki_ap, px_kl_ap, px_kn_ap, px_kh_ap, px_op_none, px_K_some, px_K_none, px_K_thr, px_kill, ↓reduceIte, if_true, if_false, true_and, and_true, hcl, s1]
  rw [r_atT w1 hB (by omega)]
  have bb := (hB (e - 1) (by omega)).2
  simp only [px_K_some, pc133_29, pc133_31, pc133_32, pc133_34, pc133_34n, pc133_35, pc133_36, pc133_38, pc133_39, pc133_40, pc133_42, px_op_some, px_kv_ap, px_ki_ap, px_kl_ap, px_kn_ap, px_kh_ap, px_op_none, px_K_some, px_K_none, px_K_thr, px_kill, ↓reduceIte, if_true, if_false, true_and, and_true, hcl, s1, px_kill]
  refine c_says w1 hB str_2 (by omega) (by omega) (fun x hx => ?_)
  rcases hx with ⟨rfl, g2⟩ | ⟨rfl, g2⟩
  · by_cases c1 : B (e - 1) < 48
    · have lt : nI (B (e - 1)) - 48 < 0 := (nI_sgn (b := 48) (by omega) (by decide)).1 c1
      simp only [px_K_some, pc133_45, pc133_48, pc133_50, pc133_60, pc133_61, px_op_some, px_kv_ap, px_ki_ap, px_kl_ap, px_kn_ap, px_kh_ap, px_op_none, px_K_some, px_K_none, px_K_thr, px_kill, ↓reduceIte, if_true, if_false, true_and, and_true, ne_1_0, lt]
      exact hQ 1 imE h1 (.inr (.inr ⟨g1, fun j z => by have := z.2.2.1; omega, rfl, rfl⟩)) im1 fr1 hS1
    have s2 : nI (B (e - 1)) - 48 = nI (B (e - 1) - 48) := nI_sub (b := 48) (by omega)
    have ng : ¬ nI (B (e - 1) - 48) < 0 := nI_pos (by omega)
    by_cases c2 : 8 ≤ B (e - 1) - 48
    · have lt : ¬ nI (B (e - 1) - 48) < 8 := nI_nlt (b := 8) c2 (by omega)
      simp only [px_K_some, pc133_45, pc133_48, pc133_50, pc133_53, pc133_55, pc133_57, pc133_60, pc133_61, px_op_some, px_kv_ap, px_ki_ap, px_kl_ap, px_kn_ap, px_kh_ap, px_op_none, px_K_some, px_K_none, px_K_thr, px_kill, ↓reduceIte, if_true, if_false, true_and, and_true, ne_1_0, s2, ng, lt]
      exact hQ 1 imE h1 (.inr (.inr ⟨g1, fun j z => by have := z.2.2.1; have := z.2.2.2; omega, rfl, rfl⟩)) im1 fr1 hS1
    have lt : nI (B (e - 1) - 48) < 8 := (nI_ltI (b := 8) (by omega) (by decide)).mpr (by omega)
    have i8 : px_in (nI (B (e - 1) - 48)) 8 = true := px_inb (by omega) (by decide)
    have c8 : (nI (B (e - 1) - 48)).toNatClampNeg = B (e - 1) - 48 := nI_clamp (by omega)
    have fT : fromT B s e (B (e - 1) - 48) := ⟨g2, hs, by omega, by omega⟩
    have cy1' := cy1
    obtain ⟨-, y1, -, -, -, -, -, -, -, T, t1, t2⟩ := cy1'
    unfold yrdF at y1
    have hcY : px_cls h1 (2 + 11 * q) = some 7 := by unfold px_cls; rw [y1]
    have tj := t2 (B (e - 1) - 48) (by omega)
    by_cases te : yT S (B (e - 1) - 48) = true
    · rw [if_pos te] at tj
      obtain ⟨k, nl, ns, pos, na, nv, k1, k2, k3, k4, k5⟩ := td _ (by omega) te
      obtain ⟨u, tI⟩ := inv_toldK (q := q) ok cy1 ry1 (by omega) te k1 k2 k3
      have a47 : h1.2[47]? = some (.inl (10, [.int (fI h 47 0), .int (fI h 47 1), .int (fI h 47 2), .int (fI h 47 3), .int (fI h 47 4), .int (fI h 47 5), .int (fI h 47 6), .long (fJ h 47 7), .ref 48, .ref 81, .ref 83, .ref 85, .ref 87, .ref 249, .ref 411, .ref 414])) := by rw [a1 _ (by decide)]; exact at_47 hS
      simp only [px_K_some, pc133_45, pc133_48, pc133_50, pc133_53, pc133_55, pc133_57, pc133_60, pc133_61, pc133_62, pc133_62n, pc133_63, pc133_66, pc133_68, pc133_69, pc133_72, pc133_73, pc133_74, pc133_74n, pc133_75, pc133_77, pc133_77n, pc133_78, pc133_81, px_op_some, px_kv_ap, px_ki_ap, px_kl_ap, px_kn_ap, px_kh_ap, px_op_none, px_K_some, px_K_none, px_K_thr, px_kill, ↓reduceIte, if_true, if_false, true_and, and_true, px_gf, px_ai, ne_1_0, s2, ng, lt, y1, t1, i8, c8, tj, a47, List.getElem?_cons_zero, List.getElem?_cons_succ, tg_b3, not_false_eq_true, and_self, hcY]
      refine c_readK hS1 hq (by omega) tI i21 hP (fun h2 tk => ?_)
      simp only [px_K_none, pc133_84, pc133_85, px_op_some, px_kv_ap, px_ki_ap, px_kl_ap, px_kn_ap, px_kh_ap, px_op_none, px_K_some, px_K_none, px_K_thr, px_kill, ↓reduceIte, if_true, if_false, true_and, and_true]
      refine hQ 0 (IM (B (e - 1) - 48)) h2 (.inr (.inl ⟨g1, _, fT, .inl ⟨te, rfl, rfl⟩⟩)) ?_ (frm_trans fr1 tk.1) (tk.2.1 hS1)
      rw [k5]
      exact imC_tk2 k3 (fun _ => bl_255 hw k1) tk
    · rw [if_neg te] at tj
      simp only [px_K_some, pc133_45, pc133_48, pc133_50, pc133_53, pc133_55, pc133_57, pc133_60, pc133_61, pc133_62, pc133_62n, pc133_63, pc133_66, pc133_68, pc133_69, pc133_72, pc133_73, px_op_some, px_kv_ap, px_ki_ap, px_kl_ap, px_kn_ap, px_kh_ap, px_op_none, px_K_some, px_K_none, px_K_thr, px_kill, ↓reduceIte, if_true, if_false, true_and, and_true, px_gf, px_ai, ne_1_0, s2, ng, lt, y1, t1, i8, c8, tj, List.getElem?_cons_zero, List.getElem?_cons_succ, tg_b3, not_true_eq_false, and_self]
      exact hQ 2 imE h1 (.inr (.inl ⟨g1, _, fT, .inr ⟨te, rfl, rfl⟩⟩)) im1 fr1 hS1
  · simp only [px_K_some, pc133_45, pc133_60, pc133_61, px_op_some, px_kv_ap, px_ki_ap, px_kl_ap, px_kn_ap, px_kh_ap, px_op_none, px_K_some, px_K_none, px_K_thr, px_kill, ↓reduceIte, if_true, if_false, true_and, and_true]
    exact hQ 1 imE h1 (.inr (.inr ⟨g1, fun j z => g2 z.1, rfl, rfl⟩)) im1 fr1 hS1
end BEGIN
