/-! A LINE WITH ITS SETTINGS FILLED IN, the class's -/
/-- the value of a setting; nothing if there is none of that name -/
noncomputable def vOf (m : aM) (q : Nat → Nat) : Nat × (Nat → Nat) := @dite (Nat × (Nat → Nat)) (∃ i, i < iS m ∧ iN m i = q) (Classical.propDecidable _) (fun h => (iVl m (Classical.choose h), iV m (Classical.choose h))) (fun _ => (0, fun _ => 0))
set_option maxRecDepth 16384 in
theorem vOf_in {m : aM} (ok : imOK m) {q : Nat → Nat} {i : Nat} (hi : i < iS m) (e : iN m i = q) : vOf m q = (iVl m i, iV m i) := by
  have w : ∃ i, i < iS m ∧ iN m i = q := ⟨i, hi, e⟩
  have c := Classical.choose_spec w
  have : Classical.choose w = i := imN_uniq ok c.1 hi (c.2.trans e.symm)
  unfold vOf
  rw [dif_pos w, this]
set_option maxRecDepth 16384 in
theorem vOf_no {m : aM} {q : Nat → Nat} (no : ∀ i, i < iS m → ¬ iN m i = q) : vOf m q = (0, fun _ => 0) := by
  unfold vOf
  rw [dif_neg (fun ⟨i, a, b⟩ => no i a b)]
set_option maxRecDepth 16384 in
theorem vOf_12 {m : aM} (ok : imOK m) {q : Nat → Nat} : (vOf m q).1 ≤ 12 ∧ ∀ k, k < (vOf m q).1 → (vOf m q).2 k < 256 := by
  rcases Classical.em (∃ i, i < iS m ∧ iN m i = q) with ⟨i, a, b⟩ | no
  · rw [vOf_in ok a b]; exact ⟨(ok.2.2.1 i a).1.2.2.2, (ok.2.2.1 i a).2.2⟩
  · rw [vOf_no (fun i a b => no ⟨i, a, b⟩)]; exact ⟨Nat.zero_le _, fun k hk => absurd hk (Nat.not_lt_zero k)⟩
/-- where small letters end -/
def lend (B : Nat → Nat) : Nat → Nat → Nat
  | q, 0 => q
  | q, d + 1 => if 97 ≤ B q ∧ B q ≤ 122 then lend B (q + 1) d else q
set_option maxRecDepth 16384 in
theorem lend_rng {B : Nat → Nat} : ∀ d q, q ≤ lend B q d ∧ lend B q d ≤ q + d
  | 0, q => ⟨Nat.le_refl _, Nat.le_refl _⟩
  | d + 1, q => by
    have := lend_rng (B := B) d (q + 1)
    unfold lend
    split <;> omega
set_option maxRecDepth 16384 in
theorem lend_all {B : Nat → Nat} : ∀ d q j, q ≤ j → j < lend B q d → 97 ≤ B j ∧ B j ≤ 122
  | 0, q, j, h1, h2 => absurd h2 (by unfold lend; omega)
  | d + 1, q, j, h1, h2 => by
    unfold lend at h2
    by_cases e : 97 ≤ B q ∧ B q ≤ 122
    · rw [if_pos e] at h2
      by_cases x : j = q
      · subst x; exact e
      · exact lend_all d (q + 1) j (by omega) h2
    · rw [if_neg e] at h2; omega
def cat (o v : Nat × (Nat → Nat)) : Nat × (Nat → Nat) := (o.1 + v.1, fun j => if j < o.1 then o.2 j else v.2 (j - o.1))
set_option maxRecDepth 16384 in
theorem cat_le (o v : Nat × (Nat → Nat)) : o.1 ≤ (cat o v).1 := Nat.le_add_right _ _
/-- the signs of a line, filled in -/
noncomputable def flF (B : Nat → Nat) (m : aM) (e : Nat) : Nat → Nat → Nat × (Nat → Nat) → Nat × (Nat → Nat)
  | 0, _, o => o
  | f + 1, p, o => if e ≤ p then o else if B p = 36 then flF B m e f (lend B (p + 1) (min (e - (p + 1)) 8)) (cat o (vOf m (patF B (p + 1) (lend B (p + 1) (min (e - (p + 1)) 8) - (p + 1))))) else flF B m e f (p + 1) (cat o (1, fun _ => B p))
set_option maxRecDepth 16384 in
theorem flF_mono {B : Nat → Nat} {m : aM} {e : Nat} : ∀ f p o, o.1 ≤ (flF B m e f p o).1
  | 0, p, o => Nat.le_refl _
  | f + 1, p, o => by
    unfold flF
    by_cases x : e ≤ p
    · rw [if_pos x]; exact Nat.le_refl _
    · rw [if_neg x]
      by_cases y : B p = 36
      · rw [if_pos y]; exact Nat.le_trans (cat_le _ _) (flF_mono f _ _)
      · rw [if_neg y]; exact Nat.le_trans (cat_le _ _) (flF_mono f _ _)
set_option maxRecDepth 16384 in
theorem flF_end {B : Nat → Nat} {m : aM} {e p : Nat} {o : Nat × (Nat → Nat)} (h : e ≤ p) : ∀ f, flF B m e f p o = o
  | 0 => rfl
  | f + 1 => by unfold flF; rw [if_pos h]
set_option maxRecDepth 16384 in
theorem cat_txA {fl F : Nat → Int32} {o v : Nat × (Nat → Nat)} (h1 : txA fl o.1 o.2) (h2 : txA F v.1 v.2) : txA (va_cpy F fl 0 o.1 v.1) (cat o v).1 (cat o v).2 := fun j hj => by
  have hj : j < o.1 + v.1 := hj
  show va_cpy F fl 0 o.1 v.1 j &&& 255 = nI (if j < o.1 then o.2 j else v.2 (j - o.1)) ∧ (if j < o.1 then o.2 j else v.2 (j - o.1)) < 256
  unfold va_cpy
  by_cases x : j < o.1
  · rw [if_neg (by omega), if_pos x]; exact h1 j x
  · rw [if_pos ⟨by omega, by omega⟩, if_neg x, Nat.zero_add]; exact h2 _ (by omega)
set_option maxRecDepth 16384 in
theorem cat_add {fl : Nat → Int32} {o : Nat × (Nat → Nat)} {b : Nat} (h1 : txA fl o.1 o.2) (hb : b < 256) : txA (px_up fl o.1 (by8 (nI b))) (cat o (1, fun _ => b)).1 (cat o (1, fun _ => b)).2 := fun j hj => by
  have hj : j < o.1 + 1 := hj
  show px_up fl o.1 (by8 (nI b)) j &&& 255 = nI (if j < o.1 then o.2 j else b) ∧ (if j < o.1 then o.2 j else b) < 256
  by_cases x : j < o.1
  · rw [up_ne (by omega), if_pos x]; exact h1 j x
  · rw [show j = o.1 by omega, up_same, if_neg (Nat.lt_irrefl _), by_255, nI_small hb]; exact ⟨rfl, hb⟩
section FILL
variable {sx : Nat × (Nat → Int32)} {h : px_H} {n s e : Nat} {f : Nat → Int32} {B : Nat → Nat} {P : Nat → Nat} {m : aM} {Q : px_O → px_H → Prop}
set_option maxRecDepth 16384 in
theorem imC_frm {h' : px_H} {I : Nat} (w : imC h I P m) (e : ∀ r, imA I r → h'.2[r]? = h.2[r]?) (ok : imOK m) : imC h' I P m := by
  obtain ⟨i2, ⟨L, ⟨o1, o2⟩, o3⟩, rows⟩ := w
  have i2' := i2
  obtain ⟨sf, s1, s2⟩ := i2'
  refine ⟨imS_up i2 (fun r a b => e r ⟨by omega, by omega⟩), ⟨L, ⟨by rw [e _ ⟨by omega, by omega⟩]; exact o1, by rw [e _ ⟨by omega, by omega⟩]; exact o2⟩, o3⟩, fun s hs => ?_⟩
  obtain ⟨F, G, u1, u2, u3, u4⟩ := rows s hs
  have := (s2 s (by have := ok.2.1; omega)).2.1
  exact ⟨F, G, ⟨by rw [e _ ⟨by omega, by omega⟩]; exact u1.1, by rw [e _ ⟨by omega, by omega⟩]; exact u1.2.1, u1.2.2⟩, u2, ⟨by rw [e _ ⟨by omega, by omega⟩]; exact u3.1, by rw [e _ ⟨by omega, by omega⟩]; exact u3.2.1, u3.2.2⟩, u4⟩
set_option maxRecDepth 16384 in
theorem c_lend_l {l2 l6 l7 : Option Value} {p : Nat} (w : rowAt h 45 600 n f) (hB : txA f n B) (he : e ≤ n)
    (hQ : px_Wp sx 136 95 [some (.ref 47), some (.ref 45), l2, some (.int (nI e)), some (.int (nI (lend B (p + 1) (min (e - (p + 1)) 8)))), some (.int (nI p)), l6, l7] [] h Q) :
    ∀ d q, lend B (p + 1) (min (e - (p + 1)) 8) = lend B q d → d = min (e - q) (p + 9 - q) → p + 1 ≤ q → q ≤ p + 9 → q ≤ e → px_Wp sx 136 64 [some (.ref 47), some (.ref 45), l2, some (.int (nI e)), some (.int (nI q)), some (.int (nI p)), l6, l7] [] h Q := by
  have hN := w.2.2
  have hcl : px_cls h 45 = some 1 := by unfold px_cls; rw [w.1]
  intro d
  induction d with
  | zero =>
    intro q hq hd h1 h2 h3
    rw [hq] at hQ
    by_cases x : q = e
    · have le : nI e ≤ nI q := nI_le (by omega) (by omega)
      simp only [pc136_64, pc136_66, pc136_67, px_op_some, px_kv_ap, px_ki_ap, px_kl_ap, px_kn_ap, px_kh_ap, px_op_none, px_K_some, px_K_none, px_K_thr, px_kill, ↓reduceIte, if_true, if_false, true_and, and_true, le]
      exact hQ
    · have ge : ¬ nI e ≤ nI q := nI_ge (by omega) (by omega)
      have sb : nI q - nI p = nI (q - p) := nI_sub (by omega)
      have lt : 8 < nI (q - p) := (nI_ltI (a := 8) (by decide) (by omega)).mpr (by omega)
      simp only [pc136_64, pc136_66, pc136_67, pc136_70, pc136_72, pc136_74, pc136_75, pc136_77, px_op_some, px_kv_ap, px_ki_ap, px_kl_ap, px_kn_ap, px_kh_ap, px_op_none, px_K_some, px_K_none, px_K_thr, px_kill, ↓reduceIte, if_true, if_false, true_and, and_true, ge, sb, lt]
      exact hQ
  | succ d ih =>
    intro q hq hd h1 h2 h3
    have ge : ¬ nI e ≤ nI q := nI_ge (by omega) (by omega)
    have sb : nI q - nI p = nI (q - p) := nI_sub (by omega)
    have lt : ¬ 8 < nI (q - p) := nI_nlt (a := 8) (by omega) (by decide)
    simp only [pc136_64, pc136_66, pc136_67, pc136_70, pc136_72, pc136_74, pc136_75, pc136_77, pc136_80, pc136_80n, pc136_81, pc136_83, px_op_some, px_kv_ap, px_ki_ap, px_kl_ap, px_kn_ap, px_kh_ap, px_op_none, px_K_some, px_K_none, px_K_thr, px_kill, ↓reduceIte, if_true, if_false, true_and, and_true, ge, sb, lt, hcl]
    refine c_small w hB (by omega) (fun x hx => ?_)
    have ls : lend B q (d + 1) = if 97 ≤ B q ∧ B q ≤ 122 then lend B (q + 1) d else q := rfl
    rw [ls] at hq
    rcases hx with ⟨rfl, y⟩ | ⟨rfl, y⟩
    · rw [if_pos y] at hq
      simp only [px_K_some, pc136_86, pc136_89, pc136_92, px_op_some, px_kv_ap, px_ki_ap, px_kl_ap, px_kn_ap, px_kh_ap, px_op_none, px_K_some, px_K_none, px_K_thr, px_kill, ↓reduceIte, if_true, if_false, true_and, and_true, px_kill, ne_1_0, nI_p1]
      exact ih (q + 1) hq (by omega) (by omega) (by omega) (by omega)
    · rw [if_neg y] at hq
      rw [hq] at hQ
      simp only [px_K_some, pc136_86, px_op_some, px_kv_ap, px_ki_ap, px_kl_ap, px_kn_ap, px_kh_ap, px_op_none, px_K_some, px_K_none, px_K_thr, px_kill, ↓reduceIte, if_true, if_false, true_and, and_true]
      exact hQ
/-- the cells that filling in touches -/
def fiA (r : Nat) : Prop := r = 83 ∨ r = 84
set_option maxRecDepth 16384 in
theorem c_fill_l {R : Nat × (Nat → Nat)} {l2 : Option Value} (hS : shape h) (im : imC h 48 P m) (ok : imOK m) (w : rowAt h 45 600 n f) (hB : txA f n B) (he : e ≤ n)
    (hQ1 : ∀ h1 fl, rowAt h1 83 200 R.1 fl → txA fl R.1 R.2 → frm fiA h h1 → shape h1 → R.1 ≤ 200 → Q (.inl (some (.int 1))) h1) (hQ0 : ∀ h1, ¬ R.1 ≤ 200 → frm fiA h h1 → shape h1 → Q (.inl (some (.int 0))) h1) :
    ∀ fu p o h1 fl l5 l6 l7, p ≤ e → e - p ≤ fu → flF B m e fu p o = R → rowAt h1 83 200 o.1 fl → txA fl o.1 o.2 → frm fiA h h1 → shape h1 → px_Wp sx 136 11 [some (.ref 47), some (.ref 45), l2, some (.int (nI e)), some (.int (nI p)), l5, l6, l7] [] h1 Q := by
  have hN := w.2.2
  intro fu
  induction fu with
  | zero =>
    intro p o h1 fl l5 l6 l7 hp hf hR wl hl fr hS1
    have hR : o = R := hR
    subst hR
    have le : nI e ≤ nI p := nI_le (by omega) (by omega)
    simp only [pc136_11, pc136_13, pc136_14, pc136_166, pc136_167, px_op_some, px_kv_ap, px_ki_ap, px_kl_ap, px_kn_ap, px_kh_ap, px_op_none, px_K_some, px_K_none, px_K_thr, px_kill, ↓reduceIte, if_true, if_false, true_and, and_true, le, nar_1]
    exact hQ1 h1 fl wl hl fr hS1 wl.2.2.1
  | succ fu ih =>
    intro p o h1 fl l5 l6 l7 hp hf hR wl hl fr hS1
    by_cases x : e ≤ p
    · rw [flF_end x] at hR
      subst hR
      have le : nI e ≤ nI p := nI_le (by omega) (by omega)
      simp only [pc136_11, pc136_13, pc136_14, pc136_166, pc136_167, px_op_some, px_kv_ap, px_ki_ap, px_kl_ap, px_kn_ap, px_kh_ap, px_op_none, px_K_some, px_K_none, px_K_thr, px_kill, ↓reduceIte, if_true, if_false, true_and, and_true, le, nar_1]
      exact hQ1 h1 fl wl hl fr hS1 wl.2.2.1
    have ge : ¬ nI e ≤ nI p := nI_ge (by omega) (by omega)
    have w1 : rowAt h1 45 600 n f := frm_rowAt fr (by unfold fiA; omega) (by unfold fiA; omega) w
    have hcl : px_cls h1 45 = some 1 := by unfold px_cls; rw [w1.1]
    have hc83 : px_cls h1 83 = some 1 := by unfold px_cls; rw [wl.1]
    have im1 : imC h1 48 P m := imC_frm im (fun r hr => fr.2.2 r (by unfold imA at hr; unfold fiA; omega)) ok
    have bp := hB p (by omega)
    have o200 := wl.2.2.1
    unfold flF at hR
    rw [if_neg x] at hR
    rw [pc136_11]
    simp only [pc136_13, pc136_14, pc136_17, pc136_19, pc136_21, pc136_24, pc136_24n, pc136_25, pc136_27, px_op_some, px_kv_ap, px_ki_ap, px_kl_ap, px_kn_ap, px_kh_ap, px_op_none, px_K_some, px_K_none, px_K_thr, px_kill, ↓reduceIte, if_true, if_false, true_and, and_true, px_kill, ge, hcl, nI_p1]
    rw [r_atT w1 hB (by omega)]
    by_cases d36 : B p = 36
    · rw [if_pos d36] at hR
      have e36 : nI (B p) = 36 := by rw [d36]; rfl
      obtain ⟨t1, t2⟩ := lend_rng (B := B) (min (e - (p + 1)) 8) (p + 1)
      have tl := lend_all (B := B) (min (e - (p + 1)) 8) (p + 1)
      simp only [px_K_some, pc136_30, pc136_32, px_op_some, px_kv_ap, px_ki_ap, px_kl_ap, px_kn_ap, px_kh_ap, px_op_none, px_K_some, px_K_none, px_K_thr, px_kill, ↓reduceIte, if_true, if_false, true_and, and_true, e36]
      refine c_lend_l w1 hB he ?_ (min (e - (p + 1)) 8) (p + 1) rfl (by omega) (Nat.le_refl _) (by omega) (by omega)
      generalize lend B (p + 1) (min (e - (p + 1)) 8) = q at hR t1 t2 tl ⊢
      have c48 : px_cls h1 48 = some 6 := by unfold px_cls; rw [at_48 hS1]
      simp only [pc136_95, pc136_95n, pc136_96, pc136_99, pc136_99n, pc136_100, pc136_102, pc136_103, pc136_104, pc136_106, px_op_some, px_kv_ap, px_ki_ap, px_kl_ap, px_kn_ap, px_kh_ap, px_op_none, px_K_some, px_K_none, px_K_thr, px_kill, ↓reduceIte, if_true, if_false, true_and, and_true, px_gf, at_47 hS1, List.getElem?_cons_zero, List.getElem?_cons_succ, c48, nI_p1]
      have go := c_isearch (sx := sx) (Q := px_K sx 136 109 [some (.ref 47), some (.ref 45), l2, some (.int (nI e)), some (.int (nI q)), some (.int (nI p)), l6, l7] [] Q) (s := p + 1) (c := q - (p + 1)) im1 ok w1 hB (ltr_pat (fun j hj => tl _ (by omega) (by omega))) (by omega) (fun y hy => ?_)
      · rw [show p + 1 + (q - (p + 1)) = q by omega] at go
        exact go
      · rcases hy with ⟨i, hi, rfl, ei⟩ | ⟨g, hg, rfl⟩
        · have i6 := ok.2.1
          rw [vOf_in ok hi ei] at hR
          have ng : ¬ nI i < 0 := nI_pos (by omega)
          have ii : px_in (nI i) 6 = true := px_inb (by omega) (by decide)
          have ci : (nI i).toNatClampNeg = i := nI_clamp (by omega)
          obtain ⟨⟨sf, s1, s2⟩, ⟨L, ⟨o1, o2⟩, o3⟩, rows⟩ := im1
          obtain ⟨z1, z2, z3, -⟩ := s2 i (by omega)
          obtain ⟨F, G, u1, u2, u3, u4⟩ := rows i hi
          have u31 := u3.1
          simp only [px_K_some, pc136_109, pc136_111, pc136_113, pc136_116, pc136_116n, pc136_117, pc136_120, pc136_123, pc136_125, pc136_126, pc136_129, pc136_129n, pc136_131, pc136_131n, pc136_132, pc136_135, pc136_135n, pc136_137, pc136_140, px_op_some, px_kv_ap, px_ki_ap, px_kl_ap, px_kn_ap, px_kh_ap, px_op_none, px_K_some, px_K_none, px_K_thr, px_kill, ↓reduceIte, if_true, if_false, true_and, and_true, px_gf, px_aa, at_47 hS1, o1, s1, List.getElem?_cons_zero, List.getElem?_cons_succ, ng, ii, ci, z1, z3, u31, px_rf, tg_15, Nat.reduceLeDiff, and_self, px_kill, hc83]
          rw [r_hasRoom wl]
          have l12 := (ok.2.2.1 i hi).1.2.2.2
          by_cases rm : 200 - o.1 < iVl m i
          · rw [if_pos (nI_lt rm (by omega))]
            simp only [px_K_some, pc136_143, pc136_146, pc136_147, px_op_some, px_kv_ap, px_ki_ap, px_kl_ap, px_kn_ap, px_kh_ap, px_op_none, px_K_some, px_K_none, px_K_thr, px_kill, ↓reduceIte, if_true, if_false, true_and, and_true, not_true_eq_false, nar_0]
            refine hQ0 h1 (fun z => ?_) fr hS1
            have := flF_mono (B := B) (m := m) (e := e) fu q (cat o (iVl m i, iV m i))
            rw [hR] at this
            have cc : (cat o (iVl m i, iV m i)).1 = o.1 + iVl m i := rfl
            omega
          · rw [if_neg (nI_nlt (by omega) (by omega))]
            simp only [px_K_some, pc136_143, pc136_146, pc136_147, pc136_148, pc136_148n, pc136_149, pc136_152, pc136_152n, pc136_154, pc136_155, pc136_155n, pc136_157, pc136_160, px_op_some, px_kv_ap, px_ki_ap, px_kl_ap, px_kn_ap, px_kh_ap, px_op_none, px_K_some, px_K_none, px_K_thr, px_kill, ↓reduceIte, if_true, if_false, true_and, and_true, px_gf, at_47 hS1, u31, List.getElem?_cons_zero, List.getElem?_cons_succ, ne_1_0, not_false_eq_true, hc83]
            refine r_addAll (s := 0) wl u3 (by omega) (by omega) (by omega) (by omega) (by omega) ?_
            simp only [px_K_none, pc136_163, px_op_some, px_kv_ap, px_ki_ap, px_kl_ap, px_kn_ap, px_kh_ap, px_op_none, px_K_some, px_K_none, px_K_thr, px_kill, ↓reduceIte, if_true, if_false, true_and, and_true]
            exact ih q _ _ _ _ _ _ (by omega) (by omega) hR (rowAt_rowH (rowAt_lt wl) (by show o.1 + iVl m i ≤ 200; omega) (by decide)) (cat_txA (v := (iVl m i, iV m i)) hl u4) (frm_row fr (.inl rfl) (.inr rfl)) (shape_row hS1 wl)
        · have i6 := ok.2.1
          have g6 := hg.1
          rw [vOf_no (gapN_no hg)] at hR
          have neg : -1 - nI g < 0 := by
            rw [Int32.lt_iff_toInt_lt, Int32.toInt_sub, nI_toInt (by omega), show (-1 : Int32).toInt = -1 by decide, show (0 : Int32).toInt = 0 from rfl, Int.bmod_eq_of_le (by omega) (by omega)]
            omega
          simp only [px_K_some, pc136_109, pc136_111, pc136_113, pc136_163, px_op_some, px_kv_ap, px_ki_ap, px_kl_ap, px_kn_ap, px_kh_ap, px_op_none, px_K_some, px_K_none, px_K_thr, px_kill, ↓reduceIte, if_true, if_false, true_and, and_true, px_kill, neg]
          have ce : cat o (0, fun _ => 0) = (o.1, fun j => if j < o.1 then o.2 j else 0) := rfl
          refine ih q _ _ _ _ _ _ (by omega) (by omega) hR wl (fun j hj => ?_) fr hS1
          have hj : j < o.1 := hj
          show fl j &&& 255 = nI (if j < o.1 then o.2 j else 0) ∧ (if j < o.1 then o.2 j else 0) < 256
          rw [if_pos hj]; exact hl j hj
    · rw [if_neg d36] at hR
      have e36 : ¬ nI (B p) = 36 := fun z => d36 ((nI_eq (b := 36) (by omega) (by decide)).mp z)
      simp only [px_K_some, pc136_30, pc136_32, pc136_35, pc136_35n, pc136_36, pc136_39, pc136_40, px_op_some, px_kv_ap, px_ki_ap, px_kl_ap, px_kn_ap, px_kh_ap, px_op_none, px_K_some, px_K_none, px_K_thr, px_kill, ↓reduceIte, if_true, if_false, true_and, and_true, px_gf, at_47 hS1, List.getElem?_cons_zero, List.getElem?_cons_succ, e36, hc83]
      rw [r_hasRoom wl]
      by_cases rm : 200 - o.1 < 1
      · rw [if_pos (show nI (200 - o.1) < 1 from nI_lt (b := 1) rm (by decide))]
        simp only [px_K_some, pc136_43, pc136_46, pc136_47, px_op_some, px_kv_ap, px_ki_ap, px_kl_ap, px_kn_ap, px_kh_ap, px_op_none, px_K_some, px_K_none, px_K_thr, px_kill, ↓reduceIte, if_true, if_false, true_and, and_true, not_true_eq_false, nar_0]
        refine hQ0 h1 (fun z => ?_) fr hS1
        have := flF_mono (B := B) (m := m) (e := e) fu (p + 1) (cat o (1, fun _ => B p))
        rw [hR] at this
        have cc : (cat o (1, fun _ => B p)).1 = o.1 + 1 := rfl
        omega
      · rw [if_neg (show ¬ nI (200 - o.1) < 1 from nI_nlt (b := 1) (by omega) (by omega))]
        simp only [px_K_some, pc136_43, pc136_46, pc136_47, pc136_48, pc136_48n, pc136_49, pc136_52, pc136_52n, pc136_53, pc136_55, px_op_some, px_kv_ap, px_ki_ap, px_kl_ap, px_kn_ap, px_kh_ap, px_op_none, px_K_some, px_K_none, px_K_thr, px_kill, ↓reduceIte, if_true, if_false, true_and, and_true, px_gf, at_47 hS1, List.getElem?_cons_zero, List.getElem?_cons_succ, ne_1_0, not_false_eq_true, hcl]
        rw [r_atT w1 hB (by omega)]
        simp only [px_K_some, pc136_58, px_op_some, px_kv_ap, px_ki_ap, px_kl_ap, px_kn_ap, px_kh_ap, px_op_none, px_K_some, px_K_none, px_K_thr, px_kill, ↓reduceIte, if_true, if_false, true_and, and_true, hc83]
        rw [r_add wl (by omega)]
        simp only [px_K_none, pc136_61, px_op_some, px_kv_ap, px_ki_ap, px_kl_ap, px_kn_ap, px_kh_ap, px_op_none, px_K_some, px_K_none, px_K_thr, px_kill, ↓reduceIte, if_true, if_false, true_and, and_true]
        exact ih (p + 1) _ _ _ _ _ _ (by omega) (by omega) hR (rowAt_rowH (f := px_up fl o.1 (by8 (nI (B p)))) (rowAt_lt wl) (by show o.1 + 1 ≤ 200; omega) (by decide)) (cat_add hl bp.2) (frm_row fr (.inl rfl) (.inr rfl)) (shape_row hS1 wl)
set_option maxRecDepth 16384 in
theorem c_fillIn (hS : shape h) (im : imC h 48 P m) (ok : imOK m) (w : rowAt h 45 600 n f) (hB : txA f n B) (hs : s ≤ e) (he : e ≤ n)
    (hQ1 : ∀ h1 fl, rowAt h1 83 200 (flF B m e (e - s) s (0, fun _ => 0)).1 fl → txA fl (flF B m e (e - s) s (0, fun _ => 0)).1 (flF B m e (e - s) s (0, fun _ => 0)).2 → frm fiA h h1 → shape h1 → (flF B m e (e - s) s (0, fun _ => 0)).1 ≤ 200 → Q (.inl (some (.int 1))) h1)
    (hQ0 : ∀ h1, ¬ (flF B m e (e - s) s (0, fun _ => 0)).1 ≤ 200 → frm fiA h h1 → shape h1 → Q (.inl (some (.int 0))) h1) :
    px_Wp sx 136 0 [some (.ref 47), some (.ref 45), some (.int (nI s)), some (.int (nI e)), none, none, none, none] [] h Q := by
  have l83 : 83 < h.2.length := by have := hS.1; omega
  have wl : rowAt (px_wr h 83 (.inl (1, [.ref 84, .int 0]))) 83 200 0 (iA h 84) := ⟨by rw [wr_at, if_pos rfl, if_pos l83]; rfl, by rw [wr_at, if_neg (by decide)]; exact at_84 hS, by decide, by decide⟩
  simp only [pc136_0, pc136_0n, pc136_1, pc136_4, pc136_5, pc136_8, pc136_9, px_op_some, px_kv_ap, px_ki_ap, px_kl_ap, px_kn_ap, px_kh_ap, px_op_none, px_K_some, px_K_none, px_K_thr, px_kill, ↓reduceIte, if_true, if_false, true_and, and_true, px_gf, px_pf, at_47 hS, at_83 hS, List.getElem?_cons_zero, List.getElem?_cons_succ, List.length_cons, List.length_nil, Nat.reduceAdd, Nat.reduceLT, px_fit, and_self, List.set_cons_succ, List.set_cons_zero, px_kill]
  exact c_fill_l hS im ok w hB he hQ1 hQ0 (e - s) s (0, fun _ => 0) _ _ _ _ _ hs (Nat.le_refl _) rfl wl (fun j hj => absurd hj (Nat.not_lt_zero j)) (frm_wr (frm_refl _ _) (.inl rfl)) (shape_int (k := 1) hS (at_83 hS) rfl)
end FILL
