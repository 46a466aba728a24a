/-! A LINE WITH ITS SETTINGS FILLED IN, the reference's -/
def suA (r : Nat) : Prop := r = 619 ∨ r = 654
def suS (h h1 : px_H) (V : Nat → Int32) (o : Nat × (Nat → Nat)) : Prop := ∃ V1 T, h1.2[619]? = some (.inl (11, modF V1)) ∧ V1 47 = nI o.1 ∧ (∀ j, j ≠ 47 → V1 j = V j) ∧ h1.2[654]? = some (.inr (1, 9000, .inl T)) ∧ txM T o.1 o.2 ∧ frm suA h h1 ∧ (shape h → shape h1)
set_option maxRecDepth 16384 in
theorem su_put {h h1 : px_H} {V V1 T : Nat → Int32} {o o' : Nat × (Nat → Nat)} {b : Nat} (a1 : h1.2[619]? = some (.inl (11, modF V1))) (a3 : ∀ j, j ≠ 47 → V1 j = V j) (a4 : h1.2[654]? = some (.inr (1, 9000, .inl T))) (a5 : txM T o.1 o.2) (a6 : frm suA h h1) (a7 : shape h → shape h1) (hb : b < 256) (e1 : o'.1 = o.1 + 1) (e2 : ∀ j, j < o.1 → o'.2 j = o.2 j) (e3 : o'.2 o.1 = b) :
    suS h (px_wr (px_wr h1 654 (.inr (1, 9000, .inl (px_up T o.1 (nI b))))) 619 (.inl (11, modF (px_up V1 47 (nI (o.1 + 1)))))) V o' := by
  have l6 : 619 < h1.2.length := (List.getElem?_eq_some_iff.mp a1).1
  have l4 : 654 < h1.2.length := (List.getElem?_eq_some_iff.mp a4).1
  refine ⟨px_up V1 47 (nI (o.1 + 1)), px_up T o.1 (nI b), by rw [wr_at, if_pos rfl, if_pos (by rw [px_wr_len]; exact l6)], by rw [up_same, e1], fun j hj => by rw [up_ne hj]; exact a3 j hj, by rw [wr_at, if_neg (by decide), wr_at, if_pos rfl, if_pos l4], fun j hj => ?_, frm_wr (frm_wr a6 (.inr rfl)) (.inl rfl), fun z => ?_⟩
  · rw [e1] at hj
    by_cases x : j = o.1
    · subst x; rw [up_same, e3]; exact ⟨rfl, hb⟩
    · rw [up_ne x, e2 j (by omega)]; exact a5 j (by omega)
  · exact shape_int (r := 619) (k := 47) (shape_ia (a7 z) a4) (by rw [wr_at, if_neg (by decide)]; exact a1) rfl
section SUBST
variable {sx : Nat × (Nat → Int32)} {h : px_H} {V g : Nat → Int32} {n s e : Nat} {B : Nat → Nat} {m : aM} {Q : px_O → px_H → Prop}
set_option maxRecDepth 16384 in
theorem imR_su {h1 : px_H} {V1 : Nat → Int32} (im : imR h V m) (a3 : ∀ j, j ≠ 47 → V1 j = V j) (a6 : frm suA h h1) : imR h1 V1 m := by
  obtain ⟨v1, v2, L, NM, NS, VL, VS, d9, d0, d1, d2, d3, oL, rows⟩ := im
  exact ⟨by rw [a3 _ (by decide)]; exact v1, by rw [a3 _ (by decide)]; exact v2, L, NM, NS, VL, VS, frm_at a6 (by unfold suA; omega) d9, frm_at a6 (by unfold suA; omega) d0, frm_at a6 (by unfold suA; omega) d1, frm_at a6 (by unfold suA; omega) d2, frm_at a6 (by unfold suA; omega) d3, oL, rows⟩
set_option maxRecDepth 16384 in
theorem m_lend_l {l1 l5 l6 : Option Value} {p : Nat} {V1 : Nat → Int32} (h6 : h.2[619]? = some (.inl (11, modF V1))) (hA : h.2[620]? = some (.inr (1, 600, .inl g))) (hB : txM g n B) (hn : n ≤ 600) (he : e ≤ n)
    (hQ : px_Wp sx 165 93 [some (.ref 619), l1, some (.int (nI e)), some (.int (nI p)), some (.int (nI (lend B (p + 1) (min (e - (p + 1)) 8)))), l5, l6] [] h Q) :
    ∀ d q, lend B (p + 1) (min (e - (p + 1)) 8) = lend B q d → d = min (e - q) (p + 9 - q) → p + 1 ≤ q → q ≤ p + 9 → q ≤ e → px_Wp sx 165 59 [some (.ref 619), l1, some (.int (nI e)), some (.int (nI p)), some (.int (nI q)), l5, l6] [] h Q := by
  have p9 : nI p + 9 = nI (p + 9) := nI_add p 9
  intro d
  induction d with
  | zero =>
    intro q hq hd h1 h2 h3
    rw [hq] at hQ
    by_cases x : q = e
    · have le : nI e ≤ nI q := nI_le (by omega) (by omega)
      simp only [pc165_59, pc165_61, pc165_62, px_op_some, px_kv_ap, px_ki_ap, px_kl_ap, px_kn_ap, px_kh_ap, px_op_none, px_K_some, px_K_none, px_K_thr, px_kill, ↓reduceIte, if_true, if_false, true_and, and_true, le]
      exact hQ
    · have ge : ¬ nI e ≤ nI q := nI_ge (by omega) (by omega)
      have le : nI (p + 9) ≤ nI q := nI_le (by omega) (by omega)
      simp only [pc165_59, pc165_61, pc165_62, pc165_65, pc165_67, pc165_68, pc165_70, pc165_71, px_op_some, px_kv_ap, px_ki_ap, px_kl_ap, px_kn_ap, px_kh_ap, px_op_none, px_K_some, px_K_none, px_K_thr, px_kill, ↓reduceIte, if_true, if_false, true_and, and_true, ge, p9, le]
      exact hQ
  | succ d ih =>
    intro q hq hd h1 h2 h3
    have ge : ¬ nI e ≤ nI q := nI_ge (by omega) (by omega)
    have ge2 : ¬ nI (p + 9) ≤ nI q := nI_ge (by omega) (by omega)
    have ii : px_in (nI q) 600 = true := px_inb (by omega) (by decide)
    have ci : (nI q).toNatClampNeg = q := nI_clamp (by omega)
    obtain ⟨b1, b2⟩ := hB q (by omega)
    simp only [pc165_59, pc165_61, pc165_62, pc165_65, pc165_67, pc165_68, pc165_70, pc165_71, pc165_74, pc165_74n, pc165_75, pc165_78, pc165_80, pc165_81, px_op_some, px_kv_ap, px_ki_ap, px_kl_ap, px_kn_ap, px_kh_ap, px_op_none, px_K_some, px_K_none, px_K_thr, px_kill, ↓reduceIte, if_true, if_false, true_and, and_true, px_gf, px_ai, h6, mf_1, hA, ge, p9, ge2, ii, ci, b1, tg_i1, and_self]
    refine m_isSmall (by omega) (fun x hx => ?_)
    have ls : lend B q (d + 1) = if 97 ≤ B q ∧ B q ≤ 122 then lend B (q + 1) d else q := rfl
    rw [ls] at hq
    rcases hx with ⟨rfl, y⟩ | ⟨rfl, y⟩
    · rw [if_pos y] at hq
      simp only [px_K_some, pc165_84, pc165_87, pc165_90, px_op_some, px_kv_ap, px_ki_ap, px_kl_ap, px_kn_ap, px_kh_ap, px_op_none, px_K_some, px_K_none, px_K_thr, px_kill, ↓reduceIte, if_true, if_false, true_and, and_true, px_kill, ne_1_0, nI_p1]
      exact ih (q + 1) hq (by omega) (by omega) (by omega) (by omega)
    · rw [if_neg y] at hq
      rw [hq] at hQ
      simp only [px_K_some, pc165_84, px_op_some, px_kv_ap, px_ki_ap, px_kl_ap, px_kn_ap, px_kh_ap, px_op_none, px_K_some, px_K_none, px_K_thr, px_kill, ↓reduceIte, if_true, if_false, true_and, and_true]
      exact hQ
set_option maxRecDepth 16384 in
theorem m_val_l {l1 l3 : Option Value} {i q : Nat} {o : Nat × (Nat → Nat)} (im : imR h V m) (ok : imOK m) (hi : i < iS m) (ho : o.1 ≤ 8000)
    (hQ : ∀ h1 l6, suS h h1 V (cat o (iVl m i, iV m i)) → px_Wp sx 165 178 [some (.ref 619), l1, some (.int (nI e)), l3, some (.int (nI q)), some (.int (nI i)), l6] [] h1 Q) :
    ∀ d k, k + d = iVl m i → ∀ h1, suS h h1 V (cat o (k, iV m i)) → px_Wp sx 165 123 [some (.ref 619), l1, some (.int (nI e)), l3, some (.int (nI q)), some (.int (nI i)), some (.int (nI k))] [] h1 Q := by
  have i6 := ok.2.1
  have ng : ¬ nI i < 0 := nI_pos (by omega)
  have ii : px_in (nI i) 7 = true := px_inb (by omega) (by decide)
  have ci : (nI i).toNatClampNeg = i := nI_clamp (by omega)
  have l12 := (ok.2.2.1 i hi).1.2.2.2
  have v256 := (ok.2.2.1 i hi).2.2
  intro d
  induction d with
  | zero =>
    intro k hk h1 w1
    have hk : k = iVl m i := by omega
    have w1' := w1
    obtain ⟨V1, T, a1, a2, a3, a4, a5, a6, a7⟩ := w1'
    obtain ⟨-, -, L, NM, NS, VL, VS, -, -, -, -, d3, -, rows⟩ := imR_su im a3 a6
    have r2 := (rows i hi).2.1
    have le : nI (iVl m i) ≤ nI k := nI_le (by omega) (by omega)
    simp only [pc165_123, pc165_125, pc165_128, pc165_130, pc165_130n, pc165_131, pc165_134, pc165_136, pc165_137, px_op_some, px_kv_ap, px_ki_ap, px_kl_ap, px_kn_ap, px_kh_ap, px_op_none, px_K_some, px_K_none, px_K_thr, px_kill, ↓reduceIte, if_true, if_false, true_and, and_true, px_gf, px_ai, a1, mf_42, d3, ng, ii, ci, r2, le, tg_i1, and_self]
    rw [hk] at w1
    exact hQ h1 _ w1
  | succ d ih =>
    intro k hk h1 w1
    obtain ⟨V1, T, a1, a2, a3, a4, a5, a6, a7⟩ := w1
    obtain ⟨-, -, L, NM, NS, VL, VS, -, -, -, d2, d3, -, rows⟩ := imR_su im a3 a6
    obtain ⟨-, r2, -, r4⟩ := rows i hi
    have ge : ¬ nI (iVl m i) ≤ nI k := nI_ge (by omega) (by omega)
    have cc : (cat o (k, iV m i)).1 = o.1 + k := rfl
    rw [cc] at a2
    have i1 : px_in (nI (o.1 + k)) 9000 = true := px_inb (by omega) (by decide)
    have j1 : (nI (o.1 + k)).toNatClampNeg = o.1 + k := nI_clamp (by omega)
    have i2 : px_in (nI (12 * i + k)) 84 = true := px_inb (by omega) (by decide)
    have j2 : (nI (12 * i + k)).toNatClampNeg = 12 * i + k := nI_clamp (by omega)
    have r4k := r4 k (by omega)
    have l4 : 654 < h1.2.length := (List.getElem?_eq_some_iff.mp a4).1
    have z6 : (px_wr h1 654 (.inr (1, 9000, .inl (px_up T (o.1 + k) (nI (iV m i k)))))).2[619]? = some (.inl (11, modF V1)) := by rw [wr_at, if_neg (by decide)]; exact a1
    rw [pc165_123]
    simp only [pc165_125, pc165_128, pc165_130, pc165_130n, pc165_131, pc165_134, pc165_136, pc165_137, pc165_140, pc165_140n, pc165_141, pc165_144, pc165_144n, pc165_145, pc165_148, pc165_148n, pc165_149, pc165_152, pc165_154, pc165_156, pc165_157, pc165_159, pc165_160, pc165_161, pc165_162, pc165_162n, pc165_163, pc165_163r, pc165_164, pc165_167, pc165_168, pc165_169, pc165_172, pc165_175, px_op_some, px_kv_ap, px_ki_ap, px_kl_ap, px_kn_ap, px_kh_ap, px_op_none, px_K_some, px_K_none, px_K_thr, px_kill, ↓reduceIte, if_true, if_false, true_and, and_true, px_gf, px_pf, px_ai, px_wi, a1, mf_42, mf_41, mf_47, mf_48, mfs_47, mf_len, d3, d2, a4, ng, ii, ci, r2, ge, a2, mul_12n, nI_add, i1, j1, i2, j2, r4k, nar1, z6, nI_p1, Nat.reduceLT, px_fit, tg_i1, and_self, px_kill]
    refine ih (k + 1) (by omega) _ (su_put (o := cat o (k, iV m i)) (b := iV m i k) a1 a3 a4 a5 a6 a7 (v256 k (by omega)) rfl (fun j hj => ?_) ?_)
    · have hj : j < o.1 + k := hj
      show (if j < o.1 then o.2 j else iV m i (j - o.1)) = if j < o.1 then o.2 j else iV m i (j - o.1)
      rfl
    · show (if o.1 + k < o.1 then o.2 (o.1 + k) else iV m i (o.1 + k - o.1)) = iV m i k
      rw [if_neg (by omega), Nat.add_sub_cancel_left]
set_option maxRecDepth 16384 in
theorem m_sub_l {R : Nat × (Nat → Nat)} {l1 : Option Value} (im : imR h V m) (ok : imOK m) (hA : h.2[620]? = some (.inr (1, 600, .inl g))) (hB : txM g n B) (hn : n ≤ 600) (he : e ≤ n)
    (hQ : ∀ h1, suS h h1 V R → Q (.inl none) h1) :
    ∀ fu p o h1 l4 l5 l6, p ≤ e → e - p ≤ fu → o.1 ≤ 12 * p → flF B m e fu p o = R → suS h h1 V o → px_Wp sx 165 7 [some (.ref 619), l1, some (.int (nI e)), some (.int (nI p)), l4, l5, l6] [] h1 Q := by
  intro fu
  induction fu with
  | zero =>
    intro p o h1 l4 l5 l6 hp hf ho hR w1
    have hR : o = R := hR
    subst hR
    have le : nI e ≤ nI p := nI_le (by omega) (by omega)
    simp only [pc165_7, pc165_8, pc165_9, pc165_184, px_op_some, px_kv_ap, px_ki_ap, px_kl_ap, px_kn_ap, px_kh_ap, px_op_none, px_K_some, px_K_none, px_K_thr, px_kill, ↓reduceIte, if_true, if_false, true_and, and_true, le]
    exact hQ h1 w1
  | succ fu ih =>
    intro p o h1 l4 l5 l6 hp hf ho hR w1
    by_cases x : e ≤ p
    · rw [flF_end x] at hR
      subst hR
      have le : nI e ≤ nI p := nI_le (by omega) (by omega)
      simp only [pc165_7, pc165_8, pc165_9, pc165_184, px_op_some, px_kv_ap, px_ki_ap, px_kl_ap, px_kn_ap, px_kh_ap, px_op_none, px_K_some, px_K_none, px_K_thr, px_kill, ↓reduceIte, if_true, if_false, true_and, and_true, le]
      exact hQ h1 w1
    have ge : ¬ nI e ≤ nI p := nI_ge (by omega) (by omega)
    have w1' := w1
    obtain ⟨V1, T, a1, a2, a3, a4, a5, a6, a7⟩ := w1'
    have hA1 : h1.2[620]? = some (.inr (1, 600, .inl g)) := frm_at a6 (by unfold suA; omega) hA
    have ip : px_in (nI p) 600 = true := px_inb (by omega) (by decide)
    have cp : (nI p).toNatClampNeg = p := nI_clamp (by omega)
    obtain ⟨b1, b2⟩ := hB p (by omega)
    have hcl : px_cls h1 619 = some 11 := by unfold px_cls; rw [a1]
    unfold flF at hR
    rw [if_neg x] at hR
    by_cases d36 : B p = 36
    · rw [if_pos d36] at hR
      have e36 : nI (B p) = 36 := by rw [d36]; rfl
      obtain ⟨t1, t2⟩ := lend_rng (B := B) (min (e - (p + 1)) 8) (p + 1)
      have tl := lend_all (B := B) (min (e - (p + 1)) 8) (p + 1)
      rw [pc165_7]
      simp only [pc165_8, pc165_9, pc165_12, pc165_12n, pc165_13, pc165_16, pc165_17, pc165_18, pc165_20, pc165_54, pc165_55, pc165_56, pc165_57, px_op_some, px_kv_ap, px_ki_ap, px_kl_ap, px_kn_ap, px_kh_ap, px_op_none, px_K_some, px_K_none, px_K_thr, px_kill, ↓reduceIte, if_true, if_false, true_and, and_true, px_gf, px_ai, a1, mf_1, hA1, ge, ip, cp, b1, e36, tg_i1, and_self, nI_p1, px_kill]
      refine m_lend_l a1 hA1 hB hn he ?_ (min (e - (p + 1)) 8) (p + 1) rfl (by omega) (Nat.le_refl _) (by omega) (by omega)
      generalize lend B (p + 1) (min (e - (p + 1)) 8) = q at hR t1 t2 tl ⊢
      have nofind : (∀ i, i < iS m → ¬ iN m i = patF B (p + 1) (q - (p + 1))) → ∀ l5 l6, px_Wp sx 165 178 [some (.ref 619), l1, some (.int (nI e)), some (.int (nI p)), some (.int (nI q)), l5, l6] [] h1 Q := fun no l5 l6 => by
        rw [vOf_no no] at hR
        simp only [pc165_178, pc165_180, pc165_181, px_op_some, px_kv_ap, px_ki_ap, px_kl_ap, px_kn_ap, px_kh_ap, px_op_none, px_K_some, px_K_none, px_K_thr, px_kill, ↓reduceIte, if_true, if_false, true_and, and_true, px_kill]
        refine ih q _ _ _ _ _ (by omega) (by omega) (by show o.1 + 0 ≤ _; omega) hR ⟨V1, T, a1, a2, a3, a4, fun j hj => ?_, a6, a7⟩
        have hj : j < o.1 := hj
        show T j = nI (if j < o.1 then o.2 j else 0) ∧ (if j < o.1 then o.2 j else 0) < 256
        rw [if_pos hj]; exact a5 j hj
      by_cases q0 : q = p + 1
      · have le : nI q ≤ nI (p + 1) := nI_le (by omega) (by omega)
        simp only [pc165_93, pc165_95, pc165_96, pc165_97, pc165_98, pc165_117, pc165_118, pc165_120, pc165_121, pc165_123, pc165_125, px_op_some, px_kv_ap, px_ki_ap, px_kl_ap, px_kn_ap, px_kh_ap, px_op_none, px_K_some, px_K_none, px_K_thr, px_kill, ↓reduceIte, if_true, if_false, true_and, and_true, nI_p1, le, px_kill, show ((-1 : Int32) < 0) = True from eq_true (by decide)]
        refine nofind (fun i hi z => ?_) _ _
        have l1 := (ok.2.2.1 i hi).1.1
        have lz := (ok.2.2.1 i hi).2.1.1 0 (by omega)
        rw [z, q0, Nat.sub_self, patF_ge (Nat.zero_le _)] at lz
        omega
      · have ge1 : ¬ nI q ≤ nI (p + 1) := nI_ge (by omega) (by omega)
        simp only [pc165_93, pc165_95, pc165_96, pc165_97, pc165_98, pc165_101, pc165_101n, pc165_102, pc165_102n, pc165_103, pc165_106, pc165_107, pc165_108, pc165_109, pc165_111, px_op_some, px_kv_ap, px_ki_ap, px_kl_ap, px_kn_ap, px_kh_ap, px_op_none, px_K_some, px_K_none, px_K_thr, px_kill, ↓reduceIte, if_true, if_false, true_and, and_true, px_gf, a1, mf_1, nI_p1, ge1, hcl]
        have go := m_setting (sx := sx) (Q := px_K sx 165 114 [some (.ref 619), l1, some (.int (nI e)), some (.int (nI p)), some (.int (nI q)), l5, l6] [] Q) (s := p + 1) (c := q - (p + 1)) a1 (imR_su im a3 a6) ok hA1 hB hn (ltr_pat (fun j hj => tl _ (by omega) (by omega))) (by omega) (fun y hy => ?_)
        · rw [show p + 1 + (q - (p + 1)) = q by omega] at go
          exact go
        · rcases hy with ⟨i, hi, ei, rfl⟩ | ⟨no, rfl⟩
          · rw [vOf_in ok hi ei] at hR
            have l12 := (ok.2.2.1 i hi).1.2.2.2
            simp only [px_K_some, pc165_114, pc165_117, pc165_118, pc165_120, pc165_121, px_op_some, px_kv_ap, px_ki_ap, px_kl_ap, px_kn_ap, px_kh_ap, px_op_none, px_K_some, px_K_none, px_K_thr, px_kill, ↓reduceIte, if_true, if_false, true_and, and_true, px_kill]
            refine m_val_l (o := o) im ok hi (by omega) (fun h2 l6 w2 => ?_) (iVl m i) 0 (by omega) h1 ⟨V1, T, a1, a2, a3, a4, fun j hj => ?_, a6, a7⟩
            · simp only [pc165_178, pc165_180, pc165_181, px_op_some, px_kv_ap, px_ki_ap, px_kl_ap, px_kn_ap, px_kh_ap, px_op_none, px_K_some, px_K_none, px_K_thr, px_kill, ↓reduceIte, if_true, if_false, true_and, and_true, px_kill]
              exact ih q _ _ _ _ _ (by omega) (by omega) (by show o.1 + iVl m i ≤ _; omega) hR w2
            · have hj : j < o.1 := hj
              show T j = nI (if j < o.1 then o.2 j else iV m i (j - o.1)) ∧ (if j < o.1 then o.2 j else iV m i (j - o.1)) < 256
              rw [if_pos hj]; exact a5 j hj
          · simp only [px_K_some, pc165_114, pc165_117, pc165_118, pc165_120, pc165_121, pc165_123, pc165_125, px_op_some, px_kv_ap, px_ki_ap, px_kl_ap, px_kn_ap, px_kh_ap, px_op_none, px_K_some, px_K_none, px_K_thr, px_kill, ↓reduceIte, if_true, if_false, true_and, and_true, px_kill, show ((-1 : Int32) < 0) = True from eq_true (by decide)]
            exact nofind no _ _
    · rw [if_neg d36] at hR
      have e36 : ¬ nI (B p) = 36 := fun z => d36 ((nI_eq (b := 36) (by omega) (by decide)).mp z)
      have i1 : px_in (nI o.1) 9000 = true := px_inb (by omega) (by decide)
      have j1 : (nI o.1).toNatClampNeg = o.1 := nI_clamp (by omega)
      have z6 : (px_wr h1 654 (.inr (1, 9000, .inl (px_up T o.1 (nI (B p)))))).2[619]? = some (.inl (11, modF V1)) := by rw [wr_at, if_neg (by decide)]; exact a1
      rw [pc165_7]
      simp only [pc165_8, pc165_9, pc165_12, pc165_12n, pc165_13, pc165_16, pc165_17, pc165_18, pc165_20, pc165_23, pc165_23n, pc165_24, pc165_27, pc165_27n, pc165_28, pc165_31, pc165_31n, pc165_32, pc165_35, pc165_36, pc165_37, pc165_38, pc165_38n, pc165_39, pc165_39r, pc165_40, pc165_43, pc165_44, pc165_45, pc165_48, pc165_51, px_op_some, px_kv_ap, px_ki_ap, px_kl_ap, px_kn_ap, px_kh_ap, px_op_none, px_K_some, px_K_none, px_K_thr, px_kill, ↓reduceIte, if_true, if_false, true_and, and_true, px_gf, px_pf, px_ai, px_wi, a1, mf_1, mf_47, mf_48, mfs_47, mf_len, hA1, a4, ge, ip, cp, b1, e36, a2, i1, j1, nar1, z6, Nat.reduceLT, px_fit, tg_i1, and_self, nI_p1, px_kill]
      refine ih (p + 1) _ _ _ _ _ (by omega) (by omega) (by show o.1 + 1 ≤ _; omega) hR (su_put a1 a3 a4 a5 a6 a7 b2 rfl (fun j hj => ?_) ?_)
      · show (if j < o.1 then o.2 j else B p) = o.2 j
        rw [if_pos hj]
      · show (if o.1 < o.1 then o.2 o.1 else B p) = B p
        rw [if_neg (Nat.lt_irrefl _)]
set_option maxRecDepth 16384 in
theorem m_substitute (hS : shape h) (h6 : h.2[619]? = some (.inl (11, modF V))) (im : imR h V m) (ok : imOK m) (hA : h.2[620]? = some (.inr (1, 600, .inl g))) (hB : txM g n B) (hn : n ≤ 600) (hs : s ≤ e) (he : e ≤ n)
    (hQ : ∀ h1, suS h h1 V (flF B m e (e - s) s (0, fun _ => 0)) → Q (.inl none) h1) :
    px_Wp sx 165 0 [some (.ref 619), some (.int (nI s)), some (.int (nI e)), none, none, none, none] [] h Q := by
  have l6 : 619 < h.2.length := (List.getElem?_eq_some_iff.mp h6).1
  simp only [pc165_0, pc165_0n, pc165_1, pc165_2, pc165_5, pc165_6, px_op_some, px_kv_ap, px_ki_ap, px_kl_ap, px_kn_ap, px_kh_ap, px_op_none, px_K_some, px_K_none, px_K_thr, px_kill, ↓reduceIte, if_true, if_false, true_and, and_true, px_pf, h6, mfs_47, mf_len, Nat.reduceLT, px_fit, and_self, px_kill]
  refine m_sub_l im ok hA hB hn he hQ (e - s) s (0, fun _ => 0) _ _ _ _ hs (Nat.le_refl _) (Nat.zero_le _) rfl ⟨px_up V 47 0, iA h 654, by rw [wr_at, if_pos rfl, if_pos l6], up_same _ _ _, fun j hj => up_ne hj, by rw [wr_at, if_neg (by decide)]; exact at_654 hS, fun j hj => absurd hj (Nat.not_lt_zero j), frm_wr (frm_refl _ _) (.inl rfl), fun z => shape_int (k := 47) z h6 rfl⟩
end SUBST
