/-! COMMANDS, the reference's: add -/
def adA (r : Nat) : Prop := r = 640 ∨ r = 641
def adS (h h1 : px_H) (Z C : Nat → Int32) : Prop := frm adA h h1 ∧ (shape h → shape h1) ∧ h1.2[640]? = some (.inr (1, 82, .inl Z)) ∧ h1.2[641]? = some (.inr (1, 82082, .inl C))
section MADD
variable {sx : Nat × (Nat → Int32)} {h h1 : px_H} {n l s m : Nat} {T : Nat → aE} {p : Nat → Nat} {V X Y Z C c : Nat → Int32} {Q : px_O → px_H → Prop}
set_option maxRecDepth 16384 in
theorem adS_Z (w : adS h h1 Z C) : adS h (px_wr h1 640 (.inr (1, 82, .inl Y))) Y C := by
  obtain ⟨a1, a2, a3, a4⟩ := w
  have hl : 640 < h1.2.length := (List.getElem?_eq_some_iff.mp a3).1
  exact ⟨frm_wr a1 (.inl rfl), fun z => shape_ia (a2 z) a3, by rw [wr_at, if_pos rfl, if_pos hl], by rw [wr_at, if_neg (by decide)]; exact a4⟩
set_option maxRecDepth 16384 in
theorem adS_C (w : adS h h1 Z C) : adS h (px_wr h1 641 (.inr (1, 82082, .inl Y))) Z Y := by
  obtain ⟨a1, a2, a3, a4⟩ := w
  have hl : 641 < h1.2.length := (List.getElem?_eq_some_iff.mp a4).1
  exact ⟨frm_wr a1 (.inr rfl), fun z => shape_ia (a2 z) a4, by rw [wr_at, if_neg (by decide)]; exact a3, by rw [wr_at, if_pos rfl, if_pos hl]⟩
/-! the bytes that were added -/
set_option maxRecDepth 16384 in
theorem add_end {e : Nat} {D : Nat → Prop} {Z1 C1 P LN K : Nat → Int32} (a1 : h.2[637]? = some (.inr (1, 2952, .inl P))) (a2 : h.2[638]? = some (.inr (1, 82, .inl LN))) (a3 : h.2[639]? = some (.inr (1, 82, .inl K))) (w2 : ∀ i, D i → i < 82 ∧ eOK (T i) ∧ meR P LN K Z C i (T i)) (he : D e) (k2 : eK (T e) = 2) (hm : eN (T e) + m ≤ 1000)
    (s1 : adS h h1 Z1 C1) (hZ : Z1 e = nI (eN (T e) + m)) (hZ2 : ∀ i, i ≠ e → Z1 i = Z i) (hC : ∀ j, j < m → C1 (1001 * e + (eN (T e) + j)) = c j) (hC2 : ∀ j, j < 1001 * e + eN (T e) ∨ 1001 * e + (eN (T e) + m) ≤ j → C1 j = C j) : mtE h1 D (px_up T e (ctE (T e) m c)) := by
  obtain ⟨b1, b2, b3, b4⟩ := s1
  refine ⟨P, LN, K, Z1, C1, ⟨frm_at b1 (by unfold adA; omega) a1, frm_at b1 (by unfold adA; omega) a2, frm_at b1 (by unfold adA; omega) a3, b3, b4⟩, fun i hi => ?_⟩
  obtain ⟨i82, oki, m1, m2, m3, m4, m5⟩ := w2 i hi
  have ni := eN_le oki
  by_cases x : i = e
  · subst x
    rw [up_same]
    refine ⟨i82, ⟨oki.1, .inr ⟨rfl, hm⟩⟩, m1, by rw [m2, k2]; rfl, hZ, m4, fun j hj => ?_⟩
    have hj : j < eN (T i) + m := hj
    show C1 (1001 * i + j) = if j < eN (T i) then eC (T i) j else c (j - eN (T i))
    by_cases y : j < eN (T i)
    · rw [if_pos y, hC2 _ (by omega)]; exact m5 j y
    · rw [if_neg y]
      have := hC (j - eN (T i)) (by omega)
      rw [show eN (T i) + (j - eN (T i)) = j by omega] at this
      exact this
  · rw [up_ne x]
    exact ⟨i82, oki, m1, m2, by rw [hZ2 i x]; exact m3, m4, fun j hj => by rw [hC2 _ (by omega)]; exact m5 j hj⟩
set_option maxRecDepth 16384 in
theorem m_addText (h6 : h.2[619]? = some (.inl (11, modF V))) (hv : V 20 = nI n) (hv2 : V 32 = nI l) (hf : V 43 = 0) (hX : h.2[654]? = some (.inr (1, 9000, .inl X))) (ok : tOK n T) (hn : n ≤ 40) (ht : totN T n ≤ 1000) (hb : ∀ i, i < n → eN (T i) ≤ totN T n) (w : mtE h (fun i => i < n) T) (pt : mpt h p l) (hp : pth p l) (hs : s + m ≤ 9000) (hc : ∀ j, j < m → X (s + j) = c j)
    (hQ1 : ∀ i h', i < n → eP (T i) = p → eK (T i) = 2 → totN T n + m ≤ 1000 → mtE h' (fun i => i < n) (px_up T i (ctE (T i) m c)) → h'.2[619]? = some (.inl (11, modF V)) → frm mEB h h' → (shape h → shape h') → Q (.inl none) h')
    (hQ0 : ∀ x : Nat, ((¬ ∃ i, i < n ∧ eP (T i) = p ∧ eK (T i) = 2) ∧ x = 3 ∨ (∃ i, i < n ∧ eP (T i) = p ∧ eK (T i) = 2) ∧ 1000 < totN T n + m ∧ x = 4) → Q (.inl none) (px_wr h 619 (.inl (11, modF (px_up V 43 (nI x)))))) :
    px_Wp sx 200 0 [some (.ref 619), some (.int (nI s)), some (.int (nI (s + m))), none, none] [] h Q := by
  have hcls : px_cls h 619 = some 11 := by unfold px_cls; rw [h6]
  have l35 := hp.2.1
  have cutp := cutP_all hp
  simp only [pc200_0, pc200_0n, pc200_1, pc200_1n, pc200_2, pc200_5, px_op_some, px_kv_ap, px_ki_ap, px_kl_ap, px_kn_ap, px_kh_ap, px_op_none, px_K_some, px_K_none, px_K_thr, px_kill, ↓reduceIte, if_true, if_false, true_and, and_true, px_gf, h6, mf_32, hv2, hcls]
  refine m_entryOf h6 hv (by omega) w (fun i hi => hi) pt (pth_rng hp) (by omega) (Nat.le_refl _) (fun x hx => ?_)
  rw [cutp] at hx
  rcases hx with ⟨i, i1, i2, rfl⟩ | ⟨no, rfl⟩
  · have ng : ¬ nI i < 0 := nI_pos (by omega)
    have w' := w
    obtain ⟨P, LN, K, Z, C, ⟨a1, a2, a3, a4, a5⟩, w2⟩ := w'
    obtain ⟨e82, oki, r1, r2, r3, r4, r5⟩ := w2 i i1
    have ie : px_in (nI i) 82 = true := px_inb e82 (by decide)
    have ce : (nI i).toNatClampNeg = i := nI_clamp (by omega)
    have bi := hb i i1
    by_cases k2 : eK (T i) = 2
    · have e2 : nI (eK (T i)) = 2 := by rw [k2]; rfl
      simp only [px_K_some, pc200_8, pc200_9, pc200_10, pc200_13, pc200_13n, pc200_14, pc200_17, pc200_18, pc200_19, pc200_20, pc200_29, pc200_29n, pc200_30, px_op_some, px_kv_ap, px_ki_ap, px_kl_ap, px_kn_ap, px_kh_ap, px_op_none, px_K_some, px_K_none, px_K_thr, px_kill, ↓reduceIte, if_true, if_false, true_and, and_true, px_gf, px_ai, px_kill, ng, h6, mf_23, a3, ie, ce, r2, e2, tg_i1, and_self, hcls]
      refine m_total h6 hv (by omega) w (fun i hi => hi) ?_
      have tt : nI (totN T n) + nI (s + m) - nI s = nI (totN T n + m) := by rw [nI_add, nI_sub (by omega), show totN T n + (s + m) - s = totN T n + m by omega]
      by_cases big : totN T n + m ≤ 1000
      · have le : nI (totN T n + m) ≤ 1000 := nI_le (b := 1000) big (by decide)
        simp only [px_K_some, pc200_33, pc200_34, pc200_35, pc200_36, pc200_37, pc200_40, pc200_43, pc200_43n, pc200_44, pc200_45, pc200_48, pc200_49, pc200_50, px_op_some, px_kv_ap, px_ki_ap, px_kl_ap, px_kn_ap, px_kh_ap, px_op_none, px_K_some, px_K_none, px_K_thr, px_kill, ↓reduceIte, if_true, if_false, true_and, and_true, tt, le, px_kill]
        have lp : ∀ d k, k + d = m → ∀ h1 Z1 C1, adS h h1 Z1 C1 → Z1 i = nI (eN (T i) + k) → (∀ j, j ≠ i → Z1 j = Z j) → (∀ j, j < k → C1 (1001 * i + (eN (T i) + j)) = c j) → (∀ j, j < 1001 * i + eN (T i) ∨ 1001 * i + (eN (T i) + k) ≤ j → C1 j = C j) → px_Wp sx 200 52 [some (.ref 619), some (.int (nI s)), some (.int (nI (s + m))), some (.int (nI i)), some (.int (nI (s + k)))] [] h1 Q := by
          intro d
          induction d with
          | zero =>
            intro k hk h1 Z1 C1 s1 q1 q2 q3 q4
            have hk : k = m := by omega
            subst hk
            have le : nI (s + k) ≤ nI (s + k) := Int32.le_refl _
            simp only [pc200_52, pc200_54, pc200_55, pc200_98, px_op_some, px_kv_ap, px_ki_ap, px_kl_ap, px_kn_ap, px_kh_ap, px_op_none, px_K_some, px_K_none, px_K_thr, px_kill, ↓reduceIte, if_true, if_false, true_and, and_true, le]
            exact hQ1 i h1 i1 i2 k2 big (add_end a1 a2 a3 w2 i1 k2 (by omega) s1 q1 q2 q3 q4) (frm_at s1.1 (by unfold adA; omega) h6) (frm_mono s1.1 (fun r hr => .inl (by unfold adA at hr; unfold mEA; omega))) s1.2.1
          | succ d ih =>
            intro k hk h1 Z1 C1 s1 q1 q2 q3 q4
            have s1' := s1
            obtain ⟨b1, b2, b3, b4⟩ := s1'
            have c6 : h1.2[619]? = some (.inl (11, modF V)) := frm_at b1 (by unfold adA; omega) h6
            have cX : h1.2[654]? = some (.inr (1, 9000, .inl X)) := frm_at b1 (by unfold adA; omega) hX
            have ge : ¬ nI (s + m) ≤ nI (s + k) := nI_ge (by omega) (by omega)
            have it : px_in (nI (1001 * i + (eN (T i) + k))) 82082 = true := px_inb (by omega) (by decide)
            have ct : (nI (1001 * i + (eN (T i) + k))).toNatClampNeg = 1001 * i + (eN (T i) + k) := nI_clamp (by omega)
            have is_ : px_in (nI (s + k)) 9000 = true := px_inb (by omega) (by decide)
            have cs : (nI (s + k)).toNatClampNeg = s + k := nI_clamp (by omega)
            have xk := hc k (by omega)
            have s2 := adS_C (Y := px_up C1 (1001 * i + (eN (T i) + k)) (c k)) s1
            have d6 := frm_at s2.1 (show ¬ adA 619 by unfold adA; omega) h6
            have d3 := s2.2.2.1
            rw [pc200_52]
            simp only [pc200_54, pc200_55, pc200_58, pc200_58n, pc200_59, pc200_62, pc200_65, pc200_66, pc200_67, pc200_67n, pc200_68, pc200_71, pc200_72, pc200_73, pc200_74, pc200_74n, pc200_75, pc200_78, pc200_80, pc200_81, pc200_82, pc200_82n, pc200_83, pc200_86, pc200_87, pc200_88, pc200_89, pc200_90, pc200_91, pc200_92, pc200_95, px_op_some, px_kv_ap, px_ki_ap, px_kl_ap, px_kn_ap, px_kh_ap, px_op_none, px_K_some, px_K_none, px_K_thr, px_kill, ↓reduceIte, if_true, if_false, true_and, and_true, px_gf, px_ai, px_wi, c6, cX, mf_24, mf_25, mf_48, b3, b4, ge, ie, ce, q1, mul_1001, nI_add, it, ct, is_, cs, xk, d6, d3, nar1, tg_i1, and_self, px_kill, nI_p1]
            refine ih (k + 1) (by omega) _ _ _ (adS_Z s2) (up_same _ _ _) (fun j hj => by rw [up_ne hj]; exact q2 j hj) (fun j hj => ?_) (fun j hj => ?_)
            · by_cases x : j = k
              · subst x; exact up_same _ _ _
              · rw [up_ne (by omega)]; exact q3 j (by omega)
            · rw [up_ne (by omega)]; exact q4 j (by omega)
        exact lp m 0 (by omega) h Z C ⟨frm_refl _ _, fun z => z, a4, a5⟩ r3 (fun _ _ => rfl) (fun j hj => absurd hj (Nat.not_lt_zero j)) (fun _ _ => rfl)
      · have le : ¬ nI (totN T n + m) ≤ 1000 := nI_ge (a := 1000) (by omega) (by omega)
        simp only [px_K_some, pc200_33, pc200_34, pc200_35, pc200_36, pc200_37, pc200_40, pc200_43, pc200_43n, pc200_44, pc200_45, px_op_some, px_kv_ap, px_ki_ap, px_kl_ap, px_kn_ap, px_kh_ap, px_op_none, px_K_some, px_K_none, px_K_thr, px_kill, ↓reduceIte, if_true, if_false, true_and, and_true, tt, le, hcls]
        refine m_fail (x := 4) h6 hf ?_
        simp only [px_K_none, pc200_48]
        exact hQ0 4 (.inr ⟨⟨i, i1, i2, k2⟩, by omega, rfl⟩)
    · have e2 : ¬ nI (eK (T i)) = 2 := fun z => k2 ((nI_eq (b := 2) (by rcases oki.2 with ⟨z, -⟩ | ⟨z, -⟩ <;> omega) (by decide)).mp z)
      simp only [px_K_some, pc200_8, pc200_9, pc200_10, pc200_13, pc200_13n, pc200_14, pc200_17, pc200_18, pc200_19, pc200_20, pc200_23, pc200_23n, pc200_24, pc200_25, px_op_some, px_kv_ap, px_ki_ap, px_kl_ap, px_kn_ap, px_kh_ap, px_op_none, px_K_some, px_K_none, px_K_thr, px_kill, ↓reduceIte, if_true, if_false, true_and, and_true, px_gf, px_ai, px_kill, ng, h6, mf_23, a3, ie, ce, r2, e2, tg_i1, and_self, hcls]
      refine m_fail (x := 3) h6 hf ?_
      simp only [px_K_none, pc200_28]
      exact hQ0 3 (.inl ⟨fun ⟨j, j1, j2, j3⟩ => by rw [srt_uniq ok j1 i1 (j2.trans i2.symm)] at j3; exact k2 j3, rfl⟩)
  · have lt0 : (-1 : Int32) < 0 := by decide
    simp only [px_K_some, pc200_8, pc200_9, pc200_10, pc200_23, pc200_23n, pc200_24, pc200_25, px_op_some, px_kv_ap, px_ki_ap, px_kl_ap, px_kn_ap, px_kh_ap, px_op_none, px_K_some, px_K_none, px_K_thr, px_kill, ↓reduceIte, if_true, if_false, true_and, and_true, px_kill, lt0, hcls]
    refine m_fail (x := 3) h6 hf ?_
    simp only [px_K_none, pc200_28]
    exact hQ0 3 (.inl ⟨fun ⟨j, j1, j2, _⟩ => no j j1 j2, rfl⟩)
end MADD
