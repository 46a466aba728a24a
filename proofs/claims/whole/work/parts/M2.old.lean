/-! THE OLD TREE, the reference's -/
def moA (r : Nat) : Prop := r = 619 ∨ 642 ≤ r ∧ r ≤ 646
def moC (h : px_H) (P LN K Z C : Nat → Int32) : Prop := h.2[642]? = some (.inr (1, 1656, .inl P)) ∧ h.2[643]? = some (.inr (1, 46, .inl LN)) ∧ h.2[644]? = some (.inr (1, 46, .inl K)) ∧ h.2[645]? = some (.inr (1, 46, .inl Z)) ∧ h.2[646]? = some (.inr (1, 46046, .inl C))
def moE (h : px_H) (n : Nat) (T : Nat → aE) : Prop := ∃ P LN K Z C, moC h P LN K Z C ∧ ∀ i, i < n → i < 46 ∧ eOK (T i) ∧ meR P LN K Z C i (T i)
def moS (h h1 : px_H) (V P LN K Z C : Nat → Int32) : Prop := frm moA h h1 ∧ (shape h → shape h1) ∧ h1.2[619]? = some (.inl (11, modF V)) ∧ moC h1 P LN K Z C
section OLD
variable {sx : Nat × (Nat → Int32)} {h h1 : px_H} {n : Nat} {V P LN K Z C X : Nat → Int32} {E : Nat → aE} {Q : px_O → px_H → Prop}
set_option maxRecDepth 16384 in
theorem moS_P (w : moS h h1 V P LN K Z C) : moS h (px_wr h1 642 (.inr (1, 1656, .inl X))) V X LN K Z C := by
  obtain ⟨a1, a2, a3, b1, b2, b3, b4, b5⟩ := w
  have hl : 642 < h1.2.length := (List.getElem?_eq_some_iff.mp b1).1
  exact ⟨frm_wr a1 (.inr ⟨by decide, by decide⟩), fun s => shape_ia (a2 s) b1, by rw [wr_at, if_neg (by decide)]; exact a3, by rw [wr_at, if_pos rfl, if_pos hl], by rw [wr_at, if_neg (by decide)]; exact b2, by rw [wr_at, if_neg (by decide)]; exact b3, by rw [wr_at, if_neg (by decide)]; exact b4, by rw [wr_at, if_neg (by decide)]; exact b5⟩
set_option maxRecDepth 16384 in
theorem moS_L (w : moS h h1 V P LN K Z C) : moS h (px_wr h1 643 (.inr (1, 46, .inl X))) V P X K Z C := by
  obtain ⟨a1, a2, a3, b1, b2, b3, b4, b5⟩ := w
  have hl : 643 < h1.2.length := (List.getElem?_eq_some_iff.mp b2).1
  exact ⟨frm_wr a1 (.inr ⟨by decide, by decide⟩), fun s => shape_ia (a2 s) b2, by rw [wr_at, if_neg (by decide)]; exact a3, by rw [wr_at, if_neg (by decide)]; exact b1, by rw [wr_at, if_pos rfl, if_pos hl], by rw [wr_at, if_neg (by decide)]; exact b3, by rw [wr_at, if_neg (by decide)]; exact b4, by rw [wr_at, if_neg (by decide)]; exact b5⟩
set_option maxRecDepth 16384 in
theorem moS_K (w : moS h h1 V P LN K Z C) : moS h (px_wr h1 644 (.inr (1, 46, .inl X))) V P LN X Z C := by
  obtain ⟨a1, a2, a3, b1, b2, b3, b4, b5⟩ := w
  have hl : 644 < h1.2.length := (List.getElem?_eq_some_iff.mp b3).1
  exact ⟨frm_wr a1 (.inr ⟨by decide, by decide⟩), fun s => shape_ia (a2 s) b3, by rw [wr_at, if_neg (by decide)]; exact a3, by rw [wr_at, if_neg (by decide)]; exact b1, by rw [wr_at, if_neg (by decide)]; exact b2, by rw [wr_at, if_pos rfl, if_pos hl], by rw [wr_at, if_neg (by decide)]; exact b4, by rw [wr_at, if_neg (by decide)]; exact b5⟩
set_option maxRecDepth 16384 in
theorem moS_Z (w : moS h h1 V P LN K Z C) : moS h (px_wr h1 645 (.inr (1, 46, .inl X))) V P LN K X C := by
  obtain ⟨a1, a2, a3, b1, b2, b3, b4, b5⟩ := w
  have hl : 645 < h1.2.length := (List.getElem?_eq_some_iff.mp b4).1
  exact ⟨frm_wr a1 (.inr ⟨by decide, by decide⟩), fun s => shape_ia (a2 s) b4, by rw [wr_at, if_neg (by decide)]; exact a3, by rw [wr_at, if_neg (by decide)]; exact b1, by rw [wr_at, if_neg (by decide)]; exact b2, by rw [wr_at, if_neg (by decide)]; exact b3, by rw [wr_at, if_pos rfl, if_pos hl], by rw [wr_at, if_neg (by decide)]; exact b5⟩
set_option maxRecDepth 16384 in
theorem moS_C (w : moS h h1 V P LN K Z C) : moS h (px_wr h1 646 (.inr (1, 46046, .inl X))) V P LN K Z X := by
  obtain ⟨a1, a2, a3, b1, b2, b3, b4, b5⟩ := w
  have hl : 646 < h1.2.length := (List.getElem?_eq_some_iff.mp b5).1
  exact ⟨frm_wr a1 (.inr ⟨by decide, by decide⟩), fun s => shape_ia (a2 s) b5, by rw [wr_at, if_neg (by decide)]; exact a3, by rw [wr_at, if_neg (by decide)]; exact b1, by rw [wr_at, if_neg (by decide)]; exact b2, by rw [wr_at, if_neg (by decide)]; exact b3, by rw [wr_at, if_neg (by decide)]; exact b4, by rw [wr_at, if_pos rfl, if_pos hl]⟩
/-- how a stretch stands while it is copied: k of them are there, all else is as before -/
def stC (A0 A S : Nat → Int32) (at_ k : Nat) : Prop := (∀ j, j < k → A (at_ + j) = S (at_ + j)) ∧ ∀ i, i < at_ ∨ at_ + k ≤ i → A i = A0 i
set_option maxRecDepth 16384 in
theorem stC_0 {A S : Nat → Int32} {a : Nat} : stC A A S a 0 := ⟨fun j hj => absurd hj (Nat.not_lt_zero j), fun _ _ => rfl⟩
set_option maxRecDepth 16384 in
theorem stC_s {A0 A S : Nat → Int32} {a k : Nat} (w : stC A0 A S a k) : stC A0 (px_up A (a + k) (S (a + k))) S a (k + 1) := by
  refine ⟨fun j hj => ?_, fun i hi => ?_⟩
  · by_cases x : j = k
    · subst x; exact up_same _ _ _
    · rw [up_ne (by omega)]; exact w.1 j (by omega)
  · rw [up_ne (by omega)]; exact w.2 i (by omega)
set_option maxRecDepth 16384 in
theorem m_keepOld (hS : shape h) (h6 : h.2[619]? = some (.inl (11, modF V))) (hv : V 20 = nI n) (hn : n ≤ 46) (w : mtE h (fun i => i < n) E) (hQ : ∀ h1, moE h1 n E → h1.2[619]? = some (.inl (11, modF (px_up V 26 (nI n)))) → frm moA h h1 → shape h1 → Q (.inl none) h1) :
    px_Wp sx 191 0 [some (.ref 619), none, none] [] h Q := by
  obtain ⟨P, LN, K, Z, C, ⟨c1, c2, c3, c4, c5⟩, w2⟩ := w
  have l6 : 619 < h.2.length := (List.getElem?_eq_some_iff.mp h6).1
  have v20 : px_up V 26 (nI n) 20 = nI n := by rw [up_ne (by decide)]; exact hv
  have lp : ∀ d i, i + d = n → ∀ h1 P1 L1 K1 Z1 C1 l2, moS h h1 (px_up V 26 (nI n)) P1 L1 K1 Z1 C1 → (∀ j, j < i → meR P1 L1 K1 Z1 C1 j (E j)) → px_Wp sx 191 10 [some (.ref 619), some (.int (nI i)), l2] [] h1 Q := by
    intro d
    induction d with
    | zero =>
      intro i hi h1 P1 L1 K1 Z1 C1 l2 s m
      have hi : i = n := by omega
      subst hi
      have le : nI i ≤ nI i := Int32.le_refl _
      obtain ⟨a1, a2, a3, b⟩ := s
      simp only [pc191_10, pc191_11, pc191_11n, pc191_12, pc191_15, pc191_142, px_op_some, px_kv_ap, px_ki_ap, px_kl_ap, px_kn_ap, px_kh_ap, px_op_none, px_K_some, px_K_none, px_K_thr, px_kill, ↓reduceIte, if_true, if_false, true_and, and_true, px_gf, a3, mf_20, v20, le]
      exact hQ h1 ⟨P1, L1, K1, Z1, C1, b, fun j hj => ⟨by omega, (w2 j hj).2.1, m j hj⟩⟩ a3 a1 (a2 hS)
    | succ d ih =>
      intro i hi h1 P1 L1 K1 Z1 C1 l2 s m
      have ge : ¬ nI n ≤ nI i := nI_ge (by omega) (by omega)
      have i82 : px_in (nI i) 82 = true := px_inb (by omega) (by decide)
      have i46 : px_in (nI i) 46 = true := px_inb (by omega) (by decide)
      have ci : (nI i).toNatClampNeg = i := nI_clamp (by omega)
      obtain ⟨-, ok, r1, r2, r3, r4, r5⟩ := w2 i (by omega)
      have l35 := ok.1.2.1
      have n1000 := eN_le ok
      -- the bytes
      have lc : ∀ d k, k + d = eN (E i) → ∀ h2 P2 C2, moS h h2 (px_up V 26 (nI n)) P2 (px_up L1 i (nI (eL (E i)))) (px_up K1 i (nI (eK (E i)))) (px_up Z1 i (nI (eN (E i)))) C2 → stC P1 P2 P (36 * i) (eL (E i)) → stC C1 C2 C (1001 * i) k → px_Wp sx 191 96 [some (.ref 619), some (.int (nI i)), some (.int (nI k))] [] h2 Q := by
        intro d
        induction d with
        | zero =>
          intro k hk h2 P2 C2 s2 q1 q2
          have hk : k = eN (E i) := by omega
          subst hk
          have s2' := s2
          obtain ⟨a1, a2, a3, -⟩ := s2'
          have c4' : h2.2[640]? = some (.inr (1, 82, .inl Z)) := frm_at a1 (by unfold moA; omega) c4
          have le : nI (eN (E i)) ≤ nI (eN (E i)) := Int32.le_refl _
          simp only [pc191_96, pc191_97, pc191_97n, pc191_98, pc191_101, pc191_102, pc191_103, pc191_136, pc191_139, px_op_some, px_kv_ap, px_ki_ap, px_kl_ap, px_kn_ap, px_kh_ap, px_op_none, px_K_some, px_K_none, px_K_thr, px_kill, ↓reduceIte, if_true, if_false, true_and, and_true, px_gf, px_ai, a3, mf_24, c4', i82, ci, r3, le, tg_i1, and_self, nI_p1, px_kill]
          refine ih (i + 1) (by omega) h2 _ _ _ _ _ _ s2 (fun j hj => ?_)
          by_cases x : j = i
          · subst x
            exact ⟨up_same _ _ _, up_same _ _ _, up_same _ _ _, fun k hk => by rw [q1.1 k hk]; exact r4 k hk, fun k hk => by rw [q2.1 k hk]; exact r5 k hk⟩
          · obtain ⟨m1, m2, m3, m4, m5⟩ := m j (by omega)
            obtain ⟨-, okj, -⟩ := w2 j (by omega)
            have lj := okj.1.2.1
            have nj := eN_le okj
            exact ⟨by rw [up_ne x]; exact m1, by rw [up_ne x]; exact m2, by rw [up_ne x]; exact m3, fun k hk => by rw [q1.2 _ (by omega)]; exact m4 k hk, fun k hk => by rw [q2.2 _ (by omega)]; exact m5 k hk⟩
        | succ d ih2 =>
          intro k hk h2 P2 C2 s2 q1 q2
          have s2' := s2
          obtain ⟨a1, a2, a3, b1, b2, b3, b4, b5⟩ := s2'
          have c4' : h2.2[640]? = some (.inr (1, 82, .inl Z)) := frm_at a1 (by unfold moA; omega) c4
          have c5' : h2.2[641]? = some (.inr (1, 82082, .inl C)) := frm_at a1 (by unfold moA; omega) c5
          have ge : ¬ nI (eN (E i)) ≤ nI k := nI_ge (by omega) (by omega)
          have e1 : px_in (nI (1001 * i + k)) 82082 = true := px_inb (by omega) (by decide)
          have e2 : px_in (nI (1001 * i + k)) 46046 = true := px_inb (by omega) (by decide)
          have e3 : (nI (1001 * i + k)).toNatClampNeg = 1001 * i + k := nI_clamp (by omega)
          rw [pc191_96]
          simp only [pc191_97, pc191_97n, pc191_98, pc191_101, pc191_102, pc191_103, pc191_106, pc191_106n, pc191_107, pc191_110, pc191_113, pc191_114, pc191_115, pc191_116, pc191_117, pc191_117n, pc191_118, pc191_121, pc191_124, pc191_125, pc191_126, pc191_127, pc191_128, pc191_129, pc191_130, pc191_133, px_op_some, px_kv_ap, px_ki_ap, px_kl_ap, px_kn_ap, px_kh_ap, px_op_none, px_K_some, px_K_none, px_K_thr, px_kill, ↓reduceIte, if_true, if_false, true_and, and_true, px_gf, px_ai, px_wi, a3, mf_24, mf_25, mf_31, c4', c5', b5, i82, ci, r3, ge, mul_1001, nI_add, e1, e2, e3, nar1, tg_i1, and_self, nI_p1, px_kill]
          exact ih2 (k + 1) (by omega) _ P2 _ (moS_C s2) q1 (stC_s q2)
      -- the path
      have lq : ∀ d k, k + d = eL (E i) → ∀ h2 P2, moS h h2 (px_up V 26 (nI n)) P2 (px_up L1 i (nI (eL (E i)))) (px_up K1 i (nI (eK (E i)))) (px_up Z1 i (nI (eN (E i)))) C1 → stC P1 P2 P (36 * i) k → px_Wp sx 191 56 [some (.ref 619), some (.int (nI i)), some (.int (nI k))] [] h2 Q := by
        intro d
        induction d with
        | zero =>
          intro k hk h2 P2 s2 q1
          have hk : k = eL (E i) := by omega
          subst hk
          have s2' := s2
          obtain ⟨a1, a2, a3, -⟩ := s2'
          have c2' : h2.2[638]? = some (.inr (1, 82, .inl LN)) := frm_at a1 (by unfold moA; omega) c2
          have le : nI (eL (E i)) ≤ nI (eL (E i)) := Int32.le_refl _
          simp only [pc191_56, pc191_57, pc191_57n, pc191_58, pc191_61, pc191_62, pc191_63, pc191_94, pc191_95, px_op_some, px_kv_ap, px_ki_ap, px_kl_ap, px_kn_ap, px_kh_ap, px_op_none, px_K_some, px_K_none, px_K_thr, px_kill, ↓reduceIte, if_true, if_false, true_and, and_true, px_gf, px_ai, a3, mf_22, c2', i82, ci, r1, le, tg_i1, and_self, px_kill]
          exact lc (eN (E i)) 0 (by omega) h2 P2 C1 s2 q1 stC_0
        | succ d ih2 =>
          intro k hk h2 P2 s2 q1
          have s2' := s2
          obtain ⟨a1, a2, a3, b1, b2, b3, b4, b5⟩ := s2'
          have c2' : h2.2[638]? = some (.inr (1, 82, .inl LN)) := frm_at a1 (by unfold moA; omega) c2
          have c1' : h2.2[637]? = some (.inr (1, 2952, .inl P)) := frm_at a1 (by unfold moA; omega) c1
          have ge : ¬ nI (eL (E i)) ≤ nI k := nI_ge (by omega) (by omega)
          have e1 : px_in (nI (36 * i + k)) 2952 = true := px_inb (by omega) (by decide)
          have e2 : px_in (nI (36 * i + k)) 1656 = true := px_inb (by omega) (by decide)
          have e3 : (nI (36 * i + k)).toNatClampNeg = 36 * i + k := nI_clamp (by omega)
          rw [pc191_56]
          simp only [pc191_57, pc191_57n, pc191_58, pc191_61, pc191_62, pc191_63, pc191_66, pc191_66n, pc191_67, pc191_70, pc191_72, pc191_73, pc191_74, pc191_75, pc191_76, pc191_76n, pc191_77, pc191_80, pc191_82, pc191_83, pc191_84, pc191_85, pc191_86, pc191_87, pc191_88, pc191_91, px_op_some, px_kv_ap, px_ki_ap, px_kl_ap, px_kn_ap, px_kh_ap, px_op_none, px_K_some, px_K_none, px_K_thr, px_kill, ↓reduceIte, if_true, if_false, true_and, and_true, px_gf, px_ai, px_wi, a3, mf_22, mf_21, mf_27, c2', c1', b1, i82, ci, r1, ge, mul_36, nI_add, e1, e2, e3, nar1, tg_i1, and_self, nI_p1, px_kill]
          exact ih2 (k + 1) (by omega) _ _ (moS_P s2) (stC_s q1)
      have s' := s
      obtain ⟨a1, a2, a3, b1, b2, b3, b4, b5⟩ := s'
      have s1 := moS_L (X := px_up L1 i (nI (eL (E i)))) s
      have s2 := moS_K (X := px_up K1 i (nI (eK (E i)))) s1
      have s3 := moS_Z (X := px_up Z1 i (nI (eN (E i)))) s2
      have c2' : h1.2[638]? = some (.inr (1, 82, .inl LN)) := frm_at a1 (by unfold moA; omega) c2
      have c3' := frm_at s1.1 (show ¬ moA 639 by unfold moA; omega) c3
      have c4' := frm_at s2.1 (show ¬ moA 640 by unfold moA; omega) c4
      have s13 := s1.2.2.1
      have s23 := s2.2.2.1
      have s1k := s1.2.2.2.2.2.1
      have s2z := s2.2.2.2.2.2.2.1
      rw [pc191_10]
      simp only [pc191_11, pc191_11n, pc191_12, pc191_15, pc191_18, pc191_18n, pc191_19, pc191_22, pc191_23, pc191_23n, pc191_24, pc191_27, pc191_28, pc191_29, pc191_30, pc191_30n, pc191_31, pc191_34, pc191_35, pc191_35n, pc191_36, pc191_39, pc191_40, pc191_41, pc191_42, pc191_42n, pc191_43, pc191_46, pc191_47, pc191_47n, pc191_48, pc191_51, pc191_52, pc191_53, pc191_54, pc191_55, px_op_some, px_kv_ap, px_ki_ap, px_kl_ap, px_kn_ap, px_kh_ap, px_op_none, px_K_some, px_K_none, px_K_thr, px_kill, ↓reduceIte, if_true, if_false, true_and, and_true, px_gf, px_ai, px_wi, a3, s13, s23, mf_20, mf_22, mf_23, mf_24, mf_28, mf_29, mf_30, v20, ge, c2', c3', c4', b2, s1k, s2z, i82, i46, ci, r1, r2, r3, nar1, tg_i1, and_self, px_kill]
      exact lq (eL (E i)) 0 (by omega) _ P1 s3 stC_0
  simp only [pc191_0, pc191_0n, pc191_1, pc191_1n, pc191_2, pc191_5, pc191_8, pc191_9, px_op_some, px_kv_ap, px_ki_ap, px_kl_ap, px_kn_ap, px_kh_ap, px_op_none, px_K_some, px_K_none, px_K_thr, px_kill, ↓reduceIte, if_true, if_false, true_and, and_true, px_gf, px_pf, h6, mf_20, mfs_26, mf_len, hv, Nat.reduceLT, px_fit, and_self, px_kill]
  exact lp n 0 (by omega) _ (iA h 642) (iA h 643) (iA h 644) (iA h 645) (iA h 646) _ ⟨frm_wr (frm_refl _ _) (.inl rfl), fun z => shape_mod z, by rw [wr_at, if_pos rfl, if_pos l6], by rw [wr_at, if_neg (by decide)]; exact at_642 hS, by rw [wr_at, if_neg (by decide)]; exact at_643 hS, by rw [wr_at, if_neg (by decide)]; exact at_644 hS, by rw [wr_at, if_neg (by decide)]; exact at_645 hS, by rw [wr_at, if_neg (by decide)]; exact at_646 hS⟩ (fun j hj => absurd hj (Nat.not_lt_zero j))
end OLD
