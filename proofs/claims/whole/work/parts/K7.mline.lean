/-! A LINE ENV, the reference's -/
section MSL
variable {sx : Nat × (Nat → Int32)} {h : px_H} {V g : Nat → Int32} {n s k e : Nat} {B : Nat → Nat} {m : aM} {C : Prop} {Q : px_O → px_H → Prop}
set_option maxRecDepth 16384 in
theorem m_sl_l {l1 : Option Value} (h6 : h.2[619]? = some (.inl (11, modF V))) (hA : h.2[620]? = some (.inr (1, 600, .inl g))) (hB : txM g n B) (hn : n ≤ 600) (hk : k ≤ n)
    (hQ : ∀ gd p, says gd (C ∧ ∀ j, s ≤ j → j < k → 97 ≤ B j ∧ B j ≤ 122) → px_Wp sx 159 126 [some (.ref 619), l1, some (.int (nI e)), some (.int (nI s)), some (.int (nI k)), some (.int gd), some (.int p)] [] h Q) :
    ∀ d i, i + d = k → s ≤ i → ∀ gd, ((gd = 1 ∧ C ∧ ∀ j, s ≤ j → j < i → 97 ≤ B j ∧ B j ≤ 122) ∨ (gd = 0 ∧ ¬ (C ∧ ∀ j, s ≤ j → j < k → 97 ≤ B j ∧ B j ≤ 122))) → px_Wp sx 159 88 [some (.ref 619), l1, some (.int (nI e)), some (.int (nI s)), some (.int (nI k)), some (.int gd), some (.int (nI i))] [] h Q := by
  intro d
  induction d with
  | zero =>
    intro i hi hs gd hg
    have hi : i = k := by omega
    subst hi
    have le : nI i ≤ nI i := Int32.le_refl _
    simp only [pc159_88, pc159_90, pc159_92, px_op_some, px_kv_ap, px_ki_ap, px_kl_ap, px_kn_ap, px_kh_ap, px_op_none, px_K_some, px_K_none, px_K_thr, px_kill, ↓reduceIte, if_true, if_false, true_and, and_true, le]
    refine hQ gd _ ?_
    rcases hg with ⟨a, b⟩ | ⟨a, b⟩
    · exact .inl ⟨a, b⟩
    · exact .inr ⟨a, b⟩
  | succ d ih =>
    intro i hi hs gd hg
    have ge : ¬ nI k ≤ nI i := nI_ge (by omega) (by omega)
    have ii : px_in (nI i) 600 = true := px_inb (by omega) (by decide)
    have ci : (nI i).toNatClampNeg = i := nI_clamp (by omega)
    obtain ⟨b1, b2⟩ := hB i (by omega)
    rcases hg with ⟨rfl, a, b⟩ | ⟨rfl, b⟩
    · simp only [pc159_88, pc159_90, pc159_92, pc159_95, pc159_97, pc159_100, pc159_100n, pc159_101, pc159_104, pc159_106, pc159_107, px_op_some, px_kv_ap, px_ki_ap, px_kl_ap, px_kn_ap, px_kh_ap, px_op_none, px_K_some, px_K_none, px_K_thr, px_kill, ↓reduceIte, if_true, if_false, true_and, and_true, px_gf, px_ai, h6, mf_1, hA, ge, ii, ci, b1, ne_1_0, tg_i1, and_self]
      refine m_isSmall (by omega) (fun x hx => ?_)
      rcases hx with ⟨rfl, y⟩ | ⟨rfl, y⟩
      · simp only [px_K_some, pc159_110, pc159_113, pc159_114, pc159_117, pc159_118, pc159_120, pc159_123, px_op_some, px_kv_ap, px_ki_ap, px_kl_ap, px_kn_ap, px_kh_ap, px_op_none, px_K_some, px_K_none, px_K_thr, px_kill, ↓reduceIte, if_true, if_false, true_and, and_true, px_kill, ne_1_0, nI_p1]
        refine ih (i + 1) (by omega) (by omega) 1 (.inl ⟨rfl, a, fun j j1 j2 => ?_⟩)
        by_cases z : j = i
        · subst z; exact y
        · exact b j j1 (by omega)
      · simp only [px_K_some, pc159_110, pc159_113, pc159_114, pc159_117, pc159_118, pc159_120, pc159_123, px_op_some, px_kv_ap, px_ki_ap, px_kl_ap, px_kn_ap, px_kh_ap, px_op_none, px_K_some, px_K_none, px_K_thr, px_kill, ↓reduceIte, if_true, if_false, true_and, and_true, px_kill, nI_p1]
        exact ih (i + 1) (by omega) (by omega) 0 (.inr ⟨rfl, fun z => y (z.2 i hs (by omega))⟩)
    · rw [pc159_88]
      simp only [pc159_90, pc159_92, pc159_95, pc159_97, pc159_117, pc159_118, pc159_120, pc159_123, px_op_some, px_kv_ap, px_ki_ap, px_kl_ap, px_kn_ap, px_kh_ap, px_op_none, px_K_some, px_K_none, px_K_thr, px_kill, ↓reduceIte, if_true, if_false, true_and, and_true, px_kill, ge, nI_p1]
      exact ih (i + 1) (by omega) (by omega) 0 (.inr ⟨rfl, b⟩)
set_option maxRecDepth 16384 in
theorem m_settingLine (h6 : h.2[619]? = some (.inl (11, modF V))) (im : imR h V m) (ok : imOK m) (hA : h.2[620]? = some (.inr (1, 600, .inl g))) (hB : txM g n B) (hn : n ≤ 600) (hs : s + 3 ≤ e) (he : e ≤ n) (hf : V 43 = 0)
    (hQ : ∀ x m' V' h', setL B (s + 4) e m x m' → imR h' V' m' → V' 43 = nI x → (∀ j, j ≠ 38 → j ≠ 43 → V' j = V j) → h'.2[619]? = some (.inl (11, modF V')) → frm mtA h h' → (shape h → shape h') → Q (.inl none) h') :
    px_Wp sx 159 0 [some (.ref 619), some (.int (nI s)), some (.int (nI e)), none, none, none, none] [] h Q := by
  have hcls : px_cls h 619 = some 11 := by unfold px_cls; rw [h6]
  have l6 : 619 < h.2.length := (List.getElem?_eq_some_iff.mp h6).1
  have o6 := ok.2.1
  have done : ∀ x : Nat, setL B (s + 4) e m x m → Q (.inl none) (px_wr h 619 (.inl (11, modF (px_up V 43 (nI x))))) := fun x sl => by
    refine hQ x m (px_up V 43 (nI x)) _ sl ?_ (up_same _ _ _) (fun j _ hj => up_ne hj) (by rw [wr_at, if_pos rfl, if_pos l6]) (frm_wr (frm_refl _ _) (.inl rfl)) (fun z => shape_int (k := 43) z h6 rfl)
    obtain ⟨v1, v2, L, NM, NS, VL, VS, d9, d0, d1, d2, d3, oL, rows⟩ := im
    exact ⟨by rw [up_ne (by decide)]; exact v1, by rw [up_ne (by decide)]; exact v2, L, NM, NS, VL, VS, by rw [wr_at, if_neg (by decide)]; exact d9, by rw [wr_at, if_neg (by decide)]; exact d0, by rw [wr_at, if_neg (by decide)]; exact d1, by rw [wr_at, if_neg (by decide)]; exact d2, by rw [wr_at, if_neg (by decide)]; exact d3, oL, rows⟩
  -- behind the letters
  have last : ∀ k gd p, (s + 4 < k → k = fnd B 32 (s + 4) (e - (s + 4))) → says gd (setG B (s + 4) e) → (setG B (s + 4) e → k = fnd B 32 (s + 4) (e - (s + 4))) → px_Wp sx 159 126 [some (.ref 619), some (.int (nI s)), some (.int (nI e)), some (.int (nI (s + 4))), some (.int (nI k)), some (.int gd), some (.int p)] [] h Q := by
    intro k gd p hk hg hk2
    rcases hg with ⟨rfl, G⟩ | ⟨rfl, G⟩
    · have ek := hk2 G
      have G' := G
      obtain ⟨g1, g2, g3, g4, g5, g6, g7⟩ := G'
      rw [← ek] at g2 g3 g4 g5 g6 g7
      have hl : ltr (patF B (s + 4) (k - (s + 4))) (k - (s + 4)) := ltr_pat (fun j hj => g7 _ (by omega) (by omega))
      have v2 := im.2.1
      have eqk : s + 4 + (k - (s + 4)) = k := by omega
      have fin : (iS m < 6 ∨ ∃ i, i < iS m ∧ iN m i = patF B (s + 4) (k - (s + 4))) → px_Wp sx 159 170 [some (.ref 619), some (.int (nI s)), some (.int (nI e)), some (.int (nI (s + 4))), some (.int (nI k)), some (.int 1), some (.int p)] [] h Q := fun room => by
        simp only [pc159_170, pc159_170n, pc159_171, pc159_172, pc159_174, pc159_175, px_op_some, px_kv_ap, px_ki_ap, px_kl_ap, px_kn_ap, px_kh_ap, px_op_none, px_K_some, px_K_none, px_K_thr, px_kill, ↓reduceIte, if_true, if_false, true_and, and_true, hcls]
        have go := m_set (sx := sx) (Q := px_K sx 159 178 [some (.ref 619), some (.int (nI s)), some (.int (nI e)), some (.int (nI (s + 4))), some (.int (nI k)), some (.int 1), some (.int p)] [] Q) (s := s + 4) (c := k - (s + 4)) (e := e) h6 im ok hA hB hn hl (by omega) (by omega) (by omega) he (by omega) room (fun m' V' h' sr ir hv6 hm fr sh => ?_)
        · rw [eqk] at go; exact go
        · simp only [px_K_none, pc159_178]
          rw [eqk] at sr
          refine hQ 0 m' V' h' (.inr ⟨G, by rw [← ek]; exact sr⟩) ir (by rw [hv6 43 (by decide)]; exact hf) (fun j j1 _ => hv6 j j1) hm fr sh
      by_cases x6 : iS m = 6
      · have e6 : nI (iS m) = 6 := by rw [x6]; rfl
        simp only [pc159_126, pc159_128, pc159_131, pc159_131n, pc159_132, pc159_133, pc159_136, pc159_139, pc159_139n, pc159_140, pc159_143, pc159_145, pc159_148, pc159_148n, pc159_149, pc159_149n, pc159_150, pc159_153, pc159_154, pc159_156, px_op_some, px_kv_ap, px_ki_ap, px_kl_ap, px_kn_ap, px_kh_ap, px_op_none, px_K_some, px_K_none, px_K_thr, px_kill, ↓reduceIte, if_true, if_false, true_and, and_true, px_gf, h6, mf_38, mf_1, v2, e6, ne_1_0, not_true_eq_false, not_false_eq_true, hcls]
        have go := m_setting (sx := sx) (Q := px_K sx 159 159 [some (.ref 619), some (.int (nI s)), some (.int (nI e)), some (.int (nI (s + 4))), some (.int (nI k)), some (.int 1), some (.int p)] [] Q) (s := s + 4) (c := k - (s + 4)) h6 im ok hA hB hn hl (by omega) (fun x hx => ?_)
        · rw [eqk] at go; exact go
        · rcases hx with ⟨i, i1, i2, rfl⟩ | ⟨no, rfl⟩
          · have ge : (0 : Int32) ≤ nI i := nI_pos' (by omega)
            simp only [px_K_some, pc159_159, px_op_some, px_kv_ap, px_ki_ap, px_kl_ap, px_kn_ap, px_kh_ap, px_op_none, px_K_some, px_K_none, px_K_thr, px_kill, ↓reduceIte, if_true, if_false, true_and, and_true, ge]
            exact fin (.inr ⟨i, i1, i2⟩)
          · have lt0 : ¬ (0 : Int32) ≤ -1 := by decide
            simp only [px_K_some, pc159_159, pc159_162, pc159_162n, pc159_163, pc159_164, px_op_some, px_kv_ap, px_ki_ap, px_kl_ap, px_kn_ap, px_kh_ap, px_op_none, px_K_some, px_K_none, px_K_thr, px_kill, ↓reduceIte, if_true, if_false, true_and, and_true, lt0, hcls]
            refine m_fail (x := 4) h6 hf ?_
            simp only [px_K_none, pc159_167, pc159_178]
            exact done 4 (.inr ⟨G, by rw [← ek]; exact .inr ⟨no, .inl ⟨x6, rfl, rfl⟩⟩⟩)
      · have n6 : ¬ nI (iS m) = 6 := fun z => x6 ((nI_eq (b := 6) (by omega) (by decide)).mp z)
        simp only [pc159_126, pc159_128, pc159_131, pc159_131n, pc159_132, pc159_133, pc159_136, pc159_139, pc159_139n, pc159_140, pc159_143, pc159_145, px_op_some, px_kv_ap, px_ki_ap, px_kl_ap, px_kn_ap, px_kh_ap, px_op_none, px_K_some, px_K_none, px_K_thr, px_kill, ↓reduceIte, if_true, if_false, true_and, and_true, px_gf, h6, mf_38, v2, n6, ne_1_0, not_false_eq_true]
        exact fin (.inl (by omega))
    · simp only [pc159_126, pc159_128, pc159_131, pc159_131n, pc159_132, pc159_133, px_op_some, px_kv_ap, px_ki_ap, px_kl_ap, px_kn_ap, px_kh_ap, px_op_none, px_K_some, px_K_none, px_K_thr, px_kill, ↓reduceIte, if_true, if_false, true_and, and_true, not_true_eq_false, hcls]
      refine m_fail (x := 1) h6 hf ?_
      simp only [px_K_none, pc159_136, pc159_178]
      exact done 1 (.inl ⟨G, rfl, rfl⟩)
  -- the conditions
  have cond : ∀ k, s + 4 ≤ k + 1 → k ≤ e → (s + 4 < e → k = fnd B 32 (s + 4) (e - (s + 4))) → (¬ s + 4 < e → k = e) → px_Wp sx 159 22 [some (.ref 619), some (.int (nI s)), some (.int (nI e)), some (.int (nI (s + 4))), none, none, none] [.int (nI k)] h Q := by
    intro k k0 ke kf kn
    have GG : setG B (s + 4) e ↔ (s + 4 < k ∧ k ≤ s + 4 + 8 ∧ k + 2 ≤ e ∧ e ≤ k + 13 ∧ fnd B 32 (k + 1) (e - (k + 1)) = e) ∧ ∀ j, s + 4 ≤ j → j < k → 97 ≤ B j ∧ B j ≤ 122 := by
      by_cases x : s + 4 < e
      · unfold setG
        rw [← kf x]
        exact ⟨fun z => ⟨⟨z.2.1, z.2.2.1, z.2.2.2.1, z.2.2.2.2.1, z.2.2.2.2.2.1⟩, z.2.2.2.2.2.2⟩, fun z => ⟨by omega, z.1.1, z.1.2.1, z.1.2.2.1, z.1.2.2.2.1, z.1.2.2.2.2, z.2⟩⟩
      · refine ⟨fun z => ?_, fun z => by have := z.1.1; omega⟩
        obtain ⟨z1, z2, -, z4, -⟩ := z
        omega
    have tail : ∀ gd, says gd (s + 4 < k ∧ k ≤ s + 4 + 8 ∧ k + 2 ≤ e ∧ e ≤ k + 13 ∧ fnd B 32 (k + 1) (e - (k + 1)) = e) → px_Wp sx 159 83 [some (.ref 619), some (.int (nI s)), some (.int (nI e)), some (.int (nI (s + 4))), some (.int (nI k)), none, none] [.int gd] h Q := by
      intro gd hg
      simp only [pc159_83, pc159_85, pc159_86, px_op_some, px_kv_ap, px_ki_ap, px_kl_ap, px_kn_ap, px_kh_ap, px_op_none, px_K_some, px_K_none, px_K_thr, px_kill, ↓reduceIte, if_true, if_false, true_and, and_true, px_kill]
      have lk : ∀ gd p, says gd ((s + 4 < k ∧ k ≤ s + 4 + 8 ∧ k + 2 ≤ e ∧ e ≤ k + 13 ∧ fnd B 32 (k + 1) (e - (k + 1)) = e) ∧ ∀ j, s + 4 ≤ j → j < k → 97 ≤ B j ∧ B j ≤ 122) → px_Wp sx 159 126 [some (.ref 619), some (.int (nI s)), some (.int (nI e)), some (.int (nI (s + 4))), some (.int (nI k)), some (.int gd), some (.int p)] [] h Q := fun gd p z => last k gd p (fun x => kf (by omega)) (says_congr z GG.symm) (fun x => kf (by have := x.2.2.2.1; have := x.2.1; omega))
      by_cases x : s + 4 ≤ k
      · refine m_sl_l (C := s + 4 < k ∧ k ≤ s + 4 + 8 ∧ k + 2 ≤ e ∧ e ≤ k + 13 ∧ fnd B 32 (k + 1) (e - (k + 1)) = e) h6 hA hB hn (by omega) lk (k - (s + 4)) (s + 4) (by omega) (Nat.le_refl _) gd ?_
        rcases hg with ⟨a, b⟩ | ⟨a, b⟩
        · exact .inl ⟨a, b, fun j j1 j2 => absurd j2 (by omega)⟩
        · exact .inr ⟨a, fun z => b z.1⟩
      · have le : nI k ≤ nI (s + 4) := nI_le (by omega) (by omega)
        simp only [pc159_88, pc159_90, pc159_92, px_op_some, px_kv_ap, px_ki_ap, px_kl_ap, px_kn_ap, px_kh_ap, px_op_none, px_K_some, px_K_none, px_K_thr, px_kill, ↓reduceIte, if_true, if_false, true_and, and_true, le]
        refine lk gd _ ?_
        rcases hg with ⟨-, b⟩ | ⟨a, b⟩
        · omega
        · exact .inr ⟨a, fun z => b z.1⟩
    by_cases c1 : k ≤ s + 4
    · have le : nI k ≤ nI (s + 4) := nI_le c1 (by omega)
      simp only [pc159_22, pc159_24, pc159_26, pc159_27, pc159_82, px_op_some, px_kv_ap, px_ki_ap, px_kl_ap, px_kn_ap, px_kh_ap, px_op_none, px_K_some, px_K_none, px_K_thr, px_kill, ↓reduceIte, if_true, if_false, true_and, and_true, px_kill, le]
      exact tail 0 (.inr ⟨rfl, by omega⟩)
    have n1 : ¬ nI k ≤ nI (s + 4) := nI_ge (by omega) (by omega)
    have s1 : nI k - nI (s + 4) = nI (k - (s + 4)) := nI_sub (by omega)
    by_cases c2 : 9 ≤ k - (s + 4)
    · have le : 9 ≤ nI (k - (s + 4)) := nI_le (a := 9) c2 (by omega)
      simp only [pc159_22, pc159_24, pc159_26, pc159_27, pc159_30, pc159_32, pc159_33, pc159_34, pc159_36, pc159_82, px_op_some, px_kv_ap, px_ki_ap, px_kl_ap, px_kn_ap, px_kh_ap, px_op_none, px_K_some, px_K_none, px_K_thr, px_kill, ↓reduceIte, if_true, if_false, true_and, and_true, px_kill, n1, s1, le]
      exact tail 0 (.inr ⟨rfl, by omega⟩)
    have n2 : ¬ 9 ≤ nI (k - (s + 4)) := nI_ge (b := 9) (by omega) (by decide)
    by_cases c3 : e ≤ k
    · have le : nI e ≤ nI k := nI_le c3 (by omega)
      simp only [pc159_22, pc159_24, pc159_26, pc159_27, pc159_30, pc159_32, pc159_33, pc159_34, pc159_36, pc159_39, pc159_41, pc159_42, pc159_82, px_op_some, px_kv_ap, px_ki_ap, px_kl_ap, px_kn_ap, px_kh_ap, px_op_none, px_K_some, px_K_none, px_K_thr, px_kill, ↓reduceIte, if_true, if_false, true_and, and_true, px_kill, n1, s1, n2, le]
      exact tail 0 (.inr ⟨rfl, by omega⟩)
    have n3 : ¬ nI e ≤ nI k := nI_ge (by omega) (by omega)
    have s2 : nI e - nI k = nI (e - k) := nI_sub (by omega)
    by_cases c4 : e - k ≤ 1
    · have le : nI (e - k) ≤ 1 := nI_le (b := 1) c4 (by decide)
      simp only [pc159_22, pc159_24, pc159_26, pc159_27, pc159_30, pc159_32, pc159_33, pc159_34, pc159_36, pc159_39, pc159_41, pc159_42, pc159_45, pc159_46, pc159_48, pc159_49, pc159_50, pc159_82, px_op_some, px_kv_ap, px_ki_ap, px_kl_ap, px_kn_ap, px_kh_ap, px_op_none, px_K_some, px_K_none, px_K_thr, px_kill, ↓reduceIte, if_true, if_false, true_and, and_true, px_kill, n1, s1, n2, n3, s2, le]
      exact tail 0 (.inr ⟨rfl, by omega⟩)
    have n4 : ¬ nI (e - k) ≤ 1 := nI_ge (a := 1) (by omega) (by omega)
    by_cases c5 : 14 ≤ e - k
    · have le : 14 ≤ nI (e - k) := nI_le (a := 14) c5 (by omega)
      simp only [pc159_22, pc159_24, pc159_26, pc159_27, pc159_30, pc159_32, pc159_33, pc159_34, pc159_36, pc159_39, pc159_41, pc159_42, pc159_45, pc159_46, pc159_48, pc159_49, pc159_50, pc159_53, pc159_54, pc159_56, pc159_57, pc159_59, pc159_82, px_op_some, px_kv_ap, px_ki_ap, px_kl_ap, px_kn_ap, px_kh_ap, px_op_none, px_K_some, px_K_none, px_K_thr, px_kill, ↓reduceIte, if_true, if_false, true_and, and_true, px_kill, n1, s1, n2, n3, s2, n4, le]
      exact tail 0 (.inr ⟨rfl, by omega⟩)
    have n5 : ¬ 14 ≤ nI (e - k) := nI_ge (b := 14) (by omega) (by decide)
    simp only [pc159_22, pc159_24, pc159_26, pc159_27, pc159_30, pc159_32, pc159_33, pc159_34, pc159_36, pc159_39, pc159_41, pc159_42, pc159_45, pc159_46, pc159_48, pc159_49, pc159_50, pc159_53, pc159_54, pc159_56, pc159_57, pc159_59, pc159_62, pc159_62n, pc159_63, pc159_66, pc159_68, pc159_69, pc159_70, pc159_71, px_op_some, px_kv_ap, px_ki_ap, px_kl_ap, px_kn_ap, px_kh_ap, px_op_none, px_K_some, px_K_none, px_K_thr, px_kill, ↓reduceIte, if_true, if_false, true_and, and_true, px_gf, h6, mf_1, px_kill, n1, s1, n2, n3, s2, n4, n5, nI_p1]
    refine m_wordEnd hA (by decide) hB hn (by omega) he ?_
    obtain ⟨t1, t2⟩ := fnd_rng (B := B) (c := 32) (e - (k + 1)) (k + 1)
    by_cases c6 : fnd B 32 (k + 1) (e - (k + 1)) = e
    · have e6 : nI (fnd B 32 (k + 1) (e - (k + 1))) = nI e := by rw [c6]
      simp only [px_K_some, pc159_74, pc159_75, pc159_78, pc159_79, px_op_some, px_kv_ap, px_ki_ap, px_kl_ap, px_kn_ap, px_kh_ap, px_op_none, px_K_some, px_K_none, px_K_thr, px_kill, ↓reduceIte, if_true, if_false, true_and, and_true, e6, not_true_eq_false]
      exact tail 1 (.inl ⟨rfl, by omega, by omega, by omega, by omega, c6⟩)
    · have e6 : ¬ nI (fnd B 32 (k + 1) (e - (k + 1))) = nI e := fun z => c6 ((nI_eq (by omega) (by omega)).mp z)
      simp only [px_K_some, pc159_74, pc159_75, pc159_82, px_op_some, px_kv_ap, px_ki_ap, px_kl_ap, px_kn_ap, px_kh_ap, px_op_none, px_K_some, px_K_none, px_K_thr, px_kill, ↓reduceIte, if_true, if_false, true_and, and_true, e6, not_false_eq_true]
      exact tail 0 (.inr ⟨rfl, fun z => c6 z.2.2.2.2⟩)
  by_cases x : s + 4 < e
  · have ge : ¬ nI e ≤ nI (s + 4) := nI_ge x (by omega)
    simp only [pc159_0, pc159_1, pc159_2, pc159_3, pc159_4, pc159_5, pc159_6, pc159_9, pc159_9n, pc159_10, pc159_13, pc159_14, pc159_15, px_op_some, px_kv_ap, px_ki_ap, px_kl_ap, px_kn_ap, px_kh_ap, px_op_none, px_K_some, px_K_none, px_K_thr, px_kill, ↓reduceIte, if_true, if_false, true_and, and_true, px_gf, h6, mf_1, px_kill, nI_p4, ge]
    refine m_wordEnd hA (by decide) hB hn (by omega) he ?_
    obtain ⟨t1, t2⟩ := fnd_rng (B := B) (c := 32) (e - (s + 4)) (s + 4)
    simp only [px_K_some, pc159_18, px_op_some, px_kv_ap, px_ki_ap, px_kl_ap, px_kn_ap, px_kh_ap, px_op_none, px_K_some, px_K_none, px_K_thr, px_kill, ↓reduceIte, if_true, if_false, true_and, and_true]
    exact cond _ (by omega) (by omega) (fun _ => rfl) (fun z => absurd x z)
  · have ge : nI e ≤ nI (s + 4) := nI_le (by omega) (by omega)
    simp only [pc159_0, pc159_1, pc159_2, pc159_3, pc159_4, pc159_5, pc159_6, pc159_21, px_op_some, px_kv_ap, px_ki_ap, px_kl_ap, px_kn_ap, px_kh_ap, px_op_none, px_K_some, px_K_none, px_K_thr, px_kill, ↓reduceIte, if_true, if_false, true_and, and_true, px_gf, h6, mf_1, px_kill, nI_p4, ge]
    exact cond e (by omega) (Nat.le_refl _) (fun z => absurd z x) (fun _ => rfl)
end MSL
