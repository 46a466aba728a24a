/-! THE CHANGES, the reference's -/
set_option maxRecDepth 16384 in
theorem moE_frm {h h' : px_H} {n : Nat} {T : Nat → aE} (w : moE h n T) (e : ∀ r, 642 ≤ r → r ≤ 646 → h'.2[r]? = h.2[r]?) : moE h' n T := by
  obtain ⟨P, LN, K, Z, C, ⟨a1, a2, a3, a4, a5⟩, w2⟩ := w
  exact ⟨P, LN, K, Z, C, ⟨(e _ (by decide) (by decide)).trans a1, (e _ (by decide) (by decide)).trans a2, (e _ (by decide) (by decide)).trans a3, (e _ (by decide) (by decide)).trans a4, (e _ (by decide) (by decide)).trans a5⟩, w2⟩
section MCHG
variable {sx : Nat × (Nat → Int32)} {h : px_H} {n m i j a d : Nat} {E F : Nat → aE} {g V row : Nat → Int32} {Q : px_O → px_H → Prop}
set_option maxRecDepth 16384 in
theorem moE_out {v ro : Nat → Int32} (w : moE h n E) : moE (outH h v ro) n E := moE_frm w (fun r h1 h2 => outH_at (by omega) (by omega))
set_option maxRecDepth 16384 in
theorem mtE_out {v ro : Nat → Int32} {D : Nat → Prop} (w : mtE h D F) : mtE (outH h v ro) D F := mtE_frm w (fun r hr => by unfold mEA at hr; exact outH_at (by omega) (by omega))
set_option maxRecDepth 16384 in
theorem m_newItem {K : Nat} (hl : 668 < h.2.length) (hv : V 26 = nI n) (hv' : V 20 = nI m) (hn : n ≤ 40) (hm : m ≤ 40) (wo : moE h n E) (we : mtE h (fun i => i < m) F) (ok : tOK n E) (ok' : tOK m F) (by_ : ∀ j, j < m → byE (F j)) (hj : j < m)
    (hK : (∃ i, i < n ∧ eP (E i) = eP (F j) ∧ K = botK n E m F i j) ∨ ((∀ i, i < n → ¬ eP (E i) = eP (F j)) ∧ K = eK (F j))) (ha : a + itmN K (F j) ≤ 4120) (b : bytR row a g)
    (hQ : ∀ row', bytR row' (a + itmN K (F j)) (itmB g a K (F j)) → Q (.inl none) (outH h (px_up V 17 (nI (a + itmN K (F j)))) row')) :
    px_Wp sx 209 0 [some (.ref 619), some (.int (nI j)), none] [] (outH h (px_up V 17 (nI a)) row) Q := by
  have hl6 : 636 < h.2.length := by omega
  have z6 : (outH h (px_up V 17 (nI a)) row).2[619]? = some (.inl (11, modF (px_up V 17 (nI a)))) := outH_o hl6
  have zc : px_cls (outH h (px_up V 17 (nI a)) row) 619 = some 11 := by unfold px_cls; rw [z6]
  have v26 : px_up V 17 (nI a) 26 = nI n := by rw [up_ne (by decide)]; exact hv
  have v20 : px_up V 17 (nI a) 20 = nI m := by rw [up_ne (by decide)]; exact hv'
  have wo1 : moE (outH h (px_up V 17 (nI a)) row) n E := moE_out wo
  have we1 : mtE (outH h (px_up V 17 (nI a)) row) (fun i => i < m) F := mtE_out we
  have we2 := we1
  have we3 := we
  obtain ⟨P, LN, KK, Z, C, ⟨a1, a2, a3, a4, a5⟩, w2⟩ := we2
  obtain ⟨P', LN', KK', Z', C', ⟨h1, h2, h3, h4, h5⟩, w2'⟩ := we3
  obtain ⟨j82, okj, r1, r2, r3, r4, r5⟩ := w2 j hj
  obtain ⟨-, -, -, -, -, r4', -⟩ := w2' j hj
  have wo2 := wo1
  obtain ⟨P0, LN0, K0, Z0, C0, ⟨b1, b2, b3, b4, b5⟩, v2⟩ := wo2
  have l35 := okj.1.2.1
  have ij : px_in (nI j) 82 = true := px_inb j82 (by decide)
  have cj : (nI j).toNatClampNeg = j := nI_clamp (by omega)
  have n12 : ¬ (1 : Int32) = 2 := by decide
  have neg : (-1 : Int32) < 0 := by decide
  have no : ∀ l2, K = 0 → px_Wp sx 209 130 [some (.ref 619), some (.int (nI j)), l2] [] (outH h (px_up V 17 (nI a)) row) Q := fun l2 k0 => by
    subst k0
    simp only [pc209_130]
    exact hQ row (fun x hx => by unfold itmB; rw [if_pos (.inl rfl)]; exact b x hx)
  have item : ∀ l2 pc, (pc = 62 ∨ pc = 99 ∨ pc = 130) → K ≠ 0 → K ≤ 4 → (K = 2 → eK (F j) = 2) → px_Wp sx 212 0 [some (.ref 619), some (.int (nI K)), some (.ref 637), some (.int (nI (36 * j))), some (.int (nI (eL (F j)))), some (.int (nI j)), none, none] [] (outH h (px_up V 17 (nI a)) row) (px_K sx 209 pc [some (.ref 619), some (.int (nI j)), l2] [] Q) := fun l2 pc hpc k0 k4 k2 => by
    refine m_item (e := F j) hl h1 (by decide) (by decide) (by decide) (by omega) r4' we okj k4 k0 (fun z => ⟨j, hj, rfl, rfl, by_ j hj⟩) ha b (fun row' br => ?_)
    rcases hpc with rfl | rfl | rfl
    · simp only [px_K_none, pc209_62, pc209_130]
      exact hQ row' br
    · simp only [px_K_none, pc209_99, pc209_130]
      exact hQ row' br
    · simp only [px_K_none, pc209_130]
      exact hQ row' br
  have kj : nI (eK (F j)) = 2 ∧ eK (F j) = 2 ∨ nI (eK (F j)) = 1 ∧ eK (F j) = 1 := by
    rcases okj.2 with z | z
    · exact .inr ⟨by rw [z.1]; rfl, z.1⟩
    · exact .inl ⟨by rw [z.1]; rfl, z.1⟩
  simp only [pc209_0, pc209_0n, pc209_1, pc209_1n, pc209_2, pc209_5, pc209_7, pc209_8, pc209_9, pc209_9n, pc209_10, pc209_13, pc209_14, pc209_15, px_op_some, px_kv_ap, px_ki_ap, px_kl_ap, px_kn_ap, px_kh_ap, px_op_none, px_K_some, px_K_none, px_K_thr, px_kill, ↓reduceIte, if_true, if_false, true_and, and_true, px_gf, px_ai, z6, mf_21, mf_22, a2, ij, cj, r1, mul_36, tg_i1, and_self, zc]
  refine m_oldEntryOf z6 v26 (by omega) wo1 a1 (by decide) (by omega) (pth_rng okj.1) r4 (fun x hx => ?_)
  rcases hx with ⟨i, i1, i2, rfl⟩ | ⟨i1, rfl⟩
  · have kb : K = botK n E m F i j := by
      rcases hK with ⟨i', p1, p2, p3⟩ | ⟨p1, -⟩
      · rw [srt_uniq ok i1 p1 (i2.trans p2.symm)]; exact p3
      · exact absurd i2 (p1 i i1)
    have k4 : K ≤ 4 := by rw [kb]; exact bot_4
    have k2 : K = 2 → eK (F j) = 2 := fun z => bot_2 (kb.symm.trans z)
    unfold botK at kb
    have pi : ¬ nI i < 0 := nI_pos (by omega)
    obtain ⟨i46, oki, s1, s2, s3, s4, s5⟩ := v2 i i1
    have ii : px_in (nI i) 46 = true := px_inb i46 (by decide)
    have ci : (nI i).toNatClampNeg = i := nI_clamp (by omega)
    have ki : nI (eK (E i)) = 2 ∧ eK (E i) = 2 ∨ nI (eK (E i)) = 1 ∧ eK (E i) = 1 := by
      rcases oki.2 with z | z
      · exact .inr ⟨by rw [z.1]; rfl, z.1⟩
      · exact .inl ⟨by rw [z.1]; rfl, z.1⟩
    rcases kj with ⟨kj, kj'⟩ | ⟨kj, kj'⟩
    · rw [if_pos kj'] at kb
      simp only [px_K_some, pc209_18, pc209_19, pc209_19n, pc209_20, pc209_23, pc209_24, pc209_25, pc209_26, pc209_29, pc209_30, pc209_33, pc209_33n, pc209_34, pc209_35, pc209_36, px_op_some, px_kv_ap, px_ki_ap, px_kl_ap, px_kn_ap, px_kh_ap, px_op_none, px_K_some, px_K_none, px_K_thr, px_kill, ↓reduceIte, if_true, if_false, true_and, and_true, px_gf, px_ai, z6, mf_23, a3, ij, cj, r2, kj, pi, not_true_eq_false, tg_i1, and_self, zc, px_kill]
      refine m_sameFile z6 wo1 we1 i1 hj (fun y hy => ?_)
      rcases hy with ⟨rfl, hy⟩ | ⟨rfl, hy⟩
      · rw [pif_t hy] at kb
        simp only [px_K_some, pc209_39, ne_1_0, not_false_eq_true, if_true]
        exact no _ kb
      · rw [pif_f hy] at kb
        simp only [px_K_some, pc209_39, pc209_42, pc209_42n, pc209_43, pc209_44, pc209_44n, pc209_45, pc209_48, pc209_50, pc209_51, pc209_52, pc209_52n, pc209_53, pc209_56, pc209_57, pc209_58, pc209_59, px_op_some, px_kv_ap, px_ki_ap, px_kl_ap, px_kn_ap, px_kh_ap, px_op_none, px_K_some, px_K_none, px_K_thr, px_kill, ↓reduceIte, if_true, if_false, true_and, and_true, px_gf, px_ai, z6, mf_21, mf_22, a2, ij, cj, r1, mul_36, not_true_eq_false, tg_i1, and_self, zc]
        have := item (some (.int (nI i))) 62 (.inl rfl) (by omega) k4 k2
        rw [kb] at this
        exact this
    · rw [if_neg (by omega)] at kb
      rcases ki with ⟨ki, ki'⟩ | ⟨ki, ki'⟩
      · rw [if_pos ki'] at kb
        simp only [px_K_some, pc209_18, pc209_19, pc209_19n, pc209_20, pc209_23, pc209_24, pc209_25, pc209_26, pc209_65, pc209_66, pc209_69, pc209_69n, pc209_70, pc209_73, pc209_74, pc209_75, pc209_76, pc209_79, pc209_79n, pc209_80, pc209_81, pc209_81n, pc209_82, pc209_85, pc209_87, pc209_88, pc209_89, pc209_89n, pc209_90, pc209_93, pc209_94, pc209_95, pc209_96, px_op_some, px_kv_ap, px_ki_ap, px_kl_ap, px_kn_ap, px_kh_ap, px_op_none, px_K_some, px_K_none, px_K_thr, px_kill, ↓reduceIte, if_true, if_false, true_and, and_true, px_gf, px_ai, z6, mf_21, mf_22, mf_23, mf_29, a2, a3, b3, ij, cj, ii, ci, r1, r2, s2, kj, ki, n12, pi, mul_36, not_true_eq_false, not_false_eq_true, tg_i1, and_self, zc, px_kill]
        have := item (some (.int (nI i))) 99 (.inr (.inl rfl)) (by omega) k4 k2
        rw [kb] at this
        exact this
      · rw [if_neg (by omega)] at kb
        simp only [px_K_some, pc209_18, pc209_19, pc209_19n, pc209_20, pc209_23, pc209_24, pc209_25, pc209_26, pc209_65, pc209_66, pc209_69, pc209_69n, pc209_70, pc209_73, pc209_74, pc209_75, pc209_76, pc209_102, pc209_102n, pc209_103, pc209_104, px_op_some, px_kv_ap, px_ki_ap, px_kl_ap, px_kn_ap, px_kh_ap, px_op_none, px_K_some, px_K_none, px_K_thr, px_kill, ↓reduceIte, if_true, if_false, true_and, and_true, px_gf, px_ai, z6, mf_23, mf_29, a3, b3, ij, cj, ii, ci, r2, s2, kj, ki, n12, pi, not_true_eq_false, not_false_eq_true, tg_i1, and_self, zc, px_kill]
        refine m_isEmptied z6 v26 v20 (by omega) (by omega) wo1 we1 i1 (fun y hy => ?_)
        rcases hy with ⟨rfl, hy⟩ | ⟨rfl, hy⟩
        · rw [pif_t hy] at kb
          simp only [px_K_some, pc209_107, pc209_110, pc209_110n, pc209_111, pc209_112, pc209_112n, pc209_113, pc209_116, pc209_118, pc209_119, pc209_120, pc209_120n, pc209_121, pc209_124, pc209_125, pc209_126, pc209_127, px_op_some, px_kv_ap, px_ki_ap, px_kl_ap, px_kn_ap, px_kh_ap, px_op_none, px_K_some, px_K_none, px_K_thr, px_kill, ↓reduceIte, if_true, if_false, true_and, and_true, px_gf, px_ai, z6, mf_21, mf_22, a2, ij, cj, r1, mul_36, ne_1_0, tg_i1, and_self, zc]
          have := item (some (.int (nI i))) 130 (.inr (.inr rfl)) (by omega) k4 k2
          rw [kb] at this
          exact this
        · rw [pif_f hy] at kb
          simp only [px_K_some, pc209_107, if_true]
          exact no _ kb
  · have kb : K = eK (F j) := by
      rcases hK with ⟨i', p1, p2, p3⟩ | ⟨-, p2⟩
      · exact absurd p2 (i1 i' p1)
      · exact p2
    rcases kj with ⟨kj, kj'⟩ | ⟨kj, kj'⟩
    · simp only [px_K_some, pc209_18, pc209_19, pc209_19n, pc209_20, pc209_23, pc209_24, pc209_25, pc209_26, pc209_29, pc209_30, pc209_42, pc209_42n, pc209_43, pc209_44, pc209_44n, pc209_45, pc209_48, pc209_50, pc209_51, pc209_52, pc209_52n, pc209_53, pc209_56, pc209_57, pc209_58, pc209_59, px_op_some, px_kv_ap, px_ki_ap, px_kl_ap, px_kn_ap, px_kh_ap, px_op_none, px_K_some, px_K_none, px_K_thr, px_kill, ↓reduceIte, if_true, if_false, true_and, and_true, px_gf, px_ai, z6, mf_21, mf_22, mf_23, a2, a3, ij, cj, r1, r2, kj, neg, mul_36, not_true_eq_false, tg_i1, and_self, zc, px_kill]
      have := item (some (.int (-1))) 62 (.inl rfl) (by omega) (by omega) (fun _ => kj')
      rw [kb, kj'] at this
      exact this
    · simp only [px_K_some, pc209_18, pc209_19, pc209_19n, pc209_20, pc209_23, pc209_24, pc209_25, pc209_26, pc209_65, pc209_66, pc209_79, pc209_79n, pc209_80, pc209_81, pc209_81n, pc209_82, pc209_85, pc209_87, pc209_88, pc209_89, pc209_89n, pc209_90, pc209_93, pc209_94, pc209_95, pc209_96, px_op_some, px_kv_ap, px_ki_ap, px_kl_ap, px_kn_ap, px_kh_ap, px_op_none, px_K_some, px_K_none, px_K_thr, px_kill, ↓reduceIte, if_true, if_false, true_and, and_true, px_gf, px_ai, z6, mf_21, mf_22, mf_23, a2, a3, ij, cj, r1, r2, kj, n12, neg, mul_36, not_false_eq_true, tg_i1, and_self, zc, px_kill]
      have := item (some (.int (-1))) 99 (.inr (.inl rfl)) (by omega) (by omega) (fun z => by omega)
      rw [kb, kj'] at this
      exact this
set_option maxRecDepth 16384 in
theorem m_goneItem (hl : 668 < h.2.length) (hv : V 26 = nI n) (hv' : V 20 = nI m) (hn : n ≤ 40) (hm : m ≤ 40) (wo : moE h n E) (we : mtE h (fun i => i < m) F) (ok : tOK n E) (ok' : tOK m F) (hi : i < n)
    (ha : a + itmN (gonK n E m F i) (E i) ≤ 4120) (b : bytR row a g)
    (hQ : ∀ row', bytR row' (a + itmN (gonK n E m F i) (E i)) (itmB g a (gonK n E m F i) (E i)) → Q (.inl none) (outH h (px_up V 17 (nI (a + itmN (gonK n E m F i) (E i)))) row')) :
    px_Wp sx 215 0 [some (.ref 619), some (.int (nI i)), none, none, none, none] [] (outH h (px_up V 17 (nI a)) row) Q := by
  have hl6 : 636 < h.2.length := by omega
  have z6 : (outH h (px_up V 17 (nI a)) row).2[619]? = some (.inl (11, modF (px_up V 17 (nI a)))) := outH_o hl6
  have zc : px_cls (outH h (px_up V 17 (nI a)) row) 619 = some 11 := by unfold px_cls; rw [z6]
  have v26 : px_up V 17 (nI a) 26 = nI n := by rw [up_ne (by decide)]; exact hv
  have v20 : px_up V 17 (nI a) 20 = nI m := by rw [up_ne (by decide)]; exact hv'
  have wo1 : moE (outH h (px_up V 17 (nI a)) row) n E := moE_out wo
  have we1 : mtE (outH h (px_up V 17 (nI a)) row) (fun i => i < m) F := mtE_out we
  have we2 := we1
  obtain ⟨P, LN, KK, Z, C, ⟨a1, a2, a3, a4, a5⟩, w2⟩ := we2
  have wo2 := wo1
  have wo3 := wo
  obtain ⟨P0, LN0, K0, Z0, C0, ⟨b1, b2, b3, b4, b5⟩, v2⟩ := wo2
  obtain ⟨P1, LN1, K1, Z1, C1, ⟨d1, d2, d3, d4, d5⟩, v3⟩ := wo3
  obtain ⟨i46, oki, s1, s2, s3, s4, s5⟩ := v2 i hi
  obtain ⟨-, -, -, -, -, s4', -⟩ := v3 i hi
  have l35 := oki.1.2.1
  have hh := (home_lt (p := eP (E i)) (eL (E i))).1
  have ii : px_in (nI i) 46 = true := px_inb i46 (by decide)
  have ci : (nI i).toNatClampNeg = i := nI_clamp (by omega)
  have n21 : ¬ (2 : Int32) = 1 := by decide
  have neg : (-1 : Int32) < 0 := by decide
  have neg' : ¬ (0 : Int32) ≤ -1 := by decide
  have yes : gonP n E m F i → ∀ l2 l3 l4 l5, px_Wp sx 215 104 [some (.ref 619), some (.int (nI i)), l2, l3, some (.int l4), l5] [.int 1] (outH h (px_up V 17 (nI a)) row) Q := fun gp l2 l3 l4 l5 => by
    have gk : gonK n E m F i = 3 := pif_t gp
    rw [gk] at hQ ha
    simp only [pc215_104, pc215_106, pc215_108, pc215_111, pc215_111n, pc215_112, pc215_113, pc215_113n, pc215_114, pc215_117, pc215_119, pc215_120, pc215_121, pc215_121n, pc215_122, pc215_125, pc215_126, pc215_127, pc215_128, px_op_some, px_kv_ap, px_ki_ap, px_kl_ap, px_kn_ap, px_kh_ap, px_op_none, px_K_some, px_K_none, px_K_thr, px_kill, ↓reduceIte, if_true, if_false, true_and, and_true, px_gf, px_ai, z6, mf_27, mf_28, b2, ii, ci, s1, mul_36, ne_1_0, tg_i1, and_self, zc, px_kill]
    refine m_item (k := 3) (e := E i) hl d1 (by decide) (by decide) (by decide) (by omega) s4' we oki (by decide) (by decide) (fun z => by omega) ha b (fun row' br => ?_)
    simp only [px_K_none, pc215_131]
    exact hQ row' br
  have not : ¬ gonP n E m F i → ∀ l2 l3 l4 l5, px_Wp sx 215 104 [some (.ref 619), some (.int (nI i)), l2, l3, some (.int l4), l5] [.int 0] (outH h (px_up V 17 (nI a)) row) Q := fun gp l2 l3 l4 l5 => by
    have gk : gonK n E m F i = 0 := pif_f gp
    rw [gk] at hQ
    simp only [pc215_104, pc215_106, pc215_108, pc215_131, if_true, px_kill]
    exact hQ row (fun x hx => by unfold itmB; rw [if_pos (.inl rfl)]; exact b x hx)
  simp only [pc215_0, pc215_0n, pc215_1, pc215_4, pc215_6, pc215_7, pc215_8, pc215_8n, pc215_9, pc215_12, pc215_13, pc215_14, px_op_some, px_kv_ap, px_ki_ap, px_kl_ap, px_kn_ap, px_kh_ap, px_op_none, px_K_some, px_K_none, px_K_thr, px_kill, ↓reduceIte, if_true, if_false, true_and, and_true, px_gf, px_ai, z6, mf_27, mf_28, b2, ii, ci, s1, mul_36, tg_i1, and_self]
  refine m_above b1 (by decide) (by omega) oki.1 s4 ?_
  unfold abv
  by_cases x : homeL (eP (E i)) (eL (E i)) = 0
  · rw [if_pos x]
    simp only [px_K_some, pc215_17, pc215_18, pc215_19, pc215_22, pc215_23, pc215_32, pc215_33, pc215_34, pc215_37, pc215_38, pc215_54, pc215_56, pc215_57, pc215_99, pc215_100, neg, neg', if_true, if_false, px_kill]
    exact yes (.inl x) _ _ _ _
  · rw [if_neg x]
    have pos : ¬ nI (homeL (eP (E i)) (eL (E i))) < 0 := nI_pos (by omega)
    have pos' : 0 ≤ nI (homeL (eP (E i)) (eL (E i))) := nI_pos' (by omega)
    simp only [px_K_some, pc215_17, pc215_18, pc215_19, pc215_22, pc215_23, pc215_26, pc215_26n, pc215_27, pc215_28, pc215_29, pos', if_true, zc, true_and, px_kill]
    refine m_newOf z6 v20 (by omega) we1 wo1 hi hh (fun y hy => ?_)
    obtain ⟨w, w1, w2', w3⟩ := ok.2.2.2 i hi x
    simp only [px_K_some, pc215_32, pc215_33, pc215_34, pc215_37, pc215_38, pc215_41, pc215_41n, pc215_42, pc215_42n, pc215_43, pc215_46, pc215_48, pc215_49, pc215_50, pc215_51, px_op_some, px_kv_ap, px_ki_ap, px_kl_ap, px_kn_ap, px_kh_ap, px_op_none, px_K_some, px_K_none, px_K_thr, px_kill, ↓reduceIte, if_true, if_false, true_and, and_true, px_gf, z6, mf_27, pos', mul_36, zc, px_kill]
    refine m_oldEntryOf z6 v26 (by omega) wo1 b1 (by decide) (by omega) (sgs_cut (pth_rng oki.1) hh) (fun j hj => by rw [cutP_lt hj]; exact s4 j (by omega)) (fun v hv2 => ?_)
    have vw : v = nI w := by
      rcases hv2 with ⟨u, u1, u2, rfl⟩ | ⟨u1, -⟩
      · rw [srt_uniq ok u1 w1 (u2.trans w2'.symm)]
      · exact absurd w2' (u1 w w1)
    subst vw
    obtain ⟨w46, okw, t1, t2, t3, t4, t5⟩ := v2 w w1
    have iw : px_in (nI w) 46 = true := px_inb w46 (by decide)
    have cw : (nI w).toNatClampNeg = w := nI_clamp (by omega)
    have pw : ¬ nI w < 0 := nI_pos (by omega)
    have kw : nI (eK (E w)) = 1 := by rw [w3]; rfl
    rcases hy with ⟨j, j1, j2, rfl⟩ | ⟨j1, rfl⟩
    · obtain ⟨j82, okj, r1, r2, r3, r4, r5⟩ := w2 j j1
      have ij : px_in (nI j) 82 = true := px_inb j82 (by decide)
      have cj : (nI j).toNatClampNeg = j := nI_clamp (by omega)
      have pj : ¬ nI j < 0 := nI_pos (by omega)
      rcases okj.2 with ⟨kj, -⟩ | ⟨kj, -⟩
      · have k1 : nI (eK (F j)) = 1 := by rw [kj]; rfl
        simp only [px_K_some, pc215_54, pc215_56, pc215_57, pc215_60, pc215_61, pc215_64, pc215_64n, pc215_65, pc215_68, pc215_69, pc215_70, pc215_71, pc215_74, pc215_76, pc215_79, pc215_79n, pc215_80, pc215_83, pc215_85, pc215_86, pc215_87, pc215_90, pc215_90n, pc215_91, pc215_93, px_op_some, px_kv_ap, px_ki_ap, px_kl_ap, px_kn_ap, px_kh_ap, px_op_none, px_K_some, px_K_none, px_K_thr, px_kill, ↓reduceIte, if_true, if_false, true_and, and_true, px_gf, px_ai, z6, mf_23, mf_29, a3, b3, pos, pj, pw, ij, cj, iw, cw, r2, t2, k1, kw, not_true_eq_false, tg_i1, and_self, zc, px_kill]
        refine m_isEmptied z6 v26 v20 (by omega) (by omega) wo1 we1 w1 (fun y hy => ?_)
        rcases hy with ⟨rfl, hy⟩ | ⟨rfl, hy⟩
        · simp only [px_K_some, pc215_96, pc215_103, ne_1_0, not_false_eq_true, if_true]
          exact not (fun z => z.elim x (fun z => z.2 ⟨w, w1, w2', hy⟩)) _ _ _ _
        · simp only [px_K_some, pc215_96, pc215_99, pc215_100, not_true_eq_false, if_false]
          refine yes (.inr ⟨⟨j, j1, j2, kj⟩, ?_⟩) _ _ _ _
          rintro ⟨u, u1, u2, u3⟩
          rw [srt_uniq ok u1 w1 (u2.trans w2'.symm)] at u3
          exact hy u3
      · have k1 : nI (eK (F j)) = 2 := by rw [kj]; rfl
        simp only [px_K_some, pc215_54, pc215_56, pc215_57, pc215_60, pc215_61, pc215_64, pc215_64n, pc215_65, pc215_68, pc215_69, pc215_70, pc215_71, pc215_103, px_op_some, px_kv_ap, px_ki_ap, px_kl_ap, px_kn_ap, px_kh_ap, px_op_none, px_K_some, px_K_none, px_K_thr, px_kill, ↓reduceIte, if_true, if_false, true_and, and_true, px_gf, px_ai, z6, mf_23, a3, pos, pj, ij, cj, r2, k1, n21, not_false_eq_true, tg_i1, and_self, px_kill]
        refine not (fun z => z.elim x (fun z => ?_)) _ _ _ _
        obtain ⟨⟨u, u1, u2, u3⟩, -⟩ := z
        rw [srt_uniq ok' u1 j1 (u2.trans j2.symm)] at u3
        omega
    · simp only [px_K_some, pc215_54, pc215_56, pc215_57, pc215_60, pc215_61, pc215_103, pos, neg, if_true, if_false, px_kill]
      refine not (fun z => z.elim x (fun z => ?_)) _ _ _ _
      obtain ⟨⟨u, u1, u2, u3⟩, -⟩ := z
      exact j1 u u1 u2
set_option maxRecDepth 16384 in
theorem m_changes (hl : 668 < h.2.length) (h6 : h.2[619]? = some (.inl (11, modF V))) (hr : h.2[636]? = some (.inr (1, 40100, .inl row))) (hv : V 26 = nI n) (hv' : V 20 = nI m) (wo : moE h n E) (we : mtE h (fun i => i < m) F) (sh : tSH n E) (sh' : tSH m F) (by_ : ∀ j, j < m → byE (F j))
    (hQ : ∀ row', bytR row' (chF n E m F 81 0 0 0 (fun _ => 0)).1 (chF n E m F 81 0 0 0 (fun _ => 0)).2 → Q (.inl none) (outH h (px_up V 17 (nI (chF n E m F 81 0 0 0 (fun _ => 0)).1)) row')) :
    px_Wp sx 208 0 [some (.ref 619), none, none, none] [] h Q := by
  obtain ⟨ok, -, n40, -⟩ := sh
  obtain ⟨ok', -, m40, m1000⟩ := sh'
  have tm : ∀ j, j ≤ m → totN F j ≤ totN F m := fun j hj => by have := totN_mono (E := F) (m - j) j; rw [show j + (m - j) = m by omega] at this; exact this
  have hl6 : 636 < h.2.length := by omega
  have z6 : ∀ v ro : Nat → Int32, (outH h v ro).2[619]? = some (.inl (11, modF v)) := fun v ro => outH_o hl6
  have zc : ∀ v ro : Nat → Int32, px_cls (outH h v ro) 619 = some 11 := fun v ro => by unfold px_cls; rw [z6]
  have v26 : ∀ y, px_up V 17 y 26 = nI n := fun y => by rw [up_ne (by decide)]; exact hv
  have v20 : ∀ y, px_up V 17 y 20 = nI m := fun y => by rw [up_ne (by decide)]; exact hv'
  have lp : ∀ d i j, n - i + (m - j) < d → i ≤ n → j ≤ m → (∀ i', i' < i → j < m → plt (eP (E i')) (eP (F j))) → ∀ a ro g l3, room m F i j a → bytR ro a g → chF n E m F d i j a g = chF n E m F 81 0 0 0 (fun _ => 0) → px_Wp sx 208 9 [some (.ref 619), some (.int (nI j)), some (.int (nI i)), l3] [] (outH h (px_up V 17 (nI a)) ro) Q := by
    intro d
    induction d with
    | zero => intro i j hd; omega
    | succ d ih =>
      intro i j hd hi hj ord a ro g l3 rm b ce
      by_cases e : n ≤ i ∧ m ≤ j
      · have ei : i = n := by omega
        have ej : j = m := by omega
        subst ei ej
        have nl : ∀ c : Nat, ¬ nI c < nI c := fun c => Int32.lt_irrefl
        have le : nI i ≤ nI i := Int32.le_refl _
        simp only [pc208_9, pc208_10, pc208_10n, pc208_11, pc208_14, pc208_17, pc208_18, pc208_18n, pc208_19, pc208_22, pc208_120, px_op_some, px_kv_ap, px_ki_ap, px_kl_ap, px_kn_ap, px_kh_ap, px_op_none, px_K_some, px_K_none, px_K_thr, px_kill, ↓reduceIte, if_true, if_false, true_and, and_true, px_gf, z6, mf_20, mf_26, v20, v26, nl, le]
        rw [chF_e (Nat.le_refl _) (Nat.le_refl _)] at ce
        have := hQ ro
        rw [← ce] at this
        exact this b
      · have go : px_Wp sx 208 25 [some (.ref 619), some (.int (nI j)), some (.int (nI i)), l3] [] (outH h (px_up V 17 (nI a)) ro) Q → px_Wp sx 208 9 [some (.ref 619), some (.int (nI j)), some (.int (nI i)), l3] [] (outH h (px_up V 17 (nI a)) ro) Q := fun hh => by
          by_cases x : j < m
          · have lt : nI j < nI m := nI_lt x (by omega)
            simp only [pc208_9, pc208_10, pc208_10n, pc208_11, pc208_14, px_op_some, px_kv_ap, px_ki_ap, px_kl_ap, px_kn_ap, px_kh_ap, px_op_none, px_K_some, px_K_none, px_K_thr, px_kill, ↓reduceIte, if_true, if_false, true_and, and_true, px_gf, z6, mf_20, v20, lt]
            exact hh
          · have lt : ¬ nI j < nI m := fun z => Int32.lt_irrefl (Int32.lt_of_lt_of_le z (nI_le (by omega) (by omega)))
            have ge : ¬ nI n ≤ nI i := nI_ge (by omega) (by omega)
            simp only [pc208_9, pc208_10, pc208_10n, pc208_11, pc208_14, pc208_17, pc208_18, pc208_18n, pc208_19, pc208_22, px_op_some, px_kv_ap, px_ki_ap, px_kl_ap, px_kn_ap, px_kh_ap, px_op_none, px_K_some, px_K_none, px_K_thr, px_kill, ↓reduceIte, if_true, if_false, true_and, and_true, px_gf, z6, mf_20, mf_26, v20, v26, lt, ge]
            exact hh
        refine go ?_
        have gone : befO n E m F i j → ∀ x : Int32, 0 < x → px_Wp sx 208 81 [some (.ref 619), some (.int (nI j)), some (.int (nI i)), l3] [.int x] (outH h (px_up V 17 (nI a)) ro) Q := fun bo x hx => by
          have rm' := room_o (n := n) (ok.2.1 i bo.1) rm
          have tj := tm j hj
          have i1 := bo.1
          rw [chF_o bo] at ce
          simp only [pc208_81, pc208_82, pc208_83, pc208_109, pc208_109n, pc208_110, pc208_111, hx, if_true, zc, true_and, px_kill]
          refine m_goneItem hl hv hv' n40 m40 wo we ok ok' bo.1 (by unfold room at rm'; omega) b (fun ro' b' => ?_)
          simp only [px_K_none, pc208_114, pc208_117, nI_p1, px_kill]
          refine ih (i + 1) j (by omega) bo.1 hj (fun i' h1 h2 => ?_) _ ro' _ _ rm' b' ce
          by_cases z : i' = i
          · subst z; exact bo.2 h2
          · exact ord i' (by omega) h2
        have newx : befN n E m F i j → ∀ x : Int32, x < 0 → px_Wp sx 208 81 [some (.ref 619), some (.int (nI j)), some (.int (nI i)), l3] [.int x] (outH h (px_up V 17 (nI a)) ro) Q := fun bn x hx => by
          have x1 : ¬ 0 < x := fun z => Int32.lt_irrefl (Int32.lt_trans hx z)
          have x2 : ¬ x = 0 := fun z => by rw [z] at hx; exact Int32.lt_irrefl hx
          have rm' := room_n (k := eK (F j)) (ok'.2.1 j bn.1) rm (Nat.le_refl i)
          have j1 := bn.1
          have tj := tm (j + 1) bn.1
          rw [chF_n bn] at ce
          simp only [pc208_81, pc208_82, pc208_83, pc208_86, pc208_86n, pc208_87, pc208_88, x1, if_false, zc, true_and, px_kill]
          refine m_newItem (K := eK (F j)) hl hv hv' n40 m40 wo we ok ok' by_ bn.1 (.inr ⟨fun i' h1 h2 => ?_, rfl⟩) (by unfold room at rm'; omega) b (fun ro' b' => ?_)
          · by_cases z : i' < i
            · have := ord i' z bn.1; rw [h2] at this; exact plt_irr _ this
            · by_cases y : i' = i
              · subst y; have := bn.2 h1; rw [h2] at this; exact plt_irr _ this
              · have p1 := bn.2 (by omega)
                have p2 := ok.2.2.1 i i' (by omega) h1
                have := plt_trans p1 p2
                rw [h2] at this; exact plt_irr _ this
          · simp only [px_K_none, pc208_91, pc208_94, pc208_95, pc208_98, pc208_99, pc208_100, pc208_101, pc208_104, pc208_105, pc208_106, pc208_117, x2, not_false_eq_true, if_true, nI_p1, px_kill]
            refine ih i (j + 1) (by omega) hi bn.1 (fun i' h1 h2 => ?_) _ ro' _ _ rm' b' ce
            exact plt_trans (ord i' h1 bn.1) (ok'.2.2.1 j (j + 1) (by omega) h2)
        by_cases x : j < m
        · have nx : ¬ nI j = nI m := fun z => by have := (nI_eq (by omega) (by omega)).mp z; omega
          by_cases y : i < n
          · have ny : ¬ nI i = nI n := fun z => by have := (nI_eq (by omega) (by omega)).mp z; omega
            have we1 : mtE (outH h (px_up V 17 (nI a)) ro) (fun i => i < m) F := mtE_out we
            have wo1 : moE (outH h (px_up V 17 (nI a)) ro) n E := moE_out wo
            obtain ⟨P, LN, KK, Z, C, ⟨a1, a2, a3, a4, a5⟩, w2⟩ := we1
            obtain ⟨P0, LN0, K0, Z0, C0, ⟨b1, b2, b3, b4, b5⟩, v2⟩ := wo1
            obtain ⟨j82, okj, r1, r2, r3, r4, r5⟩ := w2 j x
            obtain ⟨i46, oki, s1, s2, s3, s4, s5⟩ := v2 i y
            have li := oki.1.2.1
            have lj := okj.1.2.1
            have ij : px_in (nI j) 82 = true := px_inb j82 (by decide)
            have cj : (nI j).toNatClampNeg = j := nI_clamp (by omega)
            have ii : px_in (nI i) 46 = true := px_inb i46 (by decide)
            have ci : (nI i).toNatClampNeg = i := nI_clamp (by omega)
            simp only [pc208_25, pc208_26, pc208_26n, pc208_27, pc208_30, pc208_37, pc208_38, pc208_38n, pc208_39, pc208_42, pc208_49, pc208_49n, pc208_50, pc208_50n, pc208_51, pc208_54, pc208_56, pc208_57, pc208_58, pc208_58n, pc208_59, pc208_62, pc208_63, pc208_64, pc208_64n, pc208_65, pc208_68, pc208_70, pc208_71, pc208_72, pc208_72n, pc208_73, pc208_76, pc208_77, pc208_78, px_op_some, px_kv_ap, px_ki_ap, px_kl_ap, px_kn_ap, px_kh_ap, px_op_none, px_K_some, px_K_none, px_K_thr, px_kill, ↓reduceIte, if_true, if_false, true_and, and_true, px_gf, px_ai, z6, mf_20, mf_21, mf_22, mf_26, mf_27, mf_28, v20, v26, nx, ny, not_false_eq_true, a2, b2, ij, cj, ii, ci, r1, s1, mul_36, tg_i1, and_self, zc]
            refine m_compare (p := eP (F j)) (q := eP (E i)) a1 b1 (by decide) (by decide) (by omega) (by omega) (pth_rng okj.1) (pth_rng oki.1) r4 s4 (fun v hv2 => ?_)
            rw [px_K_some]
            rcases hv2 with ⟨rfl, ev⟩ | ⟨v1, ev⟩ | ⟨v1, ev⟩
            · have rm' := room_n (k := botK n E m F i j) (ok'.2.1 j x) rm (Nat.le_succ i)
              have tj := tm (j + 1) x
              rw [chF_b y x ev.symm] at ce
              have x1 : ¬ (0 : Int32) < 0 := by decide
              simp only [pc208_81, pc208_82, pc208_83, pc208_86, pc208_86n, pc208_87, pc208_88, x1, if_false, zc, true_and, px_kill]
              refine m_newItem (K := botK n E m F i j) hl hv hv' n40 m40 wo we ok ok' by_ x (.inl ⟨i, y, ev.symm, rfl⟩) (by unfold room at rm'; omega) b (fun ro' b' => ?_)
              simp only [px_K_none, pc208_91, pc208_94, pc208_95, pc208_98, pc208_99, pc208_100, pc208_101, pc208_104, pc208_105, pc208_106, pc208_117, not_true_eq_false, if_false, nI_p1, px_kill]
              refine ih (i + 1) (j + 1) (by omega) y x (fun i' h1 h2 => ?_) _ ro' _ _ rm' b' ce
              have lt := ok'.2.2.1 j (j + 1) (by omega) h2
              by_cases z : i' = i
              · subst z; rw [← ev]; exact lt
              · exact plt_trans (ord i' (by omega) x) lt
            · exact newx ⟨x, fun _ => ev⟩ v v1
            · exact gone ⟨y, fun _ => ev⟩ v v1
          · have ny : nI i = nI n := by rw [show i = n by omega]
            simp only [pc208_25, pc208_26, pc208_26n, pc208_27, pc208_30, pc208_37, pc208_38, pc208_38n, pc208_39, pc208_42, pc208_45, pc208_46, px_op_some, px_kv_ap, px_ki_ap, px_kl_ap, px_kn_ap, px_kh_ap, px_op_none, px_K_some, px_K_none, px_K_thr, px_kill, ↓reduceIte, if_true, if_false, true_and, and_true, px_gf, z6, mf_20, mf_26, v20, v26, nx, ny, not_false_eq_true, not_true_eq_false]
            have := newx ⟨x, fun z => absurd z y⟩ (-1) (by decide)
            rw [ny] at this
            exact this
        · have nx : nI j = nI m := by rw [show j = m by omega]
          simp only [pc208_25, pc208_26, pc208_26n, pc208_27, pc208_30, pc208_33, pc208_34, px_op_some, px_kv_ap, px_ki_ap, px_kl_ap, px_kn_ap, px_kh_ap, px_op_none, px_K_some, px_K_none, px_K_thr, px_kill, ↓reduceIte, if_true, if_false, true_and, and_true, px_gf, z6, mf_20, v20, nx, not_true_eq_false]
          have := gone ⟨by omega, fun z => absurd z x⟩ 1 (by decide)
          rw [nx] at this
          exact this
  have eh : px_wr h 619 (.inl (11, modF (px_up V 17 0))) = outH h (px_up V 17 (nI 0)) row := (outH_w hr).symm
  simp only [pc208_0, pc208_0n, pc208_1, pc208_2, pc208_5, pc208_6, pc208_7, pc208_8, px_op_some, px_kv_ap, px_ki_ap, px_kl_ap, px_kn_ap, px_kh_ap, px_op_none, px_K_some, px_K_none, px_K_thr, px_kill, ↓reduceIte, if_true, if_false, true_and, and_true, px_pf, h6, mfs_17, mf_len, Nat.reduceLT, px_fit, and_self, px_kill]
  rw [eh]
  exact lp 81 0 0 (by omega) (by omega) (by omega) (fun i' h1 => absurd h1 (Nat.not_lt_zero i')) 0 row _ none (Nat.zero_le _) (fun k hk => absurd hk (Nat.not_lt_zero k)) rfl
end MCHG
