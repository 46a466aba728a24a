/-! ACT, the reference's -/
section ACT2
variable {sx : Nat × (Nat → Int32)} {h : px_H} {q : Nat} {S S' : yS} {V row : Nat → Int32} {Q : px_O → px_H → Prop}
/-- what a record leaves -/
def actR (h h' : px_H) (q : Nat) (S' : yS) (V : Nat → Int32) : Prop := RYb h' q S' ∧ othB h h' q ∧ frm rbA h h' ∧ (shape h → shape h') ∧ ∃ V', h'.2[619]? = some (.inl (11, modF V')) ∧ vSame V V'
set_option maxRecDepth 16384 in
theorem vSame_refl (V : Nat → Int32) : vSame V V := fun _ _ => rfl
set_option maxRecDepth 16384 in
theorem act_keep {bb : Nat → Int32} {c : Nat} (hl : 668 < h.2.length) (hw : WFy S) (hq : q < 2) (rb : RYb h q S) (h6 : h.2[619]? = some (.inl (11, modF V))) (hr : h.2[636]? = some (.inr (1, 40100, .inl row))) (hv : V 17 = nI c) (hd : ∀ k, k < c → row k = bb k) (hn : ¬ hasD S (dig bb c)) (hB : yB S < 60) (h3 : yR S + (6 + c) ≤ 40000)
    (hQ : ∀ h', actR h h' q (yKeep S bb c) V → Q (.inl (some (.int 1))) h') : px_Wp sx 240 0 [some (.ref 619), some (.int (nI q)), some (.int 1), none, none, none, none] [] h Q := by
  have hc6 : px_cls h 619 = some 11 := by unfold px_cls; rw [h6]
  have rb' := rb
  obtain ⟨⟨bl, d1, d2⟩, ⟨D, e1, e2⟩, ⟨fr, sz, bt, us, U, f1, f2, f3, f4, f5, f6, f7⟩, -⟩ := rb
  have edg : dig row c = dig bb c := dig_congr hd
  have iq : px_in (nI q) 2 = true := px_inb hq (by decide)
  have cq : (nI q).toNatClampNeg = q := nI_clamp (by omega)
  have m0 : ((-1 : Int32) < 0) = True := by decide
  have nb : (nI (yB S) = 60) = False := eq_false (fun z => by
    have a1 := nI_clamp (n := yB S) (by omega)
    rw [z] at a1
    have : (60 : Int32).toNatClampNeg = 60 := by decide
    omega)
  simp only [pc240_0, pc240_1, pc240_2, pc240_5, pc240_5n, pc240_6, px_kill, not_true_eq_false, if_false, hc6, true_and]
  refine m_digest h6 hr hv (by omega) ?_
  rw [edg]
  simp only [px_K_some, pc240_9, pc240_10, pc240_10n, pc240_11, pc240_12, pc240_13, px_kill, hc6, true_and]
  refine m_find hq (by omega) d2 h6 d1 e1 (fun v hv2 => ?_)
  rcases hv2 with ⟨rfl, hno⟩ | ⟨k', hk', rfl, hp, -⟩
  · simp only [px_K_some, pc240_16, pc240_19, pc240_20, pc240_21, pc240_21n, pc240_22, pc240_25, pc240_26, pc240_27, pc240_29, pc240_32, pc240_33, pc240_34, pc240_34n, pc240_35, pc240_36, pc240_37, px_op_some, px_kv_ap, px_ki_ap, px_kl_ap, px_kn_ap, px_kh_ap, px_op_none, px_K_some, px_K_none, px_K_thr, px_kill, ↓reduceIte, if_true, if_false, true_and, and_true, px_gf, px_pf, px_ai, px_aj, px_aa, px_wi, px_wj, px_wa, px_an, px_cls, tg_i1, px_kill, m0, h6, d1, mf_3, iq, cq, d2, nb, and_self, not_false_eq_true, hc6]
    refine m_addBlob hq hl hB h6 hv hr d1 e1 f1 f2 f3 f4 d2 f5 (by omega) (fun bt' ub => ?_)
    simp only [px_K_none, pc240_40, pc240_41, nar_1]
    obtain ⟨r1, r2, r3, r4⟩ := rb_blob (d := row) (bb := bb) (c := c) (bt' := bt') hl hw hq rb' hd h3 d1 e1 f1 f2 f3 f4 f5 f6 ub f7 _ rfl
    refine hQ _ ⟨r1, r2, r3, r4, V, ?_, vSame_refl V⟩
    unfold ablH
    rw [wr_at, if_neg (by decide), wr_at, if_neg (by decide), wr_at, if_neg (by decide), wr_at, if_neg (by decide), wr_at, if_neg (by decide), wr_at, if_neg (by decide)]; exact h6
  · exact absurd ⟨k', hk', by rw [← e2 k' hk']; exact hp⟩ hn
set_option maxRecDepth 16384 in
theorem act_tell {j : Nat} {v : Int64} (hl : 668 < h.2.length) (hw : WFy S) (hq : q < 2) (hj : j < 8) (rb : RYb h q S) (h6 : h.2[619]? = some (.inl (11, modF V))) (hr : h.2[636]? = some (.inr (1, 40100, .inl row))) (hv : V 17 = nI 9) (hd : ∀ k, k < 9 → row k = tagB j v k) (him : imgIn S v)
    (hQ : ∀ h', actR h h' q (yTell S j v) V → Q (.inl (some (.int 1))) h') : px_Wp sx 240 0 [some (.ref 619), some (.int (nI q)), some (.int 2), none, none, none, none] [] h Q := by
  have hc6 : px_cls h 619 = some 11 := by unfold px_cls; rw [h6]
  have rb' := rb
  obtain ⟨⟨bl, d1, d2⟩, ⟨D, e1, e2⟩, ⟨fr, sz, bt, us, U, f1, f2, f3, f4, f5, f6, f7⟩, -, -, -, ⟨G, j1, j2⟩, T, k1, k2⟩ := rb
  obtain ⟨k, hk, ek, nl, ns, pos, na, nv, ok, hL⟩ := him
  obtain ⟨v1, v2, v3, v4, v5, v6, v7⟩ := hw
  have n21 : ((2 : Int32) = 1) = False := by decide
  have i0 : px_in (0 : Int32) 40100 = true := by decide
  have c0 : (0 : Int32).toNatClampNeg = 0 := by decide
  have r0 : row 0 = nI j := hd 0 (by decide)
  have hge : ¬ (8 : Int32) ≤ nI j := nI_ge (b := 8) (by omega) (by decide)
  have v9 : (nI 9 = 9) = True := by decide
  simp only [pc240_0, pc240_1, pc240_2, pc240_42, pc240_43, pc240_44, pc240_47, pc240_47n, pc240_48, pc240_51, pc240_53, pc240_56, pc240_56n, pc240_57, pc240_60, pc240_61, pc240_62, pc240_64, pc240_67, pc240_67n, pc240_68, pc240_71, pc240_72, pc240_73, pc240_74, pc240_74n, pc240_75, pc240_78, pc240_79, px_op_some, px_kv_ap, px_ki_ap, px_kl_ap, px_kn_ap, px_kh_ap, px_op_none, px_K_some, px_K_none, px_K_thr, px_kill, ↓reduceIte, if_true, if_false, true_and, and_true, px_gf, px_pf, px_ai, px_aj, px_aa, px_wi, px_wj, px_wa, px_an, px_cls, tg_i1, n21, not_false_eq_true, not_true_eq_false, h6, hr, mf_17, mf_19, hv, show nI 9 = 9 from rfl, i0, c0, r0, and_self, if_neg hge, px_kill]
  refine m_longIn (p := 1) (g := fun k => lb v (nI (8 * k)) &&& 255) hr (by decide) (by decide) (fun k hk => ?_) ?_
  · rw [hd (1 + k) (by omega), tagB_s]
  rw [lgA_lb]
  simp only [px_K_some, pc240_82, pc240_84, pc240_84n, pc240_85, pc240_86, pc240_88, px_kill, hc6, true_and]
  refine m_find hq v3 d2 h6 d1 e1 (fun z hz => ?_)
  have ez : z = nI k := lst_is (f := fun j => D (61 * q + j)) hz hk (by show D (61 * q + k) = v; rw [e2 k hk]; exact ek) (fun i i' hi hi' e => v5 i i' hi hi' (by
    have e' : D (61 * q + i) = D (61 * q + i') := e
    rw [e2 i hi, e2 i' hi'] at e'; exact e'))
  subst ez
  obtain ⟨x1, u, x2, x3, x4⟩ := f7 k hk
  simp only [px_K_some, pc240_91, pc240_93, pc240_95, pc240_98, pc240_98n, pc240_99, pc240_100, pc240_102, px_kill, if_neg (nI_pos (n := k) (by omega)), hc6, true_and]
  refine m_isImage (bb := blB S k) hl hq (by omega) v3 d2 h6 hr d1 e1 f1 f2 f3 x2 x1 (by omega) (fun m hm => ?_) ok (fun i hi => ?_) (fun row' => ?_)
  · rw [x4 m hm]; exact v7 _ (by have := v6 k hk; omega)
  · obtain ⟨k2, hk2, e⟩ := hL i hi
    exact ⟨k2, hk2, by rw [e2 k2 hk2]; exact e⟩
  have g6 : (outH h (px_up V 17 (nI (yL S k))) row').2[619]? = some (.inl (11, modF (px_up V 17 (nI (yL S k))))) := outH_o (by omega)
  have g27 : (outH h (px_up V 17 (nI (yL S k))) row').2[627]? = some (.inr (2, 16, .inr (.inl G))) := by rw [outH_at (by decide) (by decide)]; exact j1
  have g28 : (outH h (px_up V 17 (nI (yL S k))) row').2[628]? = some (.inr (3, 16, .inl T)) := by rw [outH_at (by decide) (by decide)]; exact k1
  have ij : px_in (nI (8 * q + j)) 16 = true := px_inb (by omega) (by decide)
  have cj : (nI (8 * q + j)).toNatClampNeg = 8 * q + j := nI_clamp (by omega)
  simp only [px_K_some, pc240_105, pc240_108, pc240_109, pc240_110, pc240_110n, pc240_111, pc240_114, pc240_116, pc240_117, pc240_118, pc240_119, pc240_120, pc240_121, pc240_122, pc240_122n, pc240_123, pc240_126, pc240_128, pc240_129, pc240_130, pc240_131, pc240_132, pc240_134, pc240_135, pc240_136, px_op_some, px_kv_ap, px_ki_ap, px_kl_ap, px_kn_ap, px_kh_ap, px_op_none, px_K_some, px_K_none, px_K_thr, px_kill, ↓reduceIte, if_true, if_false, true_and, and_true, px_gf, px_pf, px_ai, px_aj, px_aa, px_wi, px_wj, px_wa, px_an, px_cls, tg_b3, ne_1_0, not_false_eq_true, g6, g27, g28, mf_9, mf_10, mul_8 hq, nI_add, ij, cj, and_self, wr_at, Nat.reduceEqDiff, nar_1, show px_nar 3 1 = 1 from rfl]
  have rbo : RYb (outH h (px_up V 17 (nI (yL S k))) row') q S := RYb_frm rb' (fun r a b => outH_at (by omega) (by omega))
  obtain ⟨t1, t2, t3, t4⟩ := rb_tag (S' := yTell S j v) (T' := px_up T (8 * q + j) 1) (G' := px_up G (8 * q + j) v) (by rw [outH_len]; exact hl) rbo rfl rfl (Nat.le_add_right _ _) (fun k m hk hm => addJ_old (by have := v6 k hk; omega)) g28 g27 (fun i hi => by
    show px_up T (8 * q + j) 1 (8 * q + i) = if px_up (yT S) j true i = true then 1 else 0
    by_cases e : i = j
    · subst e; rw [up_same, up_same]; rfl
    · rw [up_ne (by omega), up_ne e]; exact k2 i hi) (fun i hi ht => by
    show px_up G (8 * q + j) v (8 * q + i) = px_up (yG S) j v i
    by_cases e : i = j
    · subst e; rw [up_same, up_same]
    · have ht' : px_up (yT S) j true i = true := ht
      rw [up_ne e] at ht'
      rw [up_ne (by omega), up_ne e]; exact j2 i hi ht') (fun q2 i hq2 hne hi => ⟨up_ne (by omega), up_ne (by omega)⟩) _ rfl
  refine hQ _ ⟨t1, othB_trans (fun q2 S2 a b c x => RYb_frm x (fun r a b => outH_at (by omega) (by omega))) t2, frm_trans (frm_wr (frm_wr (frm_refl _ _) (.inr (.inl rfl))) (.inl rfl)) t3, fun hS => t4 ?_, px_up V 17 (nI (yL S k)), ?_, fun i hi => up_ne hi⟩
  · unfold outH; refine shape_wr (shape_wr hS ?_) ?_ <;> rfl
  · rw [wr_at, if_neg (by decide), wr_at, if_neg (by decide)]; exact g6
set_option maxRecDepth 16384 in
theorem act_unt {j : Nat} (hl : 668 < h.2.length) (hw : WFy S) (hq : q < 2) (hj : j < 8) (rb : RYb h q S) (h6 : h.2[619]? = some (.inl (11, modF V))) (hr : h.2[636]? = some (.inr (1, 40100, .inl row))) (hv : V 17 = nI 1) (hd : row 0 = nI j)
    (hQ : ∀ h', actR h h' q (yUnt S j) V → Q (.inl (some (.int 1))) h') : px_Wp sx 240 0 [some (.ref 619), some (.int (nI q)), some (.int 3), none, none, none, none] [] h Q := by
  have rb' := rb
  obtain ⟨-, -, -, -, -, -, ⟨G, j1, j2⟩, T, k1, k2⟩ := rb
  obtain ⟨v1, v2, v3, v4, v5, v6, v7⟩ := hw
  have n31 : ((3 : Int32) = 1) = False := by decide
  have n32 : ((3 : Int32) = 2) = False := by decide
  have i0 : px_in (0 : Int32) 40100 = true := by decide
  have c0 : (0 : Int32).toNatClampNeg = 0 := by decide
  have hge : ¬ (8 : Int32) ≤ nI j := nI_ge (b := 8) (by omega) (by decide)
  have ij : px_in (nI (8 * q + j)) 16 = true := px_inb (by omega) (by decide)
  have cj : (nI (8 * q + j)).toNatClampNeg = 8 * q + j := nI_clamp (by omega)
  simp only [pc240_0, pc240_1, pc240_2, pc240_42, pc240_43, pc240_44, pc240_137, pc240_138, pc240_139, pc240_142, pc240_142n, pc240_143, pc240_146, pc240_147, pc240_150, pc240_150n, pc240_151, pc240_154, pc240_155, pc240_156, pc240_158, pc240_161, pc240_161n, pc240_162, pc240_165, pc240_167, pc240_168, pc240_169, pc240_169n, pc240_170, pc240_173, pc240_174, pc240_175, pc240_176, pc240_177, pc240_178, pc240_179, px_op_some, px_kv_ap, px_ki_ap, px_kl_ap, px_kn_ap, px_kh_ap, px_op_none, px_K_some, px_K_none, px_K_thr, px_kill, ↓reduceIte, if_true, if_false, true_and, and_true, px_gf, px_pf, px_ai, px_aj, px_aa, px_wi, px_wj, px_wa, px_an, px_cls, tg_i1, tg_b3, n31, n32, not_false_eq_true, not_true_eq_false, h6, hr, k1, mf_10, mf_17, mf_19, hv, show nI 1 = 1 from rfl, i0, c0, hd, and_self, if_neg hge, mul_8 hq, nI_add, ij, cj, nar_1, show px_nar 3 0 = 0 from rfl]
  have eg : px_wr h 628 (.inr (3, 16, .inl (px_up T (8 * q + j) 0))) = px_wr (px_wr h 628 (.inr (3, 16, .inl (px_up T (8 * q + j) 0)))) 627 (.inr (2, 16, .inr (.inl G))) := (wr_id (by rw [wr_at, if_neg (by decide)]; exact j1)).symm
  rw [eg]
  obtain ⟨t1, t2, t3, t4⟩ := rb_tag (S' := yUnt S j) (T' := px_up T (8 * q + j) 0) (G' := G) hl rb' rfl rfl (Nat.le_add_right _ _) (fun k m hk hm => addJ_old (by have := v6 k hk; omega)) k1 j1 (fun i hi => by
    show px_up T (8 * q + j) 0 (8 * q + i) = if px_up (yT S) j false i = true then 1 else 0
    by_cases e : i = j
    · subst e; rw [up_same, up_same]; rfl
    · rw [up_ne (by omega), up_ne e]; exact k2 i hi) (fun i hi ht => by
    by_cases e : i = j
    · subst e
      have ht' : px_up (yT S) i false i = true := ht
      rw [up_same] at ht'; cases ht'
    · have ht' : px_up (yT S) j false i = true := ht
      rw [up_ne e] at ht'
      exact j2 i hi ht') (fun q2 i hq2 hne hi => ⟨up_ne (by omega), rfl⟩) _ rfl
  exact hQ _ ⟨t1, t2, t3, t4, V, by rw [wr_at, if_neg (by decide), wr_at, if_neg (by decide)]; exact h6, vSame_refl V⟩
set_option maxRecDepth 16384 in
theorem act_rem {a v : Int64} (hl : 668 < h.2.length) (hw : WFy S) (hK : WKy S) (hq : q < 2) (rm : remS S a v S') (rb : RYb h q S) (h6 : h.2[619]? = some (.inl (11, modF V))) (hr : h.2[636]? = some (.inr (1, 40100, .inl row))) (hv : V 17 = nI 16) (hd : ∀ k, k < 16 → row k = keyB a v k)
    (hQ : ∀ h', actR h h' q S' V → Q (.inl (some (.int 1))) h') : px_Wp sx 240 0 [some (.ref 619), some (.int (nI q)), some (.int 4), none, none, none, none] [] h Q := by
  have hc6 : px_cls h 619 = some 11 := by unfold px_cls; rw [h6]
  have rb' := rb
  obtain ⟨-, -, -, ⟨kk, g1, g2⟩, ⟨ky, h1, h2⟩, ⟨kl, i1, i2⟩, -, -⟩ := rb
  obtain ⟨v1, v2, v3, v4, v5, v6, v7⟩ := hw
  have n41 : ((4 : Int32) = 1) = False := by decide
  have n42 : ((4 : Int32) = 2) = False := by decide
  have n43 : ((4 : Int32) = 3) = False := by decide
  have iq : px_in (nI q) 2 = true := px_inb hq (by decide)
  have cq : (nI q).toNatClampNeg = q := nI_clamp (by omega)
  have b0 : ∀ k, k < 8 → row (0 + k) = lb a (nI (8 * k)) &&& 255 := fun k hk => by rw [Nat.zero_add, hd k (by omega), keyB_0 hk]
  have b8 : ∀ k, k < 8 → row (8 + k) = lb v (nI (8 * k)) &&& 255 := fun k hk => by rw [hd (8 + k) (by omega), keyB_1]
  have last : px_Wp sx 240 223 [some (.ref 619), some (.int (nI q)), some (.int 4), none, none, none, none] [] h Q := by
    simp only [pc240_223, pc240_223n, pc240_224, pc240_225, pc240_225n, pc240_226, pc240_229, pc240_230, px_op_some, px_kv_ap, px_ki_ap, px_kl_ap, px_kn_ap, px_kh_ap, px_op_none, px_K_some, px_K_none, px_K_thr, px_kill, ↓reduceIte, if_true, if_false, true_and, and_true, px_gf, px_pf, px_ai, px_aj, px_aa, px_wi, px_wj, px_wa, px_an, px_cls, h6, mf_19]
    refine m_longIn (p := 0) (g := fun k => lb a (nI (8 * k)) &&& 255) hr (by decide) (by decide) b0 ?_
    rw [lgA_lb]
    simp only [px_K_some, pc240_233, pc240_233n, pc240_234, pc240_237, pc240_239, px_op_some, px_kv_ap, px_ki_ap, px_kl_ap, px_kn_ap, px_kh_ap, px_op_none, px_K_some, px_K_none, px_K_thr, px_kill, ↓reduceIte, if_true, if_false, true_and, and_true, px_gf, px_pf, px_ai, px_aj, px_aa, px_wi, px_wj, px_wa, px_an, px_cls, h6, mf_19]
    refine m_longIn (p := 8) (g := fun k => lb v (nI (8 * k)) &&& 255) hr (by decide) (by decide) b8 ?_
    rw [lgA_lb]
    simp only [px_K_some, pc240_242, hc6, true_and]
    have h6k : ∀ A B C, (px_wr (px_wr (px_wr h 629 A) 630 B) 631 C).2[619]? = some (.inl (11, modF V)) := fun A B C => by rw [wr_at, if_neg (by decide), wr_at, if_neg (by decide), wr_at, if_neg (by decide)]; exact h6
    refine m_putKey hq h6 g1 h1 i1 v4 g2 (fun k hk e hn => ?_) (fun hno k6 => ?_) (fun hno => ?_)
    · simp only [px_K_none, pc240_245, pc240_246, nar_1]
      have e' : yX S k = a := by rw [← h2 k hk]; exact e
      rcases rm with ⟨k2, hk2, ek2, rfl⟩ | ⟨hno, -, -⟩
      · have : k2 = k := hK k2 k hk2 hk (ek2.trans e'.symm)
        subst this
        have eq9 : px_wr h 630 (.inr (2, 120, .inr (.inl (px_up ky (60 * q + k2) a)))) = px_wr (px_wr h 629 (.inr (1, 2, .inl kk))) 630 (.inr (2, 120, .inr (.inl (px_up ky (60 * q + k2) a)))) := by rw [wr_id g1]
        rw [eq9]
        obtain ⟨t1, t2, t3, t4⟩ := rb_key (S' := yRem S a v (yK S) (yX S) (px_up (yE S) k2 v)) (kk' := kk) (ky' := px_up ky (60 * q + k2) a) (kl' := px_up kl (60 * q + k2) v) hl rb' rfl rfl (Nat.le_add_right _ _) (fun k m hk hm => addJ_old (by have := v6 k hk; omega)) g1 h1 i1 g2 (fun i hi => by
          by_cases e : i = k2
          · subst e; rw [up_same]; exact ek2.symm
          · rw [up_ne (by omega)]; exact h2 i hi) (fun i hi => by
          show px_up kl (60 * q + k2) v (60 * q + i) = px_up (yE S) k2 v i
          by_cases e : i = k2
          · subst e; rw [up_same, up_same]
          · rw [up_ne (by omega), up_ne e]; exact i2 i hi) (fun q2 i hq2 hne hi => ⟨rfl, up_ne (by omega), up_ne (by omega)⟩) _ rfl
        exact hQ _ ⟨t1, t2, t3, t4, V, h6k _ _ _, vSame_refl V⟩
      · exact absurd e' (hno k hk)
    · simp only [px_K_none, pc240_245, pc240_246, nar_1]
      rcases rm with ⟨k2, hk2, ek2, rfl⟩ | ⟨hno2, -, rfl⟩
      · exact absurd (by rw [h2 k2 hk2]; exact ek2) (hno k2 hk2)
      · obtain ⟨t1, t2, t3, t4⟩ := rb_key (S' := yRem S a v (yK S + 1) (px_up (yX S) (yK S) a) (px_up (yE S) (yK S) v)) (kk' := px_up kk q (nI (yK S + 1))) (ky' := px_up ky (60 * q + yK S) a) (kl' := px_up kl (60 * q + yK S) v) hl rb' rfl rfl (Nat.le_add_right _ _) (fun k m hk hm => addJ_old (by have := v6 k hk; omega)) g1 h1 i1 (up_same _ _ _) (fun i hi => by
          have hi' : i < yK S + 1 := hi
          show px_up ky (60 * q + yK S) a (60 * q + i) = px_up (yX S) (yK S) a i
          by_cases e : i = yK S
          · rw [e, up_same, up_same]
          · rw [up_ne (by omega), up_ne e]; exact h2 i (by omega)) (fun i hi => by
          have hi' : i < yK S + 1 := hi
          show px_up kl (60 * q + yK S) v (60 * q + i) = px_up (yE S) (yK S) v i
          by_cases e : i = yK S
          · rw [e, up_same, up_same]
          · rw [up_ne (by omega), up_ne e]; exact i2 i (by omega)) (fun q2 i hq2 hne hi => ⟨up_ne hne, up_ne (by omega), up_ne (by omega)⟩) _ rfl
        exact hQ _ ⟨t1, t2, t3, t4, V, h6k _ _ _, vSame_refl V⟩
    · rcases rm with ⟨k2, hk2, ek2, -⟩ | ⟨-, k7, -⟩
      · exact absurd (by rw [h2 k2 hk2]; exact ek2) (hno k2 hk2)
      · exact k7
  simp only [pc240_0, pc240_1, pc240_2, pc240_42, pc240_43, pc240_44, pc240_137, pc240_138, pc240_139, pc240_180, pc240_181, pc240_182, pc240_185, pc240_185n, pc240_186, pc240_189, pc240_191, pc240_194, pc240_194n, pc240_195, pc240_196, pc240_196n, pc240_197, pc240_200, pc240_201, px_op_some, px_kv_ap, px_ki_ap, px_kl_ap, px_kn_ap, px_kh_ap, px_op_none, px_K_some, px_K_none, px_K_thr, px_kill, ↓reduceIte, if_true, if_false, true_and, and_true, px_gf, px_pf, px_ai, px_aj, px_aa, px_wi, px_wj, px_wa, px_an, px_cls, n41, n42, n43, not_false_eq_true, not_true_eq_false, h6, mf_17, mf_19, hv, show nI 16 = 16 from rfl]
  refine m_longIn (p := 0) (g := fun k => lb a (nI (8 * k)) &&& 255) hr (by decide) (by decide) b0 ?_
  rw [lgA_lb]
  simp only [px_K_some, pc240_204, hc6, true_and]
  refine m_findKey hq v4 g2 h6 g1 h1 (fun z hz => ?_)
  rcases hz with ⟨rfl, hno⟩ | ⟨k, hk, rfl, -, -⟩
  · have m1 : ((0 : Int32) ≤ -1) = False := by decide
    have k6 : yK S < 60 := by
      rcases rm with ⟨k2, hk2, ek2, -⟩ | ⟨-, k7, -⟩
      · exact absurd (show ky (60 * q + k2) = a by rw [h2 k2 hk2]; exact ek2) (hno k2 hk2)
      · exact k7
    have nb : (nI (yK S) = 60) = False := eq_false (fun z => by
      have a1 := nI_clamp (n := yK S) (by omega)
      rw [z] at a1
      have : (60 : Int32).toNatClampNeg = 60 := by decide
      omega)
    simp only [px_K_some, pc240_207, pc240_210, pc240_210n, pc240_211, pc240_214, pc240_215, pc240_216, pc240_218, px_op_some, px_kv_ap, px_ki_ap, px_kl_ap, px_kn_ap, px_kh_ap, px_op_none, px_K_some, px_K_none, px_K_thr, px_kill, ↓reduceIte, if_true, if_false, true_and, and_true, px_gf, px_pf, px_ai, px_aj, px_aa, px_wi, px_wj, px_wa, px_an, px_cls, tg_i1, m1, h6, g1, mf_11, iq, cq, g2, nb, and_self, not_false_eq_true]
    exact last
  · have k0 : (0 : Int32) ≤ nI k := nI_le (a := 0) (by omega) (by omega)
    simp only [px_K_some, pc240_207, if_pos k0]
    exact last
end ACT2
