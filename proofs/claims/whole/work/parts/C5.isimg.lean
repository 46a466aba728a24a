/-! AN IMAGE KNOWN BY THE REFERENCE -/
section ISI
variable {sx : Nat × (Nat → Int32)} {h : px_H} {q l nl ns B : Nat} {V row bb fb : Nat → Int32} {D : Nat → Int64} {pos na nv : Nat → Nat} {Q : px_O → px_H → Prop}
set_option maxRecDepth 16384 in
theorem m_in {x a b : Int32} (h1 : a ≤ x) (h2 : x ≤ b) (hQ : Q (.inl (some (.int 1))) h) : px_Wp sx 144 0 [some (.int x), some (.int a), some (.int b)] [] h Q := by
  have g1 : ¬ x < a := Int32.not_lt.mpr h1
  have g2 : ¬ b < x := Int32.not_lt.mpr h2
  simp only [pc144_0, pc144_1, pc144_2, pc144_5, pc144_6, pc144_7, pc144_10, pc144_11, pc144_14, pc144_15, if_neg g1, if_neg g2, nar_1]
  exact hQ
set_option maxRecDepth 16384 in
theorem m_isi_l1 {k2 : Int32} {l5 l6 : Option Value} (hq : q < 2) (hB : B ≤ 60) (hb : fb q = nI B) (h6 : h.2[619]? = some (.inl (11, modF V))) (hr : h.2[636]? = some (.inr (1, 40100, .inl row))) (h621 : h.2[621]? = some (.inr (1, 2, .inl fb))) (h622 : h.2[622]? = some (.inr (2, 122, .inr (.inl D))))
    (ok : imgOK bb l nl ns pos na nv) (hrow : ∀ k, k < l → row k = bb k) (hl : l ≤ 40000) (hL : ∀ i, i < nl → ∃ k, k < B ∧ D (61 * q + k) = layB bb i)
    (hQ : px_Wp sx 241 110 [some (.ref 619), some (.int (nI q)), some (.int k2), some (.int 1), some (.int (nI nl)), l5, l6] [] h Q) :
    ∀ n i, i + n = nl → px_Wp sx 241 61 [some (.ref 619), some (.int (nI q)), some (.int k2), some (.int 1), some (.int (nI i)), l5, l6] [] h Q := by
  have hc6 : px_cls h 619 = some 11 := by unfold px_cls; rw [h6]
  have h3 := img_lay ok
  obtain ⟨a1, a2, a3, a4, a5, a6, a7, a8⟩ := ok
  have r1 : row 1 = nI nl := (hrow 1 (by omega)).trans a4
  have i1 : px_in (1 : Int32) 40100 = true := by decide
  have c1 : (1 : Int32).toNatClampNeg = 1 := by decide
  intro n
  induction n with
  | zero =>
    intro i hi
    have hi : i = nl := by omega
    subst hi
    simp only [pc241_61, pc241_63, pc241_63n, pc241_64, pc241_67, pc241_68, pc241_69, px_op_some, px_kv_ap, px_ki_ap, px_kl_ap, px_kn_ap, px_kh_ap, px_op_none, px_K_some, px_K_none, px_K_thr, px_kill, ↓reduceIte, if_true, if_false, true_and, and_true, px_gf, px_pf, px_ai, px_aj, px_aa, px_wi, px_wj, px_wa, px_an, px_cls, tg_i1, h6, hr, mf_19, i1, c1, r1, and_self, if_pos (Int32.le_refl (nI i))]
    exact hQ
  | succ n ih =>
    intro i hi
    have hge : ¬ nI nl ≤ nI i := nI_ge (by omega) (by omega)
    have e1 : (2 : Int32) + 8 * nI i = nI (2 + 8 * i) := by rw [mul8 (by omega)]; exact nI_add 2 _
    rw [pc241_61]
    simp only [pc241_63, pc241_63n, pc241_64, pc241_67, pc241_68, pc241_69, pc241_72, pc241_73, pc241_76, pc241_76n, pc241_77, pc241_78, pc241_78n, pc241_79, pc241_82, pc241_83, pc241_85, pc241_87, pc241_88, pc241_89, px_op_some, px_kv_ap, px_ki_ap, px_kl_ap, px_kn_ap, px_kh_ap, px_op_none, px_K_some, px_K_none, px_K_thr, px_kill, ↓reduceIte, if_true, if_false, true_and, and_true, px_gf, px_pf, px_ai, px_aj, px_aa, px_wi, px_wj, px_wa, px_an, px_cls, tg_i1, h6, hr, mf_19, i1, c1, r1, and_self, if_neg hge, ne_1_0, e1]
    refine m_longIn (g := fun k => bb (2 + 8 * i + k)) hr (by decide) (by omega) (fun k hk => hrow _ (by omega)) ?_
    simp only [px_K_some, pc241_92, hc6, true_and]
    refine m_find hq hB hb h6 h621 h622 (fun v hv => ?_)
    obtain ⟨k, hk, ek⟩ := hL i (by omega)
    rcases hv with ⟨-, hno⟩ | ⟨k', hk', rfl, -, -⟩
    · exact absurd ek (hno k hk)
    · simp only [px_K_some, pc241_95, pc241_98, pc241_99, pc241_102, pc241_103, pc241_104, pc241_107, px_kill, if_neg (nI_pos (n := k') (by omega)), nI_1]
      exact ih (i + 1) (by omega)
set_option maxRecDepth 16384 in
theorem m_isi_l2 {k2 : Int32} (h6 : h.2[619]? = some (.inl (11, modF V))) (hv : V 17 = nI l) (hr : h.2[636]? = some (.inr (1, 40100, .inl row)))
    (ok : imgOK bb l nl ns pos na nv) (hrow : ∀ k, k < l → row k = bb k) (hl : l ≤ 40000)
    (hQ : Q (.inl (some (.int 1))) h) :
    ∀ n t, t + n = ns → px_Wp sx 241 138 [some (.ref 619), some (.int (nI q)), some (.int k2), some (.int 1), some (.int (nI (pos t))), some (.int (nI ns)), some (.int (nI t))] [] h Q := by
  have hp := img_pos ok
  obtain ⟨a1, a2, a3, a4, a5, a6, a7, a8⟩ := ok
  intro n
  induction n with
  | zero =>
    intro t ht
    have ht : t = ns := by omega
    subst ht
    have h6' : ¬ (6 : Int32) < nI t := nI_nlt (a := 6) (by omega) (by decide)
    simp only [pc241_138, pc241_140, pc241_142, pc241_267, pc241_268, pc241_271, pc241_273, pc241_275, pc241_278, pc241_280, pc241_280n, pc241_281, pc241_284, pc241_287, pc241_288, pc241_291, pc241_292, px_op_some, px_kv_ap, px_ki_ap, px_kl_ap, px_kn_ap, px_kh_ap, px_op_none, px_K_some, px_K_none, px_K_thr, px_kill, ↓reduceIte, if_true, if_false, true_and, and_true, px_gf, px_pf, px_ai, px_aj, px_aa, px_wi, px_wj, px_wa, px_an, px_cls, h6, mf_17, hv, a8, if_pos (Int32.le_refl (nI t)), ne_1_0, if_neg h6', not_true_eq_false, nar_1]
    exact hQ
  | succ n ih =>
    intro t ht
    obtain ⟨⟨b1, b2, b3, b4⟩, b5, b6, b7⟩ := a7 t (by omega)
    have hpt := hp (n + 1) t (by omega)
    have hpn := hp n (t + 1) (by omega)
    have hge : ¬ nI ns ≤ nI t := nI_ge (by omega) (by omega)
    have hgp : ¬ nI l ≤ nI (pos t) := nI_ge (by omega) (by omega)
    have hgp2 : ¬ nI l ≤ nI (pos t + 1 + na t) := nI_ge (by omega) (by omega)
    have ip : px_in (nI (pos t)) 40100 = true := px_inb (by omega) (by decide)
    have cp : (nI (pos t)).toNatClampNeg = pos t := nI_clamp (by omega)
    have ip2 : px_in (nI (pos t + 1 + na t)) 40100 = true := px_inb (by omega) (by decide)
    have cp2 : (nI (pos t + 1 + na t)).toNatClampNeg = pos t + 1 + na t := nI_clamp (by omega)
    have r1 : row (pos t) = nI (na t) := (hrow _ (by omega)).trans b5
    have r2 : row (pos t + 1 + na t) = nI (nv t) := (hrow _ (by omega)).trans b6
    rw [pc241_138]
    simp only [pc241_140, pc241_142, pc241_145, pc241_146, pc241_149, pc241_151, pc241_151n, pc241_152, pc241_155, pc241_158, pc241_158n, pc241_159, pc241_162, pc241_164, pc241_165, pc241_166, pc241_168, px_op_some, px_kv_ap, px_ki_ap, px_kl_ap, px_kn_ap, px_kh_ap, px_op_none, px_K_some, px_K_none, px_K_thr, px_kill, ↓reduceIte, if_true, if_false, true_and, and_true, px_gf, px_pf, px_ai, px_aj, px_aa, px_wi, px_wj, px_wa, px_an, px_cls, tg_i1, h6, hr, mf_17, mf_19, hv, and_self, if_neg hge, ne_1_0, if_neg hgp, ip, cp, r1]
    refine m_in (nI_le (a := 1) (by omega) (by omega)) (nI_le (b := 8) (by omega) (by decide)) ?_
    simp only [px_K_some, pc241_171, pc241_174, pc241_175, pc241_178, pc241_179, pc241_180, pc241_181, pc241_184, pc241_186, pc241_187, pc241_188, pc241_188n, pc241_189, pc241_192, pc241_194, pc241_195, pc241_196, pc241_199, pc241_201, pc241_203, pc241_204, pc241_207, pc241_209, pc241_209n, pc241_210, pc241_213, pc241_216, pc241_216n, pc241_217, pc241_220, pc241_222, pc241_223, pc241_224, pc241_226, px_op_some, px_kv_ap, px_ki_ap, px_kl_ap, px_kn_ap, px_kh_ap, px_op_none, px_K_some, px_K_none, px_K_thr, px_kill, ↓reduceIte, if_true, if_false, true_and, and_true, px_gf, px_pf, px_ai, px_aj, px_aa, px_wi, px_wj, px_wa, px_an, px_cls, px_kill, tg_i1, h6, hr, mf_17, mf_19, hv, and_self, ne_1_0, ip, cp, r1, nI_1, nI_add, if_neg hgp2, ip2, cp2, r2]
    refine m_in (nI_le (a := 1) (by omega) (by omega)) (nI_le (b := 12) (by omega) (by decide)) ?_
    simp only [px_K_some, pc241_229, pc241_232, pc241_233, pc241_236, pc241_237, pc241_238, pc241_239, pc241_242, pc241_244, pc241_245, pc241_246, pc241_246n, pc241_247, pc241_250, pc241_252, pc241_253, pc241_254, pc241_257, pc241_259, pc241_261, pc241_264, px_op_some, px_kv_ap, px_ki_ap, px_kl_ap, px_kn_ap, px_kh_ap, px_op_none, px_K_some, px_K_none, px_K_thr, px_kill, ↓reduceIte, if_true, if_false, true_and, and_true, px_gf, px_pf, px_ai, px_aj, px_aa, px_wi, px_wj, px_wa, px_an, px_cls, px_kill, tg_i1, h6, hr, mf_17, mf_19, hv, and_self, ne_1_0, ip2, cp2, r2, nI_1, nI_add]
    have e : pos t + 1 + na t + 1 + nv t = pos (t + 1) := by rw [b7]; omega
    rw [e]
    exact ih (t + 1) (by omega)
set_option maxRecDepth 16384 in
theorem m_isImage {k u : Nat} {fr sz bt : Nat → Int32} (hlen : 668 < h.2.length) (hq : q < 2) (hk : k < 61) (hB : B ≤ 60) (hb : fb q = nI B) (h6 : h.2[619]? = some (.inl (11, modF V))) (hr : h.2[636]? = some (.inr (1, 40100, .inl row))) (h621 : h.2[621]? = some (.inr (1, 2, .inl fb))) (h622 : h.2[622]? = some (.inr (2, 122, .inr (.inl D)))) (h623 : h.2[623]? = some (.inr (1, 122, .inl fr))) (h624 : h.2[624]? = some (.inr (1, 122, .inl sz))) (h625 : h.2[625]? = some (.inr (1, 80000, .inl bt))) (hfr : fr (61 * q + k) = nI u) (hsz : sz (61 * q + k) = nI l) (hul : u + l ≤ 40000) (hbt : ∀ m, m < l → bt (40000 * q + u + m) &&& 255 = bb m)
    (ok : imgOK bb l nl ns pos na nv) (hL : ∀ i, i < nl → ∃ k, k < B ∧ D (61 * q + k) = layB bb i)
    (hQ : ∀ row', Q (.inl (some (.int 1))) (outH h (px_up V 17 (nI l)) row')) :
    px_Wp sx 241 0 [some (.ref 619), some (.int (nI q)), some (.int (nI k)), none, none, none, none] [] h Q := by
  have hc6 : px_cls h 619 = some 11 := by unfold px_cls; rw [h6]
  have h3 := img_lay ok
  have ok' := ok
  obtain ⟨a1, a2, a3, a4, a5, a6, a7, a8⟩ := ok'
  simp only [pc241_0, pc241_0n, pc241_1, pc241_2, pc241_3, hc6, true_and]
  refine m_rowFromBlob hlen hq hk h6 hr h623 h624 h625 hfr hsz hul hbt (fun row' w => ?_)
  have hrow : ∀ k, k < l → row' k = bb k := fun k hk => by have := w.2 k hk; rw [Nat.zero_add] at this; exact this
  have g6 : (outH h (px_up V 17 (nI l)) row').2[619]? = some (.inl (11, modF (px_up V 17 (nI l)))) := outH_o (by omega)
  have gr : (outH h (px_up V 17 (nI l)) row').2[636]? = some (.inr (1, 40100, .inl row')) := outH_r (by omega)
  have v17 : px_up V 17 (nI l) 17 = nI l := up_same _ _ _
  have i0 : px_in (0 : Int32) 40100 = true := by decide
  have c0 : (0 : Int32).toNatClampNeg = 0 := by decide
  have i1 : px_in (1 : Int32) 40100 = true := by decide
  have c1 : (1 : Int32).toNatClampNeg = 1 := by decide
  have r0 : row' 0 = 77 := (hrow 0 (by omega)).trans a3.1
  have r1 : row' 1 = nI nl := (hrow 1 (by omega)).trans a4
  have f1 : ¬ nI l < 3 := nI_nlt (b := 3) (by omega) (by omega)
  have f2 : ¬ (12 : Int32) < nI nl := nI_nlt (a := 12) (by omega) (by decide)
  have e3 : (3 : Int32) + nI (8 * nl) = nI (3 + 8 * nl) := nI_add 3 _
  have f3 : nI (3 + 8 * nl) ≤ nI l := nI_le (by omega) (by omega)
  simp only [px_K_none, pc241_6, pc241_6n, pc241_7, pc241_10, pc241_11, pc241_14, pc241_14n, pc241_15, pc241_18, pc241_19, pc241_20, pc241_22, pc241_25, pc241_25n, pc241_26, pc241_29, pc241_30, pc241_31, pc241_33, pc241_36, pc241_36n, pc241_37, pc241_40, pc241_41, pc241_43, pc241_43n, pc241_44, pc241_47, pc241_48, pc241_49, pc241_50, pc241_51, pc241_54, pc241_55, pc241_56, pc241_57, pc241_58, pc241_59, px_op_some, px_kv_ap, px_ki_ap, px_kl_ap, px_kn_ap, px_kh_ap, px_op_none, px_K_some, px_K_none, px_K_thr, px_kill, ↓reduceIte, if_true, if_false, true_and, and_true, px_gf, px_pf, px_ai, px_aj, px_aa, px_wi, px_wj, px_wa, px_an, px_cls, px_kill, tg_i1, g6, gr, mf_17, mf_19, v17, i0, c0, i1, c1, r0, r1, and_self, if_neg f1, if_neg f2, not_true_eq_false, mul8 a1, e3, if_pos f3]
  have rest : ∀ {x : px_C} {r : Nat}, h.2[r]? = some x → r ≠ 619 → r ≠ 636 → (outH h (px_up V 17 (nI l)) row').2[r]? = some x := fun e b c => by rw [outH_at (fun z => c z.symm) (fun z => b z.symm)]; exact e
  refine m_isi_l1 (bb := bb) (l := l) (ns := ns) (pos := pos) (na := na) (nv := nv) (V := px_up V 17 (nI l)) (row := row') hq hB hb g6 gr (rest h621 (by decide) (by decide)) (rest h622 (by decide) (by decide)) ok hrow (by omega) hL ?_ nl 0 (by omega)
  have e2 : (2 : Int32) + nI (8 * nl) = nI (2 + 8 * nl) := nI_add 2 _
  have i2 : px_in (nI (2 + 8 * nl)) 40100 = true := px_inb (by omega) (by decide)
  have c2 : (nI (2 + 8 * nl)).toNatClampNeg = 2 + 8 * nl := nI_clamp (by omega)
  have r2 : row' (2 + 8 * nl) = nI ns := (hrow _ (by omega)).trans a5
  simp only [pc241_110, pc241_111, pc241_113, pc241_113n, pc241_114, pc241_117, pc241_118, pc241_119, pc241_120, pc241_121, pc241_123, pc241_123n, pc241_124, pc241_127, pc241_129, pc241_130, pc241_132, pc241_135, pc241_136, px_op_some, px_kv_ap, px_ki_ap, px_kl_ap, px_kn_ap, px_kh_ap, px_op_none, px_K_some, px_K_none, px_K_thr, px_kill, ↓reduceIte, if_true, if_false, true_and, and_true, px_gf, px_pf, px_ai, px_aj, px_aa, px_wi, px_wj, px_wa, px_an, px_cls, px_kill, tg_i1, g6, gr, mf_19, i1, c1, r1, and_self, mul8 a1, e2, i2, c2, r2, nI_1]
  have fin := m_isi_l2 (sx := sx) (Q := Q) (q := q) (k2 := nI k) (bb := bb) (l := l) (nl := nl) (V := px_up V 17 (nI l)) (row := row') g6 v17 gr ok hrow (by omega) (hQ row') ns 0 (by omega)
  rw [a6] at fin
  rw [show 2 + 8 * nl + 1 = 3 + 8 * nl by omega]
  exact fin
end ISI
