/-! THE FIRST LINE, the reference's, with the reference's yard alone -/
set_option maxRecDepth 16384 in
theorem m_takeR {sx : Nat × (Nat → Int32)} {h hX : px_H} {S : yS} {q j k nl ns : Nat} {V : Nat → Int32} {pos na nv : Nat → Nat} {Q : px_O → px_H → Prop} (hS : shape h) (hw : WFy S) (hq : q < 2) (hj8 : j < 8) (ry : RY h q S) (e : yT S j = true) (k1 : k < yB S) (k2 : yD S k = yG S j) (k3 : imgOK (blB S k) (yL S k) nl ns pos na nv) (hXe : ∀ r, (621 ≤ r ∧ r ≤ 634 ∨ 649 ≤ r ∧ r ≤ 653) → hX.2[r]? = h.2[r]?) (hX6 : hX.2[619]? = some (.inl (11, modF V)))
    (hQ : ∀ h', mtk hX h' (px_up (px_up V 36 (nI nl)) 38 (nI ns)) nl ns (blB S k) pos na nv → Q (.inl none) h') :
    px_Wp sx 154 0 [some (.ref 619), some (.int (nI q)), some (.int (nI j)), none] [] hX Q := by
  obtain ⟨-, -, -, ⟨bl, b1, b2⟩, ⟨D', e1, e2⟩, ⟨fr, sz, bt, us, U, f1, f2, f3, f4, f5, f6, f7⟩, -, -, -, ⟨G', j1, j2⟩, -⟩ := ry
  obtain ⟨y1, u, y2, y3, y4⟩ := f7 k k1
  have hP := hw.2.2.2.2.2.1 k k1
  have h4 := hw.1
  have z : ∀ {r : Nat} {x : px_C}, h.2[r]? = some x → (621 ≤ r ∧ r ≤ 634 ∨ 649 ≤ r ∧ r ≤ 653) → hX.2[r]? = some x := fun e p => (hXe _ p).trans e
  exact m_takeTag (B := yB S) (k := k) (u := u) hX6 (z b1 (by decide)) (z e1 (by decide)) (z f1 (by decide)) (z f3 (by decide)) (z j1 (by decide)) (z (at_649 hS) (by decide)) (z (at_650 hS) (by decide)) (z (at_651 hS) (by decide)) (z (at_652 hS) (by decide)) (z (at_653 hS) (by decide))
    hq hj8 hw.2.2.1 b2 k1 (by rw [e2 k k1, j2 j hj8 e]; exact k2) (fun a b ha hb eab => hw.2.2.2.2.1 a b ha hb (by rw [← e2 a ha, ← e2 b hb]; exact eab)) y2 k3 (fun m hm => y4 m hm) (by omega) hQ
section MFIRST2
variable {sx : Nat × (Nat → Int32)} {h : px_H} {S : yS} {IM : Nat → aM} {q n s e : Nat} {V g : Nat → Int32} {B : Nat → Nat} {Q : px_O → px_H → Prop}
set_option maxRecDepth 16384 in
theorem m_firstR (hS : shape h) (h6 : h.2[619]? = some (.inl (11, modF V))) (hq : q < 2) (ok : yOK S) (ry : RY h q S) (td : tdS S IM) (hA : h.2[620]? = some (.inr (1, 600, .inl g))) (hB : txM g n B) (hn : n ≤ 600) (hs : s < e) (he : e ≤ n) (hf : V 43 = 0)
    (hQ : ∀ x m V' h', frmR S IM B s e x m → imR h' V' m → V' 43 = nI x → (∀ j, j ≠ 20 → j ≠ 36 → j ≠ 38 → j ≠ 43 → V' j = V j) → h'.2[619]? = some (.inl (11, modF V')) → frm mtA h h' → shape h' → Q (.inl none) h') :
    px_Wp sx 150 0 [some (.ref 619), some (.int (nI q)), some (.int (nI s)), some (.int (nI e)), none, none, none, none] [] h Q := by
  have hw := (yOK_good ok).1
  have l6 : 619 < h.2.length := (List.getElem?_eq_some_iff.mp h6).1
  have m8 := mul_8 hq
  -- behind the flags
  have behind : ∀ k l5 em dg, em = 0 ∨ em = 1 → dg = 0 ∨ dg = 1 → (em = 1 → dg = 0) → says em (fromE B s e) → (dg = 1 → ∃ j, fromT B s e j) → (dg = 0 → ∀ j, ¬ fromT B s e j) → (dg = 1 → k + 2 = e) → px_Wp sx 150 112 [some (.ref 619), some (.int (nI q)), some (.int (nI s)), some (.int (nI e)), some (.int (nI k)), l5, some (.int em), some (.int dg)] [] h Q := by
    intro k l5 em dg h1 h2 h3 hem hd1 hd0 hk
    generalize hVc : px_up (px_up (px_up V 36 0) 38 0) 20 0 = Vc
    have vc : ∀ j, j ≠ 20 → j ≠ 36 → j ≠ 38 → Vc j = V j := fun j a b c => by rw [← hVc, up_ne a, up_ne c, up_ne b]
    generalize hhc : px_wr h 619 (.inl (11, modF Vc)) = hc
    have c6 : hc.2[619]? = some (.inl (11, modF Vc)) := by rw [← hhc, wr_at, if_pos rfl, if_pos l6]
    have ce : ∀ r, r ≠ 619 → hc.2[r]? = h.2[r]? := fun r hr => by rw [← hhc, wr_at, if_neg (fun z => hr z.symm)]
    have frc : frm mtA h hc := by rw [← hhc]; exact frm_wr (frm_refl _ _) (.inl rfl)
    have w6 : ∀ X : Nat → Int32, (px_wr h 619 (.inl (11, modF X))).2[619]? = some (.inl (11, modF X)) := fun X => by rw [wr_at, if_pos rfl, if_pos l6]
    have hSc : shape hc := by rw [← hhc]; exact shape_mod hS
    have clc : px_cls hc 619 = some 11 := by unfold px_cls; rw [c6]
    have imc : imR hc Vc imE := ⟨by rw [← hVc, up_ne (by decide), up_ne (by decide), up_same]; rfl, by rw [← hVc, up_ne (by decide), up_same]; rfl, lA h 649, iA h 650, iA h 651, iA h 652, iA h 653, by rw [ce _ (by decide)]; exact at_649 hS, by rw [ce _ (by decide)]; exact at_650 hS, by rw [ce _ (by decide)]; exact at_651 hS, by rw [ce _ (by decide)]; exact at_652 hS, by rw [ce _ (by decide)]; exact at_653 hS, fun i hi => absurd hi (Nat.not_lt_zero i), fun t ht => absurd ht (Nat.not_lt_zero t)⟩
    have lc : 619 < hc.2.length := (List.getElem?_eq_some_iff.mp c6).1
    have fail : ∀ x : Nat, frmR S IM B s e x imE → Q (.inl none) (px_wr hc 619 (.inl (11, modF (px_up Vc 43 (nI x))))) := fun x fr => by
      refine hQ x imE (px_up Vc 43 (nI x)) _ fr ?_ (up_same _ _ _) (fun j a b c d => by rw [up_ne d]; exact vc j a b c) (by rw [wr_at, if_pos rfl, if_pos lc]) (frm_wr frc (.inl rfl)) (shape_int (k := 43) hSc c6 rfl)
      obtain ⟨v1, v2, L, NM, NS, VL, VS, d9, d0, d1, d2, d3, oL, rows⟩ := imc
      exact ⟨by rw [up_ne (by decide)]; exact v1, by rw [up_ne (by decide)]; exact v2, L, NM, NS, VL, VS, by rw [wr_at, if_neg (by decide)]; exact d9, by rw [wr_at, if_neg (by decide)]; exact d0, by rw [wr_at, if_neg (by decide)]; exact d1, by rw [wr_at, if_neg (by decide)]; exact d2, by rw [wr_at, if_neg (by decide)]; exact d3, oL, rows⟩
    have v43 : Vc 43 = 0 := by rw [vc 43 (by decide) (by decide) (by decide)]; exact hf
    have ww : ∀ X Y : Nat → Int32, px_wr (px_wr h 619 (.inl (11, modF X))) 619 (.inl (11, modF Y)) = px_wr h 619 (.inl (11, modF Y)) := fun X Y => px_wr_wr
    rcases h1 with rfl | rfl
    · have nE : ¬ fromE B s e := by rcases hem with ⟨a, -⟩ | ⟨-, b⟩; (· exact absurd a (by decide)); exact b
      rcases h2 with rfl | rfl
      · simp only [pc150_112, pc150_112n, pc150_113, pc150_114, pc150_117, pc150_117n, pc150_118, pc150_119, pc150_122, pc150_122n, pc150_123, pc150_124, pc150_127, pc150_129, pc150_132, pc150_134, pc150_137, pc150_137n, pc150_138, pc150_139, px_op_some, px_kv_ap, px_ki_ap, px_kl_ap, px_kn_ap, px_kh_ap, px_op_none, px_K_some, px_K_none, px_K_thr, px_kill, ↓reduceIte, if_true, if_false, true_and, and_true, px_pf, h6, w6, ww, mfs_36, mfs_38, mfs_20, mf_len, Nat.reduceLT, px_fit, and_self, not_true_eq_false, hVc, hhc, clc]
        refine m_fail (x := 1) c6 v43 ?_
        simp only [px_K_none, pc150_142, pc150_205]
        exact fail 1 (.inr (.inr ⟨nE, hd0 rfl, rfl, rfl⟩))
      · obtain ⟨j, fT⟩ := hd1 rfl
        have ke := hk rfl
        obtain ⟨f1, f2, f3, f4⟩ := fT
        have bk : g (k + 1) = nI (48 + j) := by rw [(hB (k + 1) (by omega)).1, show k + 1 = e - 1 by omega, f3]
        have i1 : px_in (nI (k + 1)) 600 = true := px_inb (by omega) (by decide)
        have j1 : (nI (k + 1)).toNatClampNeg = k + 1 := nI_clamp (by omega)
        have hAc : hc.2[620]? = some (.inr (1, 600, .inl g)) := by rw [ce _ (by decide)]; exact hA
        have s1 : nI (8 * q) + nI (48 + j) - 48 = nI (8 * q + j) := by
          rw [nI_add, show nI (8 * q + (48 + j)) - 48 = nI (8 * q + (48 + j) - 48) from nI_sub (b := 48) (by omega), show 8 * q + (48 + j) - 48 = 8 * q + j by omega]
        have s2 : nI (48 + j) - 48 = nI j := by rw [show nI (48 + j) - 48 = nI (48 + j - 48) from nI_sub (b := 48) (by omega), Nat.add_sub_cancel_left]
        have i2 : px_in (nI (8 * q + j)) 16 = true := px_inb (by omega) (by decide)
        have j2 : (nI (8 * q + j)).toNatClampNeg = 8 * q + j := nI_clamp (by omega)
        have ry' := ry
        obtain ⟨-, -, -, -, -, -, -, -, -, -, T, t1, t2⟩ := ry'
        have t1c : hc.2[628]? = some (.inr (3, 16, .inl T)) := by rw [ce _ (by decide)]; exact t1
        have tj := t2 j f4
        by_cases te : yT S j = true
        · rw [if_pos te] at tj
          simp only [pc150_112, pc150_112n, pc150_113, pc150_114, pc150_117, pc150_117n, pc150_118, pc150_119, pc150_122, pc150_122n, pc150_123, pc150_124, pc150_127, pc150_129, pc150_132, pc150_134, pc150_137, pc150_137n, pc150_138, pc150_139, pc150_142, pc150_145, pc150_147, pc150_150, pc150_150n, pc150_151, pc150_154, pc150_156, pc150_157, pc150_158, pc150_158n, pc150_159, pc150_162, pc150_164, pc150_165, pc150_166, pc150_167, pc150_168, pc150_170, pc150_171, pc150_172, pc150_175, pc150_175n, pc150_176, pc150_177, pc150_180, pc150_183, pc150_185, pc150_188, pc150_188n, pc150_189, pc150_190, pc150_190n, pc150_191, pc150_194, pc150_196, pc150_197, pc150_198, pc150_199, pc150_201, pc150_202, px_op_some, px_kv_ap, px_ki_ap, px_kl_ap, px_kn_ap, px_kh_ap, px_op_none, px_K_some, px_K_none, px_K_thr, px_kill, ↓reduceIte, if_true, if_false, true_and, and_true, px_gf, px_pf, px_ai, h6, w6, ww, mfs_36, mfs_38, mfs_20, mf_len, mf_1, mf_10, Nat.reduceLT, px_fit, and_self, not_true_eq_false, not_false_eq_true, ne_1_0, hVc, hhc, c6, hAc, t1c, m8, nI_p1, i1, j1, bk, s1, s2, i2, j2, tj, tg_i1, tg_b3, clc]
          obtain ⟨k', nl, ns, pos, na, nv, k1, k2, k3, k4, k5⟩ := td j f4 te
          refine m_takeR hS hw hq f4 ry te k1 k2 k3 (fun r hr => ce r (by omega)) c6 (fun h2 tm => ?_)
          simp only [px_K_none, pc150_205]
          have tm' := tm
          obtain ⟨L2, NM, NS, VL, VS, ⟨b1, b2, b3, -⟩, -⟩ := tm'
          refine hQ 0 (IM j) _ h2 (.inr (.inl ⟨nE, j, ⟨f1, f2, f3, f4⟩, .inl ⟨te, rfl, rfl⟩⟩)) ?_ ?_ (fun i a b c d => ?_) b3 (frm_trans frc b1) (b2 hSc)
          · rw [k5]
            exact imR_mtk k3 (fun _ => bl_255 hw k1) (by rw [up_ne (by decide), up_same]) (up_same _ _ _) tm
          · rw [up_ne (by decide), up_ne (by decide)]; exact v43
          · rw [up_ne c, up_ne b]; exact vc i a b c
        · rw [if_neg te] at tj
          simp only [pc150_112, pc150_112n, pc150_113, pc150_114, pc150_117, pc150_117n, pc150_118, pc150_119, pc150_122, pc150_122n, pc150_123, pc150_124, pc150_127, pc150_129, pc150_132, pc150_134, pc150_137, pc150_137n, pc150_138, pc150_139, pc150_142, pc150_145, pc150_147, pc150_150, pc150_150n, pc150_151, pc150_154, pc150_156, pc150_157, pc150_158, pc150_158n, pc150_159, pc150_162, pc150_164, pc150_165, pc150_166, pc150_167, pc150_168, pc150_170, pc150_171, pc150_172, pc150_175, pc150_175n, pc150_176, pc150_177, px_op_some, px_kv_ap, px_ki_ap, px_kl_ap, px_kn_ap, px_kh_ap, px_op_none, px_K_some, px_K_none, px_K_thr, px_kill, ↓reduceIte, if_true, if_false, true_and, and_true, px_gf, px_pf, px_ai, h6, w6, ww, mfs_36, mfs_38, mfs_20, mf_len, mf_1, mf_10, Nat.reduceLT, px_fit, and_self, not_true_eq_false, not_false_eq_true, ne_1_0, hVc, hhc, c6, hAc, t1c, m8, nI_p1, i1, j1, bk, s1, s2, i2, j2, tj, tg_i1, tg_b3, clc]
          refine m_fail (x := 2) c6 v43 ?_
          simp only [px_K_none, pc150_180, pc150_205]
          exact fail 2 (.inr (.inl ⟨nE, j, ⟨f1, f2, f3, f4⟩, .inr ⟨te, rfl, rfl⟩⟩))
    · have yE : fromE B s e := by rcases hem with ⟨-, b⟩ | ⟨a, -⟩; (· exact b); exact absurd a (by decide)
      have d0 := h3 rfl
      subst d0
      simp only [pc150_112, pc150_112n, pc150_113, pc150_114, pc150_117, pc150_117n, pc150_118, pc150_119, pc150_122, pc150_122n, pc150_123, pc150_124, pc150_127, pc150_129, pc150_132, pc150_134, pc150_137, pc150_137n, pc150_138, pc150_139, pc150_142, pc150_145, pc150_147, pc150_183, pc150_185, pc150_188, pc150_188n, pc150_189, pc150_190, pc150_190n, pc150_191, pc150_194, pc150_196, pc150_197, pc150_198, pc150_199, pc150_201, pc150_202, pc150_205, px_op_some, px_kv_ap, px_ki_ap, px_kl_ap, px_kn_ap, px_kh_ap, px_op_none, px_K_some, px_K_none, px_K_thr, px_kill, ↓reduceIte, if_true, if_false, true_and, and_true, px_pf, h6, w6, ww, mfs_36, mfs_38, mfs_20, mf_len, Nat.reduceLT, px_fit, and_self, not_false_eq_true, ne_1_0, hVc, hhc]
      exact hQ 0 imE Vc hc (.inl ⟨yE, rfl, rfl⟩) imc v43 (fun j a b c _ => vc j a b c) c6 frc hSc
  obtain ⟨r1, r2⟩ := fnd_rng (B := B) (c := 32) (e - s) s
  have EI := fromE_iff (B := B) hs
  have TI := fun j => fromT_iff (B := B) (j := j) hs
  simp only [pc150_0, pc150_0n, pc150_1, pc150_4, pc150_5, pc150_6, px_op_some, px_kv_ap, px_ki_ap, px_kl_ap, px_kn_ap, px_kh_ap, px_op_none, px_K_some, px_K_none, px_K_thr, px_kill, ↓reduceIte, if_true, if_false, true_and, and_true, px_gf, h6, mf_1]
  refine m_wordEnd hA (by decide) hB hn (by omega) he ?_
  generalize fnd B 32 s (e - s) = k at r1 r2 EI TI ⊢
  simp only [px_K_some, pc150_9, pc150_11, pc150_11n, pc150_12, pc150_15, pc150_16, pc150_18, pc150_21, pc150_23, px_op_some, px_kv_ap, px_ki_ap, px_kl_ap, px_kn_ap, px_kh_ap, px_op_none, px_K_some, px_K_none, px_K_thr, px_kill, ↓reduceIte, if_true, if_false, true_and, and_true, px_gf, h6, mf_1, px_kill]
  refine m_isWord hA (by decide) hB hn r1 (by omega) pk_from (fun x hx => ?_)
  have none_ : ¬ (wrd B s k [70, 82, 79, 77] ∧ k < e) → ∀ l5, px_Wp sx 150 112 [some (.ref 619), some (.int (nI q)), some (.int (nI s)), some (.int (nI e)), some (.int (nI k)), l5, some (.int 0), some (.int 0)] [] h Q := fun no l5 =>
    behind k l5 0 0 (.inl rfl) (.inl rfl) (fun z => absurd z (by decide)) (.inr ⟨rfl, fun z => no (EI.mp z).1⟩) (fun z => absurd z (by decide)) (fun _ j z => no ((TI j).mp z).1) (fun z => absurd z (by decide))
  rcases hx with ⟨rfl, gF⟩ | ⟨rfl, gF⟩
  · by_cases ke : k < e
    · have ge : ¬ nI e ≤ nI k := nI_ge ke (by omega)
      simp only [px_K_some, pc150_26, pc150_29, pc150_31, pc150_32, pc150_35, pc150_36, pc150_39, pc150_40, pc150_42, pc150_44, pc150_47, pc150_47n, pc150_48, pc150_51, pc150_53, pc150_54, pc150_55, pc150_56, pc150_59, pc150_60, px_op_some, px_kv_ap, px_ki_ap, px_kl_ap, px_kn_ap, px_kh_ap, px_op_none, px_K_some, px_K_none, px_K_thr, px_kill, ↓reduceIte, if_true, if_false, true_and, and_true, px_gf, h6, mf_1, ge, ne_1_0, px_kill, nI_p1]
      refine m_isWord hA (by decide) hB hn (by omega) he pk_empty (fun x hx => ?_)
      -- the digit
      have dig_ : ∀ em, em = 0 ∨ em = 1 → says em (fromE B s e) → (em = 1 → ¬ e = k + 2) → px_Wp sx 150 73 [some (.ref 619), some (.int (nI q)), some (.int (nI s)), some (.int (nI e)), some (.int (nI k)), some (.int 1), some (.int em), none] [] h Q := by
        intro em h01 hem hE
        by_cases k2 : e = k + 2
        · have e2 : nI e = nI (k + 2) := by rw [k2]
          have i1 : px_in (nI (k + 1)) 600 = true := px_inb (by omega) (by decide)
          have j1 : (nI (k + 1)).toNatClampNeg = k + 1 := nI_clamp (by omega)
          obtain ⟨b1, b2⟩ := hB (k + 1) (by omega)
          simp only [pc150_73, pc150_75, pc150_78, pc150_79, pc150_81, pc150_82, pc150_83, pc150_86, pc150_86n, pc150_87, pc150_90, pc150_92, pc150_93, pc150_94, pc150_95, pc150_97, pc150_99, px_op_some, px_kv_ap, px_ki_ap, px_kl_ap, px_kn_ap, px_kh_ap, px_op_none, px_K_some, px_K_none, px_K_thr, px_kill, ↓reduceIte, if_true, if_false, true_and, and_true, px_gf, px_ai, h6, mf_1, hA, ne_1_0, e2, nI_p1, nI_p2, not_true_eq_false, i1, j1, b1, tg_i1, and_self]
          refine m_inS (c := B (k + 1)) (a := 48) (b := 55) (by omega) (by decide) (by decide) (fun y hy => ?_)
          rcases hy with ⟨rfl, z⟩ | ⟨rfl, z⟩
          · simp only [px_K_some, pc150_102, pc150_105, pc150_106, pc150_109, pc150_110, px_op_some, px_kv_ap, px_ki_ap, px_kl_ap, px_kn_ap, px_kh_ap, px_op_none, px_K_some, px_K_none, px_K_thr, px_kill, ↓reduceIte, if_true, if_false, true_and, and_true, ne_1_0, px_kill]
            rw [← e2]
            exact behind k _ em 1 h01 (.inr rfl) (fun a => absurd k2 (hE a)) hem (fun _ => ⟨B (k + 1) - 48, (TI _).mpr ⟨⟨gF, ke⟩, k2, by omega, by omega⟩⟩) (fun a => absurd a (by decide)) (fun _ => k2.symm)
          · simp only [px_K_some, pc150_102, pc150_105, pc150_106, pc150_109, pc150_110, px_op_some, px_kv_ap, px_ki_ap, px_kl_ap, px_kn_ap, px_kh_ap, px_op_none, px_K_some, px_K_none, px_K_thr, px_kill, ↓reduceIte, if_true, if_false, true_and, and_true, px_kill]
            rw [← e2]
            exact behind k _ em 0 h01 (.inl rfl) (fun _ => rfl) hem (fun a => absurd a (by decide)) (fun _ j w => z (by have := (TI j).mp w; omega)) (fun a => absurd a (by decide))
        · have e2 : ¬ nI e = nI (k + 2) := fun z => k2 ((nI_eq (by omega) (by omega)).mp z)
          simp only [pc150_73, pc150_75, pc150_78, pc150_79, pc150_81, pc150_82, pc150_83, pc150_109, pc150_110, px_op_some, px_kv_ap, px_ki_ap, px_kl_ap, px_kn_ap, px_kh_ap, px_op_none, px_K_some, px_K_none, px_K_thr, px_kill, ↓reduceIte, if_true, if_false, true_and, and_true, ne_1_0, e2, nI_p2, not_false_eq_true, px_kill]
          exact behind k _ em 0 h01 (.inl rfl) (fun _ => rfl) hem (fun a => absurd a (by decide)) (fun _ j w => k2 ((TI j).mp w).2.1) (fun a => absurd a (by decide))
      rcases hx with ⟨rfl, y⟩ | ⟨rfl, y⟩
      · simp only [px_K_some, pc150_63, pc150_66, pc150_67, pc150_70, pc150_71, px_op_some, px_kv_ap, px_ki_ap, px_kl_ap, px_kn_ap, px_kh_ap, px_op_none, px_K_some, px_K_none, px_K_thr, px_kill, ↓reduceIte, if_true, if_false, true_and, and_true, ne_1_0, px_kill]
        exact dig_ 1 (.inr rfl) (.inl ⟨rfl, EI.mpr ⟨⟨gF, ke⟩, y⟩⟩) (fun _ z => by have h6 : e = k + 1 + 5 := y.1; omega)
      · simp only [px_K_some, pc150_63, pc150_66, pc150_67, pc150_70, pc150_71, px_op_some, px_kv_ap, px_ki_ap, px_kl_ap, px_kn_ap, px_kh_ap, px_op_none, px_K_some, px_K_none, px_K_thr, px_kill, ↓reduceIte, if_true, if_false, true_and, and_true, px_kill]
        exact dig_ 0 (.inl rfl) (.inr ⟨rfl, fun z => y (EI.mp z).2⟩) (fun z => absurd z (by decide))
    · have ge : nI e ≤ nI k := nI_le (by omega) (by omega)
      simp only [px_K_some, pc150_26, pc150_29, pc150_31, pc150_32, pc150_35, pc150_36, pc150_39, pc150_40, pc150_42, pc150_44, pc150_70, pc150_71, pc150_73, pc150_75, pc150_109, pc150_110, px_op_some, px_kv_ap, px_ki_ap, px_kl_ap, px_kn_ap, px_kh_ap, px_op_none, px_K_some, px_K_none, px_K_thr, px_kill, ↓reduceIte, if_true, if_false, true_and, and_true, ge, ne_1_0, px_kill]
      exact none_ (fun z => ke z.2) _
  · simp only [px_K_some, pc150_26, pc150_29, pc150_31, pc150_32, pc150_35, pc150_36, pc150_39, pc150_40, pc150_42, pc150_44, pc150_70, pc150_71, pc150_73, pc150_75, pc150_109, pc150_110, px_op_some, px_kv_ap, px_ki_ap, px_kl_ap, px_kn_ap, px_kh_ap, px_op_none, px_K_some, px_K_none, px_K_thr, px_kill, ↓reduceIte, if_true, if_false, true_and, and_true, px_kill]
    exact none_ (fun z => gF z.1) _
end MFIRST2
