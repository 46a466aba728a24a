/-! A COMMAND, the reference's: the words -/
section MCOM2
variable {sx : Nat × (Nat → Int32)} {h : px_H} {nl s e k n : Nat} {V X : Nat → Int32} {B : Nat → Nat} {t : aT} {Q : px_O → px_H → Prop}
set_option maxRecDepth 16384 in
theorem cmQ_mono {h1 : px_H} {V1 : Nat → Int32} (q : cmQ B s e k t h V Q) (hv : ∀ j, j ≠ 20 → j ≠ 32 → j ≠ 34 → j ≠ 43 → V1 j = V j) (fr : frm mvA h h1) : cmQ B s e k t h1 V1 Q := fun h' V' a b c d f g => q h' V' a b c (fun j j1 j2 j3 j4 => (d j j1 j2 j3 j4).trans (hv j j1 j2 j3 j4)) (frm_trans fr f) g
/-- which word stands there -/
def wdK (B : Nat → Nat) (s f k : Nat) : Prop := k < 6 ∧ wrd B s f (wd k) ∨ k = 6 ∧ ∀ j, j < 6 → ¬ wrd B s f (wd j)
set_option maxRecDepth 16384 in
theorem m_wq {f : Nat} (hX : h.2[654]? = some (.inr (1, 9000, .inl X))) (hB : txM X nl B) (hnl : nl ≤ 200) (hs : s ≤ f) (he : f ≤ nl) (cm : wdK B s f k) {j : Nat} {v : Int64} (hj : j < 6) (pk : pkd 0 (wd j) v) (hQ : Q (.inl (some (.int (if j = k then 1 else 0)))) h) :
    px_Wp sx 152 0 [some (.ref 654), some (.int (nI s)), some (.int (nI f)), some (.long v), none, some (.int 0), none, none, none] [] h Q := by
  refine m_isWord hX (by decide) hB (by omega) hs he pk (fun x hx => ?_)
  rcases hx with ⟨rfl, hx⟩ | ⟨rfl, hx⟩
  · have jk : j = k := by
      rcases cm with ⟨k6, ck⟩ | ⟨-, no⟩
      · exact wd_inj j hj k k6 (wrd_uniq hx ck)
      · exact absurd hx (no j hj)
    rw [if_pos jk] at hQ
    exact hQ
  · have jk : ¬ j = k := fun z => by
      rcases cm with ⟨k6, ck⟩ | ⟨k6, no⟩
      · rw [z] at hx; exact hx ck
      · omega
    rw [if_neg jk] at hQ
    exact hQ
set_option maxRecDepth 16384 in
theorem m_com_g0 (hS : shape h) (h6 : h.2[619]? = some (.inl (11, modF V))) (hX : h.2[654]? = some (.inr (1, 9000, .inl X))) (hB : txM X nl B) (hnl : nl ≤ 200) (hs : s ≤ e) (he : e ≤ nl) (hf : V 43 = 0) (hv : V 20 = nI t.1) (w : mtE h (fun i => i < t.1) t.2) (sh : tSH t.1 t.2) (cm : wdK B s (fnd B 32 s (e - s)) 0) (hQ : cmQ B s e 0 t h V Q) :
    px_Wp sx 196 184 [some (.ref 619), some (.int (nI s)), some (.int (nI e)), some (.int (nI (fnd B 32 s (e - s)))), some (.int (nI (pS B s e))), some (.int (nI (pF B s e))), some (.int (nI (min (pF B s e + 1) e))), some (.int 1), some (.int 0), some (.int 0), none] [] h Q := by
  have hcls : px_cls h 619 = some 11 := by unfold px_cls; rw [h6]
  have hl6 : 619 < h.2.length := (List.getElem?_eq_some_iff.mp h6).1
  have rs := pS_rng (B := B) hs
  have rf := pF_rng (B := B) hs
  have rw_ := fnd_rng (B := B) (c := 32) (e - s) s
  have hB' : ∀ j, j < e → X j = nI (B j) ∧ B j < 1000 := fun j hj => by have := hB j (by omega); exact ⟨this.1, by omega⟩
  have bad : ¬ ptG B s e 0 → px_Wp sx 196 231 [some (.ref 619), some (.int (nI s)), some (.int (nI e)), some (.int (nI (fnd B 32 s (e - s)))), some (.int (nI (pS B s e))), some (.int (nI (pF B s e))), some (.int (nI (min (pF B s e + 1) e))), some (.int 1), some (.int 0), some (.int 0), none] [] h Q := fun ng => by
    simp only [pc196_231, pc196_232, pc196_234, pc196_236, pc196_239, pc196_239n, pc196_240, pc196_241, not_true_eq_false, if_false, hcls, true_and, px_kill]
    refine m_fail h6 hf ?_
    simp only [px_K_none, pc196_244]
    exact cmQ_bad (x := 1) hQ (cdX_1 (fun z => ng z.2)) (by decide) (by rw [wr_at, if_pos rfl, if_pos hl6]; rfl) (fun j _ _ _ _ => rfl) (frm_wr (frm_refl _ _) (.inl rfl)) (shape_mod hS)
  simp only [pc196_184, pc196_184n, pc196_185, pc196_188, pc196_190, pc196_192, px_op_some, px_kv_ap, px_ki_ap, px_kl_ap, px_kn_ap, px_kh_ap, px_op_none, px_K_some, px_K_none, px_K_thr, px_kill, ↓reduceIte, if_true, if_false, true_and, and_true, px_gf, h6, mf_48]
  refine m_isPathE hX (by decide) rf.1 (by omega) (fun j hj => hB' j (by omega)) (fun x hx => ?_)
  have iff := ptG_1 (B := B) (k := 0) hs (by omega)
  rcases hx with ⟨rfl, hx⟩ | ⟨rfl, hx⟩
  rotate_left
  · simp only [px_K_some, pc196_195, if_true]
    exact bad (fun z => hx (iff.mp z).1)
  by_cases fe : pF B s e = e
  rotate_left
  · have ne : ¬ nI (pF B s e) = nI e := fun z => fe ((nI_eq (by omega) (by omega)).mp z)
    simp only [px_K_some, pc196_195, pc196_198, pc196_200, pc196_203, pc196_205, pc196_206, ne_1_0, if_false, ne, not_false_eq_true, if_true]
    exact bad (fun z => fe (iff.mp z).2)
  have g : ptG B s e 0 := iff.mpr ⟨hx, fe⟩
  have ee : nI (pF B s e) = nI e := by rw [fe]
  have lc : cLn B s e 0 = pF B s e - pS B s e := by unfold cLn; rw [show pE B s e 0 = e from if_pos (by omega), fe]
  simp only [px_K_some, pc196_195, pc196_198, pc196_200, pc196_203, pc196_205, pc196_206, pc196_209, pc196_211, pc196_227, pc196_228, pc196_231, pc196_232, pc196_234, pc196_236, pc196_245, pc196_245n, pc196_246, pc196_248, pc196_250, ne_1_0, if_false, ee, not_true_eq_false, not_false_eq_true, if_true, hcls, true_and, px_kill]
  rw [← ee]
  refine m_takePathE hS h6 hX rf.1 (by omega) (by omega) (fun j hj => (hB' j (by omega)).1) (fun h1 c6 pt1 fr1 hS1 => ?_)
  have hc1 : px_cls h1 619 = some 11 := by unfold px_cls; rw [c6]
  have hX1 : h1.2[654]? = some (.inr (1, 9000, .inl X)) := frm_at fr1 (by omega) hX
  have w1 : mtE h1 (fun i => i < t.1) t.2 := mtE_frm w (fun r hr => by unfold mEA at hr; exact fr1.2.2 r (by omega))
  have hQ1 : cmQ B s e 0 t h1 (px_up V 32 (nI (pF B s e - pS B s e))) Q := cmQ_mono hQ (fun j _ j2 _ _ => by rw [up_ne j2]) (frm_mono fr1 (fun r hr => by unfold mvA; omega))
  have v20 : px_up V 32 (nI (pF B s e - pS B s e)) 20 = nI t.1 := by rw [up_ne (by decide)]; exact hv
  have v43 : px_up V 32 (nI (pF B s e - pS B s e)) 43 = 0 := by rw [up_ne (by decide)]; exact hf
  have v32 : px_up V 32 (nI (pF B s e - pS B s e)) 32 = nI (cLn B s e 0) := by rw [up_same, lc]
  have pt2 : mpt h1 (cPt B s e 0) (cLn B s e 0) := by unfold cPt; rw [lc]; exact pt1
  simp only [px_K_none, pc196_253, pc196_255, pc196_265, pc196_267, pc196_270, pc196_270n, pc196_271, pc196_274, pc196_275, pc196_276, pc196_279, pc196_280, px_op_some, px_kv_ap, px_ki_ap, px_kl_ap, px_kn_ap, px_kh_ap, px_op_none, px_K_some, px_K_none, px_K_thr, px_kill, ↓reduceIte, if_true, if_false, true_and, and_true, px_gf, c6, mf_48, ne_1_0]
  refine m_wq hX1 hB hnl rw_.1 (by omega) cm (j := 1) (by decide) pk_rm ?_
  simp only [px_K_some, pc196_283, if_neg (show ¬ (1 : Nat) = 0 by decide), if_true]
  have := m_com_t0 (sx := sx) (l1 := some (.int (nI s))) (l3 := some (.int (nI (fnd B 32 s (e - s))))) (l4 := some (.int (nI (pS B s e)))) (l5 := some (.int (nI (pF B s e)))) (l7 := some (.int 1)) (l8 := some (.int 0)) (l9 := some (.int 0)) (l10 := some (.int 1)) hS1 c6 hX1 hB hnl hs he v43 v20 w1 sh g v32 pt2 hQ1
  rw [show pT B s e 0 = min (pF B s e + 1) e by unfold pT; rw [show pE B s e 0 = e from if_pos (.inl rfl), fe]] at this
  rw [ee] at this ⊢
  exact this
set_option maxRecDepth 16384 in
theorem m_com_g1 (hS : shape h) (h6 : h.2[619]? = some (.inl (11, modF V))) (hX : h.2[654]? = some (.inr (1, 9000, .inl X))) (hB : txM X nl B) (hnl : nl ≤ 200) (hs : s ≤ e) (he : e ≤ nl) (hf : V 43 = 0) (hv : V 20 = nI t.1) (w : mtE h (fun i => i < t.1) t.2) (sh : tSH t.1 t.2) (cm : wdK B s (fnd B 32 s (e - s)) 1) (hQ : cmQ B s e 1 t h V Q) :
    px_Wp sx 196 184 [some (.ref 619), some (.int (nI s)), some (.int (nI e)), some (.int (nI (fnd B 32 s (e - s)))), some (.int (nI (pS B s e))), some (.int (nI (pF B s e))), some (.int (nI (min (pF B s e + 1) e))), some (.int 1), some (.int 0), some (.int 0), none] [] h Q := by
  have hcls : px_cls h 619 = some 11 := by unfold px_cls; rw [h6]
  have hl6 : 619 < h.2.length := (List.getElem?_eq_some_iff.mp h6).1
  have rs := pS_rng (B := B) hs
  have rf := pF_rng (B := B) hs
  have rw_ := fnd_rng (B := B) (c := 32) (e - s) s
  have hB' : ∀ j, j < e → X j = nI (B j) ∧ B j < 1000 := fun j hj => by have := hB j (by omega); exact ⟨this.1, by omega⟩
  have bad : ¬ ptG B s e 1 → px_Wp sx 196 231 [some (.ref 619), some (.int (nI s)), some (.int (nI e)), some (.int (nI (fnd B 32 s (e - s)))), some (.int (nI (pS B s e))), some (.int (nI (pF B s e))), some (.int (nI (min (pF B s e + 1) e))), some (.int 1), some (.int 0), some (.int 0), none] [] h Q := fun ng => by
    simp only [pc196_231, pc196_232, pc196_234, pc196_236, pc196_239, pc196_239n, pc196_240, pc196_241, not_true_eq_false, if_false, hcls, true_and, px_kill]
    refine m_fail h6 hf ?_
    simp only [px_K_none, pc196_244]
    exact cmQ_bad (x := 1) hQ (cdX_1 (fun z => ng z.2)) (by decide) (by rw [wr_at, if_pos rfl, if_pos hl6]; rfl) (fun j _ _ _ _ => rfl) (frm_wr (frm_refl _ _) (.inl rfl)) (shape_mod hS)
  simp only [pc196_184, pc196_184n, pc196_185, pc196_188, pc196_190, pc196_192, px_op_some, px_kv_ap, px_ki_ap, px_kl_ap, px_kn_ap, px_kh_ap, px_op_none, px_K_some, px_K_none, px_K_thr, px_kill, ↓reduceIte, if_true, if_false, true_and, and_true, px_gf, h6, mf_48]
  refine m_isPathE hX (by decide) rf.1 (by omega) (fun j hj => hB' j (by omega)) (fun x hx => ?_)
  have iff := ptG_1 (B := B) (k := 1) hs (by omega)
  rcases hx with ⟨rfl, hx⟩ | ⟨rfl, hx⟩
  rotate_left
  · simp only [px_K_some, pc196_195, if_true]
    exact bad (fun z => hx (iff.mp z).1)
  by_cases fe : pF B s e = e
  rotate_left
  · have ne : ¬ nI (pF B s e) = nI e := fun z => fe ((nI_eq (by omega) (by omega)).mp z)
    simp only [px_K_some, pc196_195, pc196_198, pc196_200, pc196_203, pc196_205, pc196_206, ne_1_0, if_false, ne, not_false_eq_true, if_true]
    exact bad (fun z => fe (iff.mp z).2)
  have g : ptG B s e 1 := iff.mpr ⟨hx, fe⟩
  have ee : nI (pF B s e) = nI e := by rw [fe]
  have lc : cLn B s e 1 = pF B s e - pS B s e := by unfold cLn; rw [show pE B s e 1 = e from if_pos (by omega), fe]
  simp only [px_K_some, pc196_195, pc196_198, pc196_200, pc196_203, pc196_205, pc196_206, pc196_209, pc196_211, pc196_227, pc196_228, pc196_231, pc196_232, pc196_234, pc196_236, pc196_245, pc196_245n, pc196_246, pc196_248, pc196_250, ne_1_0, if_false, ee, not_true_eq_false, not_false_eq_true, if_true, hcls, true_and, px_kill]
  rw [← ee]
  refine m_takePathE hS h6 hX rf.1 (by omega) (by omega) (fun j hj => (hB' j (by omega)).1) (fun h1 c6 pt1 fr1 hS1 => ?_)
  have hc1 : px_cls h1 619 = some 11 := by unfold px_cls; rw [c6]
  have hX1 : h1.2[654]? = some (.inr (1, 9000, .inl X)) := frm_at fr1 (by omega) hX
  have w1 : mtE h1 (fun i => i < t.1) t.2 := mtE_frm w (fun r hr => by unfold mEA at hr; exact fr1.2.2 r (by omega))
  have hQ1 : cmQ B s e 1 t h1 (px_up V 32 (nI (pF B s e - pS B s e))) Q := cmQ_mono hQ (fun j _ j2 _ _ => by rw [up_ne j2]) (frm_mono fr1 (fun r hr => by unfold mvA; omega))
  have v20 : px_up V 32 (nI (pF B s e - pS B s e)) 20 = nI t.1 := by rw [up_ne (by decide)]; exact hv
  have v43 : px_up V 32 (nI (pF B s e - pS B s e)) 43 = 0 := by rw [up_ne (by decide)]; exact hf
  have v32 : px_up V 32 (nI (pF B s e - pS B s e)) 32 = nI (cLn B s e 1) := by rw [up_same, lc]
  have pt2 : mpt h1 (cPt B s e 1) (cLn B s e 1) := by unfold cPt; rw [lc]; exact pt1
  simp only [px_K_none, pc196_253, pc196_255, pc196_265, pc196_267, pc196_270, pc196_270n, pc196_271, pc196_274, pc196_275, pc196_276, pc196_279, pc196_280, px_op_some, px_kv_ap, px_ki_ap, px_kl_ap, px_kn_ap, px_kh_ap, px_op_none, px_K_some, px_K_none, px_K_thr, px_kill, ↓reduceIte, if_true, if_false, true_and, and_true, px_gf, c6, mf_48, ne_1_0]
  refine m_wq hX1 hB hnl rw_.1 (by omega) cm (j := 1) (by decide) pk_rm ?_
  simp only [px_K_some, pc196_283, if_pos (show (1 : Nat) = 1 from rfl), if_true, ne_1_0, if_false]
  have := m_com_t1 (sx := sx) (l1 := some (.int (nI s))) (l3 := some (.int (nI (fnd B 32 s (e - s))))) (l4 := some (.int (nI (pS B s e)))) (l5 := some (.int (nI (pF B s e)))) (l7 := some (.int 1)) (l8 := some (.int 0)) (l9 := some (.int 0)) (l10 := some (.int 1)) hS1 c6 hX1 hB hnl hs he v43 v20 w1 sh g v32 pt2 hQ1
  rw [show pT B s e 1 = min (pF B s e + 1) e by unfold pT; rw [show pE B s e 1 = e from if_pos (.inr rfl), fe]] at this
  rw [ee] at this ⊢
  exact this
set_option maxRecDepth 16384 in
theorem m_com_g2 (hS : shape h) (h6 : h.2[619]? = some (.inl (11, modF V))) (hX : h.2[654]? = some (.inr (1, 9000, .inl X))) (hB : txM X nl B) (hnl : nl ≤ 200) (hs : s ≤ e) (he : e ≤ nl) (hf : V 43 = 0) (hv : V 20 = nI t.1) (w : mtE h (fun i => i < t.1) t.2) (sh : tSH t.1 t.2) (cm : wdK B s (fnd B 32 s (e - s)) 2) (hQ : cmQ B s e 2 t h V Q) :
    px_Wp sx 196 184 [some (.ref 619), some (.int (nI s)), some (.int (nI e)), some (.int (nI (fnd B 32 s (e - s)))), some (.int (nI (pS B s e))), some (.int (nI (pF B s e))), some (.int (nI (min (pF B s e + 1) e))), some (.int 0), some (.int 1), some (.int 0), none] [] h Q := by
  have hcls : px_cls h 619 = some 11 := by unfold px_cls; rw [h6]
  have hl6 : 619 < h.2.length := (List.getElem?_eq_some_iff.mp h6).1
  have rs := pS_rng (B := B) hs
  have rf := pF_rng (B := B) hs
  have rw_ := fnd_rng (B := B) (c := 32) (e - s) s
  have hB' : ∀ j, j < e → X j = nI (B j) ∧ B j < 1000 := fun j hj => by have := hB j (by omega); exact ⟨this.1, by omega⟩
  have bad : ¬ ptG B s e 2 → px_Wp sx 196 231 [some (.ref 619), some (.int (nI s)), some (.int (nI e)), some (.int (nI (fnd B 32 s (e - s)))), some (.int (nI (pS B s e))), some (.int (nI (pF B s e))), some (.int (nI (min (pF B s e + 1) e))), some (.int 0), some (.int 1), some (.int 0), none] [] h Q := fun ng => by
    simp only [pc196_231, pc196_232, pc196_234, pc196_236, pc196_239, pc196_239n, pc196_240, pc196_241, not_true_eq_false, if_false, hcls, true_and, px_kill]
    refine m_fail h6 hf ?_
    simp only [px_K_none, pc196_244]
    exact cmQ_bad (x := 1) hQ (cdX_1 (fun z => ng z.2)) (by decide) (by rw [wr_at, if_pos rfl, if_pos hl6]; rfl) (fun j _ _ _ _ => rfl) (frm_wr (frm_refl _ _) (.inl rfl)) (shape_mod hS)
  simp only [pc196_184, pc196_184n, pc196_185, pc196_188, pc196_190, pc196_192, px_op_some, px_kv_ap, px_ki_ap, px_kl_ap, px_kn_ap, px_kh_ap, px_op_none, px_K_some, px_K_none, px_K_thr, px_kill, ↓reduceIte, if_true, if_false, true_and, and_true, px_gf, h6, mf_48]
  refine m_isPathE hX (by decide) rf.1 (by omega) (fun j hj => hB' j (by omega)) (fun x hx => ?_)
  have pe : pE B s e 2 = pF B s e := pE_2 (by decide)
  rcases hx with ⟨rfl, hx⟩ | ⟨rfl, hx⟩
  rotate_left
  · simp only [px_K_some, pc196_195, if_true]
    exact bad (fun z => hx (by have := z.1; rw [pe] at this; exact this))
  have g : ptG B s e 2 := ⟨by rw [pe]; exact hx, fun z => by omega⟩
  have lc : cLn B s e 2 = pF B s e - pS B s e := by unfold cLn; rw [pe]
  simp only [px_K_some, pc196_195, pc196_198, pc196_200, pc196_209, pc196_211, pc196_227, pc196_228, pc196_231, pc196_232, pc196_234, pc196_236, pc196_245, pc196_245n, pc196_246, pc196_248, pc196_250, ne_1_0, if_false, not_false_eq_true, if_true, hcls, true_and, px_kill]
  refine m_takePathE hS h6 hX rf.1 (by omega) (by omega) (fun j hj => (hB' j (by omega)).1) (fun h1 c6 pt1 fr1 hS1 => ?_)
  have hc1 : px_cls h1 619 = some 11 := by unfold px_cls; rw [c6]
  have hX1 : h1.2[654]? = some (.inr (1, 9000, .inl X)) := frm_at fr1 (by omega) hX
  have w1 : mtE h1 (fun i => i < t.1) t.2 := mtE_frm w (fun r hr => by unfold mEA at hr; exact fr1.2.2 r (by omega))
  have hQ1 : cmQ B s e 2 t h1 (px_up V 32 (nI (pF B s e - pS B s e))) Q := cmQ_mono hQ (fun j _ j2 _ _ => by rw [up_ne j2]) (frm_mono fr1 (fun r hr => by unfold mvA; omega))
  have v20 : px_up V 32 (nI (pF B s e - pS B s e)) 20 = nI t.1 := by rw [up_ne (by decide)]; exact hv
  have v43 : px_up V 32 (nI (pF B s e - pS B s e)) 43 = 0 := by rw [up_ne (by decide)]; exact hf
  have v32 : px_up V 32 (nI (pF B s e - pS B s e)) 32 = nI (cLn B s e 2) := by rw [up_same, lc]
  have pt2 : mpt h1 (cPt B s e 2) (cLn B s e 2) := by unfold cPt; rw [lc]; exact pt1
  simp only [px_K_none, pc196_253, pc196_255, pc196_265, pc196_267, pc196_300, pc196_302, pc196_305, pc196_305n, pc196_306, pc196_309, pc196_310, pc196_311, pc196_314, pc196_315, px_op_some, px_kv_ap, px_ki_ap, px_kl_ap, px_kn_ap, px_kh_ap, px_op_none, px_K_some, px_K_none, px_K_thr, px_kill, ↓reduceIte, if_true, if_false, true_and, and_true, px_gf, c6, mf_48, ne_1_0]
  refine m_wq hX1 hB hnl rw_.1 (by omega) cm (j := 2) (by decide) pk_put ?_
  simp only [px_K_some, pc196_318, if_pos (show (2 : Nat) = 2 from rfl), ne_1_0, if_false]
  have := m_com_t2 (sx := sx) (l1 := some (.int (nI s))) (l3 := some (.int (nI (fnd B 32 s (e - s))))) (l4 := some (.int (nI (pS B s e)))) (l5 := some (.int (nI (pF B s e)))) (l7 := some (.int 0)) (l8 := some (.int 1)) (l9 := some (.int 0)) (l10 := some (.int 1)) hS1 c6 hX1 hB hnl hs he v43 v20 w1 sh g v32 pt2 hQ1
  rw [show pT B s e 2 = min (pF B s e + 1) e by unfold pT; rw [pe]] at this
  exact this
set_option maxRecDepth 16384 in
theorem m_com_g3 (hS : shape h) (h6 : h.2[619]? = some (.inl (11, modF V))) (hX : h.2[654]? = some (.inr (1, 9000, .inl X))) (hB : txM X nl B) (hnl : nl ≤ 200) (hs : s ≤ e) (he : e ≤ nl) (hf : V 43 = 0) (hv : V 20 = nI t.1) (w : mtE h (fun i => i < t.1) t.2) (sh : tSH t.1 t.2) (cm : wdK B s (fnd B 32 s (e - s)) 3) (hQ : cmQ B s e 3 t h V Q) :
    px_Wp sx 196 184 [some (.ref 619), some (.int (nI s)), some (.int (nI e)), some (.int (nI (fnd B 32 s (e - s)))), some (.int (nI (pS B s e))), some (.int (nI (pF B s e))), some (.int (nI (min (pF B s e + 1) e))), some (.int 0), some (.int 1), some (.int 0), none] [] h Q := by
  have hcls : px_cls h 619 = some 11 := by unfold px_cls; rw [h6]
  have hl6 : 619 < h.2.length := (List.getElem?_eq_some_iff.mp h6).1
  have rs := pS_rng (B := B) hs
  have rf := pF_rng (B := B) hs
  have rw_ := fnd_rng (B := B) (c := 32) (e - s) s
  have hB' : ∀ j, j < e → X j = nI (B j) ∧ B j < 1000 := fun j hj => by have := hB j (by omega); exact ⟨this.1, by omega⟩
  have bad : ¬ ptG B s e 3 → px_Wp sx 196 231 [some (.ref 619), some (.int (nI s)), some (.int (nI e)), some (.int (nI (fnd B 32 s (e - s)))), some (.int (nI (pS B s e))), some (.int (nI (pF B s e))), some (.int (nI (min (pF B s e + 1) e))), some (.int 0), some (.int 1), some (.int 0), none] [] h Q := fun ng => by
    simp only [pc196_231, pc196_232, pc196_234, pc196_236, pc196_239, pc196_239n, pc196_240, pc196_241, not_true_eq_false, if_false, hcls, true_and, px_kill]
    refine m_fail h6 hf ?_
    simp only [px_K_none, pc196_244]
    exact cmQ_bad (x := 1) hQ (cdX_1 (fun z => ng z.2)) (by decide) (by rw [wr_at, if_pos rfl, if_pos hl6]; rfl) (fun j _ _ _ _ => rfl) (frm_wr (frm_refl _ _) (.inl rfl)) (shape_mod hS)
  simp only [pc196_184, pc196_184n, pc196_185, pc196_188, pc196_190, pc196_192, px_op_some, px_kv_ap, px_ki_ap, px_kl_ap, px_kn_ap, px_kh_ap, px_op_none, px_K_some, px_K_none, px_K_thr, px_kill, ↓reduceIte, if_true, if_false, true_and, and_true, px_gf, h6, mf_48]
  refine m_isPathE hX (by decide) rf.1 (by omega) (fun j hj => hB' j (by omega)) (fun x hx => ?_)
  have pe : pE B s e 3 = pF B s e := pE_2 (by decide)
  rcases hx with ⟨rfl, hx⟩ | ⟨rfl, hx⟩
  rotate_left
  · simp only [px_K_some, pc196_195, if_true]
    exact bad (fun z => hx (by have := z.1; rw [pe] at this; exact this))
  have g : ptG B s e 3 := ⟨by rw [pe]; exact hx, fun z => by omega⟩
  have lc : cLn B s e 3 = pF B s e - pS B s e := by unfold cLn; rw [pe]
  simp only [px_K_some, pc196_195, pc196_198, pc196_200, pc196_209, pc196_211, pc196_227, pc196_228, pc196_231, pc196_232, pc196_234, pc196_236, pc196_245, pc196_245n, pc196_246, pc196_248, pc196_250, ne_1_0, if_false, not_false_eq_true, if_true, hcls, true_and, px_kill]
  refine m_takePathE hS h6 hX rf.1 (by omega) (by omega) (fun j hj => (hB' j (by omega)).1) (fun h1 c6 pt1 fr1 hS1 => ?_)
  have hc1 : px_cls h1 619 = some 11 := by unfold px_cls; rw [c6]
  have hX1 : h1.2[654]? = some (.inr (1, 9000, .inl X)) := frm_at fr1 (by omega) hX
  have w1 : mtE h1 (fun i => i < t.1) t.2 := mtE_frm w (fun r hr => by unfold mEA at hr; exact fr1.2.2 r (by omega))
  have hQ1 : cmQ B s e 3 t h1 (px_up V 32 (nI (pF B s e - pS B s e))) Q := cmQ_mono hQ (fun j _ j2 _ _ => by rw [up_ne j2]) (frm_mono fr1 (fun r hr => by unfold mvA; omega))
  have v20 : px_up V 32 (nI (pF B s e - pS B s e)) 20 = nI t.1 := by rw [up_ne (by decide)]; exact hv
  have v43 : px_up V 32 (nI (pF B s e - pS B s e)) 43 = 0 := by rw [up_ne (by decide)]; exact hf
  have v32 : px_up V 32 (nI (pF B s e - pS B s e)) 32 = nI (cLn B s e 3) := by rw [up_same, lc]
  have pt2 : mpt h1 (cPt B s e 3) (cLn B s e 3) := by unfold cPt; rw [lc]; exact pt1
  simp only [px_K_none, pc196_253, pc196_255, pc196_265, pc196_267, pc196_300, pc196_302, pc196_305, pc196_305n, pc196_306, pc196_309, pc196_310, pc196_311, pc196_314, pc196_315, px_op_some, px_kv_ap, px_ki_ap, px_kl_ap, px_kn_ap, px_kh_ap, px_op_none, px_K_some, px_K_none, px_K_thr, px_kill, ↓reduceIte, if_true, if_false, true_and, and_true, px_gf, c6, mf_48, ne_1_0]
  refine m_wq hX1 hB hnl rw_.1 (by omega) cm (j := 2) (by decide) pk_put ?_
  simp only [px_K_some, pc196_318, if_neg (show ¬ (2 : Nat) = 3 by decide), if_true]
  have := m_com_t3 (sx := sx) (l1 := some (.int (nI s))) (l3 := some (.int (nI (fnd B 32 s (e - s))))) (l4 := some (.int (nI (pS B s e)))) (l5 := some (.int (nI (pF B s e)))) (l7 := some (.int 0)) (l8 := some (.int 1)) (l9 := some (.int 0)) (l10 := some (.int 1)) hS1 c6 hX1 hB hnl hs he v43 v20 w1 sh g v32 pt2 hQ1
  rw [show pT B s e 3 = min (pF B s e + 1) e by unfold pT; rw [pe]] at this
  exact this
set_option maxRecDepth 16384 in
theorem m_com_g4 (hS : shape h) (h6 : h.2[619]? = some (.inl (11, modF V))) (hX : h.2[654]? = some (.inr (1, 9000, .inl X))) (hB : txM X nl B) (hnl : nl ≤ 200) (hs : s ≤ e) (he : e ≤ nl) (hf : V 43 = 0) (hv : V 20 = nI t.1) (w : mtE h (fun i => i < t.1) t.2) (sh : tSH t.1 t.2) (cm : wdK B s (fnd B 32 s (e - s)) 4) (hQ : cmQ B s e 4 t h V Q) :
    px_Wp sx 196 184 [some (.ref 619), some (.int (nI s)), some (.int (nI e)), some (.int (nI (fnd B 32 s (e - s)))), some (.int (nI (pS B s e))), some (.int (nI (pF B s e))), some (.int (nI (min (pF B s e + 1) e))), some (.int 0), some (.int 0), some (.int 1), none] [] h Q := by
  have hcls : px_cls h 619 = some 11 := by unfold px_cls; rw [h6]
  have hl6 : 619 < h.2.length := (List.getElem?_eq_some_iff.mp h6).1
  have rs := pS_rng (B := B) hs
  have rf := pF_rng (B := B) hs
  have rw_ := fnd_rng (B := B) (c := 32) (e - s) s
  have hB' : ∀ j, j < e → X j = nI (B j) ∧ B j < 1000 := fun j hj => by have := hB j (by omega); exact ⟨this.1, by omega⟩
  have bad : ¬ ptG B s e 4 → px_Wp sx 196 231 [some (.ref 619), some (.int (nI s)), some (.int (nI e)), some (.int (nI (fnd B 32 s (e - s)))), some (.int (nI (pS B s e))), some (.int (nI (pF B s e))), some (.int (nI (min (pF B s e + 1) e))), some (.int 0), some (.int 0), some (.int 1), none] [] h Q := fun ng => by
    simp only [pc196_231, pc196_232, pc196_234, pc196_236, pc196_239, pc196_239n, pc196_240, pc196_241, not_true_eq_false, if_false, hcls, true_and, px_kill]
    refine m_fail h6 hf ?_
    simp only [px_K_none, pc196_244]
    exact cmQ_bad (x := 1) hQ (cdX_1 (fun z => ng z.2)) (by decide) (by rw [wr_at, if_pos rfl, if_pos hl6]; rfl) (fun j _ _ _ _ => rfl) (frm_wr (frm_refl _ _) (.inl rfl)) (shape_mod hS)
  simp only [pc196_184, pc196_184n, pc196_185, pc196_188, pc196_190, pc196_192, px_op_some, px_kv_ap, px_ki_ap, px_kl_ap, px_kn_ap, px_kh_ap, px_op_none, px_K_some, px_K_none, px_K_thr, px_kill, ↓reduceIte, if_true, if_false, true_and, and_true, px_gf, h6, mf_48]
  refine m_isPathE hX (by decide) rf.1 (by omega) (fun j hj => hB' j (by omega)) (fun x hx => ?_)
  have pe : pE B s e 4 = pF B s e := pE_2 (by decide)
  have pt_ : pT B s e 4 = min (pF B s e + 1) e := by unfold pT; rw [pe]
  rcases hx with ⟨rfl, hx⟩ | ⟨rfl, hx⟩
  rotate_left
  · simp only [px_K_some, pc196_195, if_true]
    exact bad (fun z => hx (by have := z.1; rw [pe] at this; exact this))
  simp only [px_K_some, pc196_195, pc196_198, pc196_200, pc196_209, pc196_211, pc196_214, pc196_214n, pc196_215, pc196_218, pc196_220, pc196_221, px_op_some, px_kv_ap, px_ki_ap, px_kl_ap, px_kn_ap, px_kh_ap, px_op_none, px_K_some, px_K_none, px_K_thr, px_kill, ↓reduceIte, if_true, if_false, true_and, and_true, px_gf, h6, mf_48, ne_1_0]
  refine m_isPathE hX (by decide) (Nat.min_le_right _ _) (by omega) hB' (fun x hx2 => ?_)
  rcases hx2 with ⟨rfl, hx2⟩ | ⟨rfl, hx2⟩
  rotate_left
  · simp only [px_K_some, pc196_224, if_true]
    exact bad (fun z => hx2 (by have := z.2 (by omega); rw [pt_] at this; exact this))
  have g : ptG B s e 4 := ⟨by rw [pe]; exact hx, fun _ => by rw [pt_]; exact hx2⟩
  have lc : cLn B s e 4 = pF B s e - pS B s e := by unfold cLn; rw [pe]
  have lm : cLm B s e 4 = e - min (pF B s e + 1) e := by unfold cLm; rw [pt_]
  simp only [px_K_some, pc196_224, pc196_227, pc196_228, pc196_231, pc196_232, pc196_234, pc196_236, pc196_245, pc196_245n, pc196_246, pc196_248, pc196_250, ne_1_0, if_false, not_false_eq_true, if_true, hcls, true_and, px_kill]
  refine m_takePathE hS h6 hX rf.1 (by omega) (by omega) (fun j hj => (hB' j (by omega)).1) (fun h1 c6 pt1 fr1 hS1 => ?_)
  have hc1 : px_cls h1 619 = some 11 := by unfold px_cls; rw [c6]
  have hX1 : h1.2[654]? = some (.inr (1, 9000, .inl X)) := frm_at fr1 (by omega) hX
  have w1 : mtE h1 (fun i => i < t.1) t.2 := mtE_frm w (fun r hr => by unfold mEA at hr; exact fr1.2.2 r (by omega))
  have hQ1 : cmQ B s e 4 t h1 (px_up V 32 (nI (pF B s e - pS B s e))) Q := cmQ_mono hQ (fun j _ j2 _ _ => by rw [up_ne j2]) (frm_mono fr1 (fun r hr => by unfold mvA; omega))
  have v20 : px_up V 32 (nI (pF B s e - pS B s e)) 20 = nI t.1 := by rw [up_ne (by decide)]; exact hv
  have v43 : px_up V 32 (nI (pF B s e - pS B s e)) 43 = 0 := by rw [up_ne (by decide)]; exact hf
  have v32 : px_up V 32 (nI (pF B s e - pS B s e)) 32 = nI (cLn B s e 4) := by rw [up_same, lc]
  have pt2 : mpt h1 (cPt B s e 4) (cLn B s e 4) := by unfold cPt; rw [lc]; exact pt1
  simp only [px_K_none, pc196_253, pc196_255, pc196_258, pc196_258n, pc196_259, pc196_261, pc196_262, ne_1_0, if_false, hc1, true_and]
  refine m_takeOtherE hS1 c6 hX1 (Nat.min_le_right _ _) (by omega) (by omega) (fun j hj => (hB' j hj).1) (fun h2 c62 po2 fr2 hS2 => ?_)
  have hc2 : px_cls h2 619 = some 11 := by unfold px_cls; rw [c62]
  have hX2 : h2.2[654]? = some (.inr (1, 9000, .inl X)) := frm_at fr2 (by omega) hX1
  have w2 : mtE h2 (fun i => i < t.1) t.2 := mtE_frm w1 (fun r hr => by unfold mEA at hr; exact fr2.2.2 r (by omega))
  have hQ2 : cmQ B s e 4 t h2 (px_up (px_up V 32 (nI (pF B s e - pS B s e))) 34 (nI (e - min (pF B s e + 1) e))) Q := cmQ_mono hQ1 (fun j _ _ j3 _ => by rw [up_ne j3]) (frm_mono fr2 (fun r hr => by unfold mvA; omega))
  have pt3 : mpt h2 (cPt B s e 4) (cLn B s e 4) := mpt_frm pt2 (fr2.2.2 647 (by omega))
  have po3 : mpo h2 (cPq B s e 4) (cLm B s e 4) := by unfold cPq; rw [lm, pt_]; exact po2
  simp only [px_K_none, pc196_265, pc196_267, pc196_300, pc196_302, pc196_341, pc196_341n, pc196_342, pc196_345, pc196_346, pc196_347, pc196_350, pc196_351, px_op_some, px_kv_ap, px_ki_ap, px_kl_ap, px_kn_ap, px_kh_ap, px_op_none, px_K_some, px_K_none, px_K_thr, px_kill, ↓reduceIte, if_true, if_false, true_and, and_true, px_gf, c62, mf_48]
  refine m_wq hX2 hB hnl rw_.1 (by omega) cm (j := 4) (by decide) pk_move ?_
  simp only [px_K_some, pc196_354, if_pos (show (4 : Nat) = 4 from rfl), ne_1_0, if_false]
  have := m_com_t4 (sx := sx) (l1 := some (.int (nI s))) (l3 := some (.int (nI (fnd B 32 s (e - s))))) (l4 := some (.int (nI (pS B s e)))) (l5 := some (.int (nI (pF B s e)))) (l7 := some (.int 0)) (l8 := some (.int 0)) (l9 := some (.int 1)) (l10 := some (.int 1)) hS2 c62 hX2 hB hnl hs he (by rw [up_ne (by decide)]; exact v43) (by rw [up_ne (by decide)]; exact v20) w2 sh g (by rw [up_ne (by decide)]; exact v32) pt3 (by rw [up_same, lm]) po3 hQ2
  rw [pt_] at this
  exact this
set_option maxRecDepth 16384 in
theorem m_com_g5 (hS : shape h) (h6 : h.2[619]? = some (.inl (11, modF V))) (hX : h.2[654]? = some (.inr (1, 9000, .inl X))) (hB : txM X nl B) (hnl : nl ≤ 200) (hs : s ≤ e) (he : e ≤ nl) (hf : V 43 = 0) (hv : V 20 = nI t.1) (w : mtE h (fun i => i < t.1) t.2) (sh : tSH t.1 t.2) (cm : wdK B s (fnd B 32 s (e - s)) 5) (hQ : cmQ B s e 5 t h V Q) :
    px_Wp sx 196 184 [some (.ref 619), some (.int (nI s)), some (.int (nI e)), some (.int (nI (fnd B 32 s (e - s)))), some (.int (nI (pS B s e))), some (.int (nI (pF B s e))), some (.int (nI (min (pF B s e + 1) e))), some (.int 0), some (.int 0), some (.int 1), none] [] h Q := by
  have hcls : px_cls h 619 = some 11 := by unfold px_cls; rw [h6]
  have hl6 : 619 < h.2.length := (List.getElem?_eq_some_iff.mp h6).1
  have rs := pS_rng (B := B) hs
  have rf := pF_rng (B := B) hs
  have rw_ := fnd_rng (B := B) (c := 32) (e - s) s
  have hB' : ∀ j, j < e → X j = nI (B j) ∧ B j < 1000 := fun j hj => by have := hB j (by omega); exact ⟨this.1, by omega⟩
  have bad : ¬ ptG B s e 5 → px_Wp sx 196 231 [some (.ref 619), some (.int (nI s)), some (.int (nI e)), some (.int (nI (fnd B 32 s (e - s)))), some (.int (nI (pS B s e))), some (.int (nI (pF B s e))), some (.int (nI (min (pF B s e + 1) e))), some (.int 0), some (.int 0), some (.int 1), none] [] h Q := fun ng => by
    simp only [pc196_231, pc196_232, pc196_234, pc196_236, pc196_239, pc196_239n, pc196_240, pc196_241, not_true_eq_false, if_false, hcls, true_and, px_kill]
    refine m_fail h6 hf ?_
    simp only [px_K_none, pc196_244]
    exact cmQ_bad (x := 1) hQ (cdX_1 (fun z => ng z.2)) (by decide) (by rw [wr_at, if_pos rfl, if_pos hl6]; rfl) (fun j _ _ _ _ => rfl) (frm_wr (frm_refl _ _) (.inl rfl)) (shape_mod hS)
  simp only [pc196_184, pc196_184n, pc196_185, pc196_188, pc196_190, pc196_192, px_op_some, px_kv_ap, px_ki_ap, px_kl_ap, px_kn_ap, px_kh_ap, px_op_none, px_K_some, px_K_none, px_K_thr, px_kill, ↓reduceIte, if_true, if_false, true_and, and_true, px_gf, h6, mf_48]
  refine m_isPathE hX (by decide) rf.1 (by omega) (fun j hj => hB' j (by omega)) (fun x hx => ?_)
  have pe : pE B s e 5 = pF B s e := pE_2 (by decide)
  have pt_ : pT B s e 5 = min (pF B s e + 1) e := by unfold pT; rw [pe]
  rcases hx with ⟨rfl, hx⟩ | ⟨rfl, hx⟩
  rotate_left
  · simp only [px_K_some, pc196_195, if_true]
    exact bad (fun z => hx (by have := z.1; rw [pe] at this; exact this))
  simp only [px_K_some, pc196_195, pc196_198, pc196_200, pc196_209, pc196_211, pc196_214, pc196_214n, pc196_215, pc196_218, pc196_220, pc196_221, px_op_some, px_kv_ap, px_ki_ap, px_kl_ap, px_kn_ap, px_kh_ap, px_op_none, px_K_some, px_K_none, px_K_thr, px_kill, ↓reduceIte, if_true, if_false, true_and, and_true, px_gf, h6, mf_48, ne_1_0]
  refine m_isPathE hX (by decide) (Nat.min_le_right _ _) (by omega) hB' (fun x hx2 => ?_)
  rcases hx2 with ⟨rfl, hx2⟩ | ⟨rfl, hx2⟩
  rotate_left
  · simp only [px_K_some, pc196_224, if_true]
    exact bad (fun z => hx2 (by have := z.2 (by omega); rw [pt_] at this; exact this))
  have g : ptG B s e 5 := ⟨by rw [pe]; exact hx, fun _ => by rw [pt_]; exact hx2⟩
  have lc : cLn B s e 5 = pF B s e - pS B s e := by unfold cLn; rw [pe]
  have lm : cLm B s e 5 = e - min (pF B s e + 1) e := by unfold cLm; rw [pt_]
  simp only [px_K_some, pc196_224, pc196_227, pc196_228, pc196_231, pc196_232, pc196_234, pc196_236, pc196_245, pc196_245n, pc196_246, pc196_248, pc196_250, ne_1_0, if_false, not_false_eq_true, if_true, hcls, true_and, px_kill]
  refine m_takePathE hS h6 hX rf.1 (by omega) (by omega) (fun j hj => (hB' j (by omega)).1) (fun h1 c6 pt1 fr1 hS1 => ?_)
  have hc1 : px_cls h1 619 = some 11 := by unfold px_cls; rw [c6]
  have hX1 : h1.2[654]? = some (.inr (1, 9000, .inl X)) := frm_at fr1 (by omega) hX
  have w1 : mtE h1 (fun i => i < t.1) t.2 := mtE_frm w (fun r hr => by unfold mEA at hr; exact fr1.2.2 r (by omega))
  have hQ1 : cmQ B s e 5 t h1 (px_up V 32 (nI (pF B s e - pS B s e))) Q := cmQ_mono hQ (fun j _ j2 _ _ => by rw [up_ne j2]) (frm_mono fr1 (fun r hr => by unfold mvA; omega))
  have v20 : px_up V 32 (nI (pF B s e - pS B s e)) 20 = nI t.1 := by rw [up_ne (by decide)]; exact hv
  have v43 : px_up V 32 (nI (pF B s e - pS B s e)) 43 = 0 := by rw [up_ne (by decide)]; exact hf
  have v32 : px_up V 32 (nI (pF B s e - pS B s e)) 32 = nI (cLn B s e 5) := by rw [up_same, lc]
  have pt2 : mpt h1 (cPt B s e 5) (cLn B s e 5) := by unfold cPt; rw [lc]; exact pt1
  simp only [px_K_none, pc196_253, pc196_255, pc196_258, pc196_258n, pc196_259, pc196_261, pc196_262, ne_1_0, if_false, hc1, true_and]
  refine m_takeOtherE hS1 c6 hX1 (Nat.min_le_right _ _) (by omega) (by omega) (fun j hj => (hB' j hj).1) (fun h2 c62 po2 fr2 hS2 => ?_)
  have hc2 : px_cls h2 619 = some 11 := by unfold px_cls; rw [c62]
  have hX2 : h2.2[654]? = some (.inr (1, 9000, .inl X)) := frm_at fr2 (by omega) hX1
  have w2 : mtE h2 (fun i => i < t.1) t.2 := mtE_frm w1 (fun r hr => by unfold mEA at hr; exact fr2.2.2 r (by omega))
  have hQ2 : cmQ B s e 5 t h2 (px_up (px_up V 32 (nI (pF B s e - pS B s e))) 34 (nI (e - min (pF B s e + 1) e))) Q := cmQ_mono hQ1 (fun j _ _ j3 _ => by rw [up_ne j3]) (frm_mono fr2 (fun r hr => by unfold mvA; omega))
  have pt3 : mpt h2 (cPt B s e 5) (cLn B s e 5) := mpt_frm pt2 (fr2.2.2 647 (by omega))
  have po3 : mpo h2 (cPq B s e 5) (cLm B s e 5) := by unfold cPq; rw [lm, pt_]; exact po2
  simp only [px_K_none, pc196_265, pc196_267, pc196_300, pc196_302, pc196_341, pc196_341n, pc196_342, pc196_345, pc196_346, pc196_347, pc196_350, pc196_351, px_op_some, px_kv_ap, px_ki_ap, px_kl_ap, px_kn_ap, px_kh_ap, px_op_none, px_K_some, px_K_none, px_K_thr, px_kill, ↓reduceIte, if_true, if_false, true_and, and_true, px_gf, c62, mf_48]
  refine m_wq hX2 hB hnl rw_.1 (by omega) cm (j := 4) (by decide) pk_move ?_
  simp only [px_K_some, pc196_354, if_neg (show ¬ (4 : Nat) = 5 by decide), if_true]
  have := m_com_t5 (sx := sx) (l1 := some (.int (nI s))) (l3 := some (.int (nI (fnd B 32 s (e - s))))) (l4 := some (.int (nI (pS B s e)))) (l5 := some (.int (nI (pF B s e)))) (l7 := some (.int 0)) (l8 := some (.int 0)) (l9 := some (.int 1)) (l10 := some (.int 1)) hS2 c62 hX2 hB hnl hs he (by rw [up_ne (by decide)]; exact v43) (by rw [up_ne (by decide)]; exact v20) w2 sh g (by rw [up_ne (by decide)]; exact v32) pt3 (by rw [up_same, lm]) po3 hQ2
  rw [pt_] at this
  exact this
set_option maxRecDepth 16384 in
theorem m_command (hS : shape h) (h6 : h.2[619]? = some (.inl (11, modF V))) (hX : h.2[654]? = some (.inr (1, 9000, .inl X))) (hB : txM X nl B) (hnl : nl ≤ 200) (hs : s ≤ e) (he : e ≤ nl) (hf : V 43 = 0) (hv : V 20 = nI t.1) (w : mtE h (fun i => i < t.1) t.2) (sh : tSH t.1 t.2) (cm : wdK B s (fnd B 32 s (e - s)) k) (hQ : cmQ B s e k t h V Q) :
    px_Wp sx 196 0 [some (.ref 619), some (.int (nI s)), some (.int (nI e)), none, none, none, none, none, none, none, none] [] h Q := by
  have hcls : px_cls h 619 = some 11 := by unfold px_cls; rw [h6]
  have hl6 : 619 < h.2.length := (List.getElem?_eq_some_iff.mp h6).1
  have rs := pS_rng (B := B) hs
  have rf := pF_rng (B := B) hs
  have rw_ := fnd_rng (B := B) (c := 32) (e - s) s
  have g52 : px_Wp sx 196 52 [some (.ref 619), some (.int (nI s)), some (.int (nI e)), some (.int (nI (fnd B 32 s (e - s)))), some (.int (nI (pS B s e))), some (.int (nI (pF B s e))), some (.int (nI (min (pF B s e + 1) e))), none, none, none, none] [] h Q := by
    simp only [pc196_52, pc196_52n, pc196_53, pc196_56, pc196_57, pc196_58, pc196_61, pc196_62, px_op_some, px_kv_ap, px_ki_ap, px_kl_ap, px_kn_ap, px_kh_ap, px_op_none, px_K_some, px_K_none, px_K_thr, px_kill, ↓reduceIte, if_true, if_false, true_and, and_true, px_gf, h6, mf_48]
    refine m_wq hX hB hnl rw_.1 (by omega) cm (j := 0) (by decide) pk_mkdir ?_
    have kk : k = 0 ∨ k = 1 ∨ k = 2 ∨ k = 3 ∨ k = 4 ∨ k = 5 ∨ k = 6 := by rcases cm with ⟨a, -⟩ | ⟨a, -⟩ <;> omega
    rcases kk with rfl | rfl | rfl | rfl | rfl | rfl | rfl
    · simp only [px_K_some, pc196_65, pc196_84, pc196_85, pc196_88, pc196_89, pc196_91, pc196_91n, pc196_92, pc196_95, pc196_96, pc196_97, pc196_100, pc196_101, if_pos (show (0 : Nat) = 0 from rfl), px_op_some, px_kv_ap, px_ki_ap, px_kl_ap, px_kn_ap, px_kh_ap, px_op_none, px_K_some, px_K_none, px_K_thr, px_kill, ↓reduceIte, if_true, if_false, true_and, and_true, px_gf, h6, mf_48, ne_1_0, not_false_eq_true, not_true_eq_false, px_kill]
      refine m_wq hX hB hnl rw_.1 (by omega) cm (j := 2) (by decide) pk_put ?_
      simp only [px_K_some, pc196_104, pc196_107, pc196_107n, pc196_108, pc196_111, pc196_112, pc196_113, pc196_116, pc196_117, if_neg (show ¬ (2 : Nat) = 0 by decide), px_op_some, px_kv_ap, px_ki_ap, px_kl_ap, px_kn_ap, px_kh_ap, px_op_none, px_K_some, px_K_none, px_K_thr, px_kill, ↓reduceIte, if_true, if_false, true_and, and_true, px_gf, h6, mf_48, ne_1_0, not_false_eq_true, not_true_eq_false, px_kill]
      refine m_wq hX hB hnl rw_.1 (by omega) cm (j := 3) (by decide) pk_add ?_
      simp only [px_K_some, pc196_120, pc196_127, pc196_128, pc196_130, pc196_130n, pc196_131, pc196_134, pc196_135, pc196_136, pc196_139, pc196_140, if_neg (show ¬ (3 : Nat) = 0 by decide), px_op_some, px_kv_ap, px_ki_ap, px_kl_ap, px_kn_ap, px_kh_ap, px_op_none, px_K_some, px_K_none, px_K_thr, px_kill, ↓reduceIte, if_true, if_false, true_and, and_true, px_gf, h6, mf_48, ne_1_0, not_false_eq_true, not_true_eq_false, px_kill]
      refine m_wq hX hB hnl rw_.1 (by omega) cm (j := 4) (by decide) pk_move ?_
      simp only [px_K_some, pc196_143, pc196_146, pc196_146n, pc196_147, pc196_150, pc196_151, pc196_152, pc196_155, pc196_156, if_neg (show ¬ (4 : Nat) = 0 by decide), px_op_some, px_kv_ap, px_ki_ap, px_kl_ap, px_kn_ap, px_kh_ap, px_op_none, px_K_some, px_K_none, px_K_thr, px_kill, ↓reduceIte, if_true, if_false, true_and, and_true, px_gf, h6, mf_48, ne_1_0, not_false_eq_true, not_true_eq_false, px_kill]
      refine m_wq hX hB hnl rw_.1 (by omega) cm (j := 5) (by decide) pk_join ?_
      simp only [px_K_some, pc196_159, pc196_166, pc196_167, pc196_169, pc196_171, pc196_174, pc196_176, pc196_179, pc196_181, if_neg (show ¬ (5 : Nat) = 0 by decide), px_op_some, px_kv_ap, px_ki_ap, px_kl_ap, px_kn_ap, px_kh_ap, px_op_none, px_K_some, px_K_none, px_K_thr, px_kill, ↓reduceIte, if_true, if_false, true_and, and_true, px_gf, h6, mf_48, ne_1_0, not_false_eq_true, not_true_eq_false, px_kill]
      exact m_com_g0 hS h6 hX hB hnl hs he hf hv w sh cm hQ
    · simp only [px_K_some, pc196_65, pc196_68, pc196_68n, pc196_69, pc196_72, pc196_73, pc196_74, pc196_77, pc196_78, if_neg (show ¬ (0 : Nat) = 1 by decide), px_op_some, px_kv_ap, px_ki_ap, px_kl_ap, px_kn_ap, px_kh_ap, px_op_none, px_K_some, px_K_none, px_K_thr, px_kill, ↓reduceIte, if_true, if_false, true_and, and_true, px_gf, h6, mf_48, ne_1_0, not_false_eq_true, not_true_eq_false, px_kill]
      refine m_wq hX hB hnl rw_.1 (by omega) cm (j := 1) (by decide) pk_rm ?_
      simp only [px_K_some, pc196_81, pc196_84, pc196_85, pc196_88, pc196_89, pc196_91, pc196_91n, pc196_92, pc196_95, pc196_96, pc196_97, pc196_100, pc196_101, if_pos (show (1 : Nat) = 1 from rfl), px_op_some, px_kv_ap, px_ki_ap, px_kl_ap, px_kn_ap, px_kh_ap, px_op_none, px_K_some, px_K_none, px_K_thr, px_kill, ↓reduceIte, if_true, if_false, true_and, and_true, px_gf, h6, mf_48, ne_1_0, not_false_eq_true, not_true_eq_false, px_kill]
      refine m_wq hX hB hnl rw_.1 (by omega) cm (j := 2) (by decide) pk_put ?_
      simp only [px_K_some, pc196_104, pc196_107, pc196_107n, pc196_108, pc196_111, pc196_112, pc196_113, pc196_116, pc196_117, if_neg (show ¬ (2 : Nat) = 1 by decide), px_op_some, px_kv_ap, px_ki_ap, px_kl_ap, px_kn_ap, px_kh_ap, px_op_none, px_K_some, px_K_none, px_K_thr, px_kill, ↓reduceIte, if_true, if_false, true_and, and_true, px_gf, h6, mf_48, ne_1_0, not_false_eq_true, not_true_eq_false, px_kill]
      refine m_wq hX hB hnl rw_.1 (by omega) cm (j := 3) (by decide) pk_add ?_
      simp only [px_K_some, pc196_120, pc196_127, pc196_128, pc196_130, pc196_130n, pc196_131, pc196_134, pc196_135, pc196_136, pc196_139, pc196_140, if_neg (show ¬ (3 : Nat) = 1 by decide), px_op_some, px_kv_ap, px_ki_ap, px_kl_ap, px_kn_ap, px_kh_ap, px_op_none, px_K_some, px_K_none, px_K_thr, px_kill, ↓reduceIte, if_true, if_false, true_and, and_true, px_gf, h6, mf_48, ne_1_0, not_false_eq_true, not_true_eq_false, px_kill]
      refine m_wq hX hB hnl rw_.1 (by omega) cm (j := 4) (by decide) pk_move ?_
      simp only [px_K_some, pc196_143, pc196_146, pc196_146n, pc196_147, pc196_150, pc196_151, pc196_152, pc196_155, pc196_156, if_neg (show ¬ (4 : Nat) = 1 by decide), px_op_some, px_kv_ap, px_ki_ap, px_kl_ap, px_kn_ap, px_kh_ap, px_op_none, px_K_some, px_K_none, px_K_thr, px_kill, ↓reduceIte, if_true, if_false, true_and, and_true, px_gf, h6, mf_48, ne_1_0, not_false_eq_true, not_true_eq_false, px_kill]
      refine m_wq hX hB hnl rw_.1 (by omega) cm (j := 5) (by decide) pk_join ?_
      simp only [px_K_some, pc196_159, pc196_166, pc196_167, pc196_169, pc196_171, pc196_174, pc196_176, pc196_179, pc196_181, if_neg (show ¬ (5 : Nat) = 1 by decide), px_op_some, px_kv_ap, px_ki_ap, px_kl_ap, px_kn_ap, px_kh_ap, px_op_none, px_K_some, px_K_none, px_K_thr, px_kill, ↓reduceIte, if_true, if_false, true_and, and_true, px_gf, h6, mf_48, ne_1_0, not_false_eq_true, not_true_eq_false, px_kill]
      exact m_com_g1 hS h6 hX hB hnl hs he hf hv w sh cm hQ
    · simp only [px_K_some, pc196_65, pc196_68, pc196_68n, pc196_69, pc196_72, pc196_73, pc196_74, pc196_77, pc196_78, if_neg (show ¬ (0 : Nat) = 2 by decide), px_op_some, px_kv_ap, px_ki_ap, px_kl_ap, px_kn_ap, px_kh_ap, px_op_none, px_K_some, px_K_none, px_K_thr, px_kill, ↓reduceIte, if_true, if_false, true_and, and_true, px_gf, h6, mf_48, ne_1_0, not_false_eq_true, not_true_eq_false, px_kill]
      refine m_wq hX hB hnl rw_.1 (by omega) cm (j := 1) (by decide) pk_rm ?_
      simp only [px_K_some, pc196_81, pc196_88, pc196_89, pc196_91, pc196_91n, pc196_92, pc196_95, pc196_96, pc196_97, pc196_100, pc196_101, if_neg (show ¬ (1 : Nat) = 2 by decide), px_op_some, px_kv_ap, px_ki_ap, px_kl_ap, px_kn_ap, px_kh_ap, px_op_none, px_K_some, px_K_none, px_K_thr, px_kill, ↓reduceIte, if_true, if_false, true_and, and_true, px_gf, h6, mf_48, ne_1_0, not_false_eq_true, not_true_eq_false, px_kill]
      refine m_wq hX hB hnl rw_.1 (by omega) cm (j := 2) (by decide) pk_put ?_
      simp only [px_K_some, pc196_104, pc196_123, pc196_124, pc196_127, pc196_128, pc196_130, pc196_130n, pc196_131, pc196_134, pc196_135, pc196_136, pc196_139, pc196_140, if_pos (show (2 : Nat) = 2 from rfl), px_op_some, px_kv_ap, px_ki_ap, px_kl_ap, px_kn_ap, px_kh_ap, px_op_none, px_K_some, px_K_none, px_K_thr, px_kill, ↓reduceIte, if_true, if_false, true_and, and_true, px_gf, h6, mf_48, ne_1_0, not_false_eq_true, not_true_eq_false, px_kill]
      refine m_wq hX hB hnl rw_.1 (by omega) cm (j := 4) (by decide) pk_move ?_
      simp only [px_K_some, pc196_143, pc196_146, pc196_146n, pc196_147, pc196_150, pc196_151, pc196_152, pc196_155, pc196_156, if_neg (show ¬ (4 : Nat) = 2 by decide), px_op_some, px_kv_ap, px_ki_ap, px_kl_ap, px_kn_ap, px_kh_ap, px_op_none, px_K_some, px_K_none, px_K_thr, px_kill, ↓reduceIte, if_true, if_false, true_and, and_true, px_gf, h6, mf_48, ne_1_0, not_false_eq_true, not_true_eq_false, px_kill]
      refine m_wq hX hB hnl rw_.1 (by omega) cm (j := 5) (by decide) pk_join ?_
      simp only [px_K_some, pc196_159, pc196_166, pc196_167, pc196_169, pc196_171, pc196_174, pc196_176, pc196_179, pc196_181, if_neg (show ¬ (5 : Nat) = 2 by decide), px_op_some, px_kv_ap, px_ki_ap, px_kl_ap, px_kn_ap, px_kh_ap, px_op_none, px_K_some, px_K_none, px_K_thr, px_kill, ↓reduceIte, if_true, if_false, true_and, and_true, px_gf, h6, mf_48, ne_1_0, not_false_eq_true, not_true_eq_false, px_kill]
      exact m_com_g2 hS h6 hX hB hnl hs he hf hv w sh cm hQ
    · simp only [px_K_some, pc196_65, pc196_68, pc196_68n, pc196_69, pc196_72, pc196_73, pc196_74, pc196_77, pc196_78, if_neg (show ¬ (0 : Nat) = 3 by decide), px_op_some, px_kv_ap, px_ki_ap, px_kl_ap, px_kn_ap, px_kh_ap, px_op_none, px_K_some, px_K_none, px_K_thr, px_kill, ↓reduceIte, if_true, if_false, true_and, and_true, px_gf, h6, mf_48, ne_1_0, not_false_eq_true, not_true_eq_false, px_kill]
      refine m_wq hX hB hnl rw_.1 (by omega) cm (j := 1) (by decide) pk_rm ?_
      simp only [px_K_some, pc196_81, pc196_88, pc196_89, pc196_91, pc196_91n, pc196_92, pc196_95, pc196_96, pc196_97, pc196_100, pc196_101, if_neg (show ¬ (1 : Nat) = 3 by decide), px_op_some, px_kv_ap, px_ki_ap, px_kl_ap, px_kn_ap, px_kh_ap, px_op_none, px_K_some, px_K_none, px_K_thr, px_kill, ↓reduceIte, if_true, if_false, true_and, and_true, px_gf, h6, mf_48, ne_1_0, not_false_eq_true, not_true_eq_false, px_kill]
      refine m_wq hX hB hnl rw_.1 (by omega) cm (j := 2) (by decide) pk_put ?_
      simp only [px_K_some, pc196_104, pc196_107, pc196_107n, pc196_108, pc196_111, pc196_112, pc196_113, pc196_116, pc196_117, if_neg (show ¬ (2 : Nat) = 3 by decide), px_op_some, px_kv_ap, px_ki_ap, px_kl_ap, px_kn_ap, px_kh_ap, px_op_none, px_K_some, px_K_none, px_K_thr, px_kill, ↓reduceIte, if_true, if_false, true_and, and_true, px_gf, h6, mf_48, ne_1_0, not_false_eq_true, not_true_eq_false, px_kill]
      refine m_wq hX hB hnl rw_.1 (by omega) cm (j := 3) (by decide) pk_add ?_
      simp only [px_K_some, pc196_120, pc196_123, pc196_124, pc196_127, pc196_128, pc196_130, pc196_130n, pc196_131, pc196_134, pc196_135, pc196_136, pc196_139, pc196_140, if_pos (show (3 : Nat) = 3 from rfl), px_op_some, px_kv_ap, px_ki_ap, px_kl_ap, px_kn_ap, px_kh_ap, px_op_none, px_K_some, px_K_none, px_K_thr, px_kill, ↓reduceIte, if_true, if_false, true_and, and_true, px_gf, h6, mf_48, ne_1_0, not_false_eq_true, not_true_eq_false, px_kill]
      refine m_wq hX hB hnl rw_.1 (by omega) cm (j := 4) (by decide) pk_move ?_
      simp only [px_K_some, pc196_143, pc196_146, pc196_146n, pc196_147, pc196_150, pc196_151, pc196_152, pc196_155, pc196_156, if_neg (show ¬ (4 : Nat) = 3 by decide), px_op_some, px_kv_ap, px_ki_ap, px_kl_ap, px_kn_ap, px_kh_ap, px_op_none, px_K_some, px_K_none, px_K_thr, px_kill, ↓reduceIte, if_true, if_false, true_and, and_true, px_gf, h6, mf_48, ne_1_0, not_false_eq_true, not_true_eq_false, px_kill]
      refine m_wq hX hB hnl rw_.1 (by omega) cm (j := 5) (by decide) pk_join ?_
      simp only [px_K_some, pc196_159, pc196_166, pc196_167, pc196_169, pc196_171, pc196_174, pc196_176, pc196_179, pc196_181, if_neg (show ¬ (5 : Nat) = 3 by decide), px_op_some, px_kv_ap, px_ki_ap, px_kl_ap, px_kn_ap, px_kh_ap, px_op_none, px_K_some, px_K_none, px_K_thr, px_kill, ↓reduceIte, if_true, if_false, true_and, and_true, px_gf, h6, mf_48, ne_1_0, not_false_eq_true, not_true_eq_false, px_kill]
      exact m_com_g3 hS h6 hX hB hnl hs he hf hv w sh cm hQ
    · simp only [px_K_some, pc196_65, pc196_68, pc196_68n, pc196_69, pc196_72, pc196_73, pc196_74, pc196_77, pc196_78, if_neg (show ¬ (0 : Nat) = 4 by decide), px_op_some, px_kv_ap, px_ki_ap, px_kl_ap, px_kn_ap, px_kh_ap, px_op_none, px_K_some, px_K_none, px_K_thr, px_kill, ↓reduceIte, if_true, if_false, true_and, and_true, px_gf, h6, mf_48, ne_1_0, not_false_eq_true, not_true_eq_false, px_kill]
      refine m_wq hX hB hnl rw_.1 (by omega) cm (j := 1) (by decide) pk_rm ?_
      simp only [px_K_some, pc196_81, pc196_88, pc196_89, pc196_91, pc196_91n, pc196_92, pc196_95, pc196_96, pc196_97, pc196_100, pc196_101, if_neg (show ¬ (1 : Nat) = 4 by decide), px_op_some, px_kv_ap, px_ki_ap, px_kl_ap, px_kn_ap, px_kh_ap, px_op_none, px_K_some, px_K_none, px_K_thr, px_kill, ↓reduceIte, if_true, if_false, true_and, and_true, px_gf, h6, mf_48, ne_1_0, not_false_eq_true, not_true_eq_false, px_kill]
      refine m_wq hX hB hnl rw_.1 (by omega) cm (j := 2) (by decide) pk_put ?_
      simp only [px_K_some, pc196_104, pc196_107, pc196_107n, pc196_108, pc196_111, pc196_112, pc196_113, pc196_116, pc196_117, if_neg (show ¬ (2 : Nat) = 4 by decide), px_op_some, px_kv_ap, px_ki_ap, px_kl_ap, px_kn_ap, px_kh_ap, px_op_none, px_K_some, px_K_none, px_K_thr, px_kill, ↓reduceIte, if_true, if_false, true_and, and_true, px_gf, h6, mf_48, ne_1_0, not_false_eq_true, not_true_eq_false, px_kill]
      refine m_wq hX hB hnl rw_.1 (by omega) cm (j := 3) (by decide) pk_add ?_
      simp only [px_K_some, pc196_120, pc196_127, pc196_128, pc196_130, pc196_130n, pc196_131, pc196_134, pc196_135, pc196_136, pc196_139, pc196_140, if_neg (show ¬ (3 : Nat) = 4 by decide), px_op_some, px_kv_ap, px_ki_ap, px_kl_ap, px_kn_ap, px_kh_ap, px_op_none, px_K_some, px_K_none, px_K_thr, px_kill, ↓reduceIte, if_true, if_false, true_and, and_true, px_gf, h6, mf_48, ne_1_0, not_false_eq_true, not_true_eq_false, px_kill]
      refine m_wq hX hB hnl rw_.1 (by omega) cm (j := 4) (by decide) pk_move ?_
      simp only [px_K_some, pc196_143, pc196_162, pc196_163, pc196_167, pc196_169, pc196_171, pc196_174, pc196_176, pc196_179, pc196_181, if_pos (show (4 : Nat) = 4 from rfl), px_op_some, px_kv_ap, px_ki_ap, px_kl_ap, px_kn_ap, px_kh_ap, px_op_none, px_K_some, px_K_none, px_K_thr, px_kill, ↓reduceIte, if_true, if_false, true_and, and_true, px_gf, h6, mf_48, ne_1_0, not_false_eq_true, not_true_eq_false, px_kill]
      exact m_com_g4 hS h6 hX hB hnl hs he hf hv w sh cm hQ
    · simp only [px_K_some, pc196_65, pc196_68, pc196_68n, pc196_69, pc196_72, pc196_73, pc196_74, pc196_77, pc196_78, if_neg (show ¬ (0 : Nat) = 5 by decide), px_op_some, px_kv_ap, px_ki_ap, px_kl_ap, px_kn_ap, px_kh_ap, px_op_none, px_K_some, px_K_none, px_K_thr, px_kill, ↓reduceIte, if_true, if_false, true_and, and_true, px_gf, h6, mf_48, ne_1_0, not_false_eq_true, not_true_eq_false, px_kill]
      refine m_wq hX hB hnl rw_.1 (by omega) cm (j := 1) (by decide) pk_rm ?_
      simp only [px_K_some, pc196_81, pc196_88, pc196_89, pc196_91, pc196_91n, pc196_92, pc196_95, pc196_96, pc196_97, pc196_100, pc196_101, if_neg (show ¬ (1 : Nat) = 5 by decide), px_op_some, px_kv_ap, px_ki_ap, px_kl_ap, px_kn_ap, px_kh_ap, px_op_none, px_K_some, px_K_none, px_K_thr, px_kill, ↓reduceIte, if_true, if_false, true_and, and_true, px_gf, h6, mf_48, ne_1_0, not_false_eq_true, not_true_eq_false, px_kill]
      refine m_wq hX hB hnl rw_.1 (by omega) cm (j := 2) (by decide) pk_put ?_
      simp only [px_K_some, pc196_104, pc196_107, pc196_107n, pc196_108, pc196_111, pc196_112, pc196_113, pc196_116, pc196_117, if_neg (show ¬ (2 : Nat) = 5 by decide), px_op_some, px_kv_ap, px_ki_ap, px_kl_ap, px_kn_ap, px_kh_ap, px_op_none, px_K_some, px_K_none, px_K_thr, px_kill, ↓reduceIte, if_true, if_false, true_and, and_true, px_gf, h6, mf_48, ne_1_0, not_false_eq_true, not_true_eq_false, px_kill]
      refine m_wq hX hB hnl rw_.1 (by omega) cm (j := 3) (by decide) pk_add ?_
      simp only [px_K_some, pc196_120, pc196_127, pc196_128, pc196_130, pc196_130n, pc196_131, pc196_134, pc196_135, pc196_136, pc196_139, pc196_140, if_neg (show ¬ (3 : Nat) = 5 by decide), px_op_some, px_kv_ap, px_ki_ap, px_kl_ap, px_kn_ap, px_kh_ap, px_op_none, px_K_some, px_K_none, px_K_thr, px_kill, ↓reduceIte, if_true, if_false, true_and, and_true, px_gf, h6, mf_48, ne_1_0, not_false_eq_true, not_true_eq_false, px_kill]
      refine m_wq hX hB hnl rw_.1 (by omega) cm (j := 4) (by decide) pk_move ?_
      simp only [px_K_some, pc196_143, pc196_146, pc196_146n, pc196_147, pc196_150, pc196_151, pc196_152, pc196_155, pc196_156, if_neg (show ¬ (4 : Nat) = 5 by decide), px_op_some, px_kv_ap, px_ki_ap, px_kl_ap, px_kn_ap, px_kh_ap, px_op_none, px_K_some, px_K_none, px_K_thr, px_kill, ↓reduceIte, if_true, if_false, true_and, and_true, px_gf, h6, mf_48, ne_1_0, not_false_eq_true, not_true_eq_false, px_kill]
      refine m_wq hX hB hnl rw_.1 (by omega) cm (j := 5) (by decide) pk_join ?_
      simp only [px_K_some, pc196_159, pc196_162, pc196_163, pc196_167, pc196_169, pc196_171, pc196_174, pc196_176, pc196_179, pc196_181, if_pos (show (5 : Nat) = 5 from rfl), px_op_some, px_kv_ap, px_ki_ap, px_kl_ap, px_kn_ap, px_kh_ap, px_op_none, px_K_some, px_K_none, px_K_thr, px_kill, ↓reduceIte, if_true, if_false, true_and, and_true, px_gf, h6, mf_48, ne_1_0, not_false_eq_true, not_true_eq_false, px_kill]
      exact m_com_g5 hS h6 hX hB hnl hs he hf hv w sh cm hQ
    · simp only [px_K_some, pc196_65, pc196_68, pc196_68n, pc196_69, pc196_72, pc196_73, pc196_74, pc196_77, pc196_78, if_neg (show ¬ (0 : Nat) = 6 by decide), px_op_some, px_kv_ap, px_ki_ap, px_kl_ap, px_kn_ap, px_kh_ap, px_op_none, px_K_some, px_K_none, px_K_thr, px_kill, ↓reduceIte, if_true, if_false, true_and, and_true, px_gf, h6, mf_48, ne_1_0, not_false_eq_true, not_true_eq_false, px_kill]
      refine m_wq hX hB hnl rw_.1 (by omega) cm (j := 1) (by decide) pk_rm ?_
      simp only [px_K_some, pc196_81, pc196_88, pc196_89, pc196_91, pc196_91n, pc196_92, pc196_95, pc196_96, pc196_97, pc196_100, pc196_101, if_neg (show ¬ (1 : Nat) = 6 by decide), px_op_some, px_kv_ap, px_ki_ap, px_kl_ap, px_kn_ap, px_kh_ap, px_op_none, px_K_some, px_K_none, px_K_thr, px_kill, ↓reduceIte, if_true, if_false, true_and, and_true, px_gf, h6, mf_48, ne_1_0, not_false_eq_true, not_true_eq_false, px_kill]
      refine m_wq hX hB hnl rw_.1 (by omega) cm (j := 2) (by decide) pk_put ?_
      simp only [px_K_some, pc196_104, pc196_107, pc196_107n, pc196_108, pc196_111, pc196_112, pc196_113, pc196_116, pc196_117, if_neg (show ¬ (2 : Nat) = 6 by decide), px_op_some, px_kv_ap, px_ki_ap, px_kl_ap, px_kn_ap, px_kh_ap, px_op_none, px_K_some, px_K_none, px_K_thr, px_kill, ↓reduceIte, if_true, if_false, true_and, and_true, px_gf, h6, mf_48, ne_1_0, not_false_eq_true, not_true_eq_false, px_kill]
      refine m_wq hX hB hnl rw_.1 (by omega) cm (j := 3) (by decide) pk_add ?_
      simp only [px_K_some, pc196_120, pc196_127, pc196_128, pc196_130, pc196_130n, pc196_131, pc196_134, pc196_135, pc196_136, pc196_139, pc196_140, if_neg (show ¬ (3 : Nat) = 6 by decide), px_op_some, px_kv_ap, px_ki_ap, px_kl_ap, px_kn_ap, px_kh_ap, px_op_none, px_K_some, px_K_none, px_K_thr, px_kill, ↓reduceIte, if_true, if_false, true_and, and_true, px_gf, h6, mf_48, ne_1_0, not_false_eq_true, not_true_eq_false, px_kill]
      refine m_wq hX hB hnl rw_.1 (by omega) cm (j := 4) (by decide) pk_move ?_
      simp only [px_K_some, pc196_143, pc196_146, pc196_146n, pc196_147, pc196_150, pc196_151, pc196_152, pc196_155, pc196_156, if_neg (show ¬ (4 : Nat) = 6 by decide), px_op_some, px_kv_ap, px_ki_ap, px_kl_ap, px_kn_ap, px_kh_ap, px_op_none, px_K_some, px_K_none, px_K_thr, px_kill, ↓reduceIte, if_true, if_false, true_and, and_true, px_gf, h6, mf_48, ne_1_0, not_false_eq_true, not_true_eq_false, px_kill]
      refine m_wq hX hB hnl rw_.1 (by omega) cm (j := 5) (by decide) pk_join ?_
      simp only [px_K_some, pc196_159, pc196_166, pc196_167, pc196_169, pc196_171, pc196_174, pc196_176, pc196_179, pc196_181, if_neg (show ¬ (5 : Nat) = 6 by decide), px_op_some, px_kv_ap, px_ki_ap, px_kl_ap, px_kn_ap, px_kh_ap, px_op_none, px_K_some, px_K_none, px_K_thr, px_kill, ↓reduceIte, if_true, if_false, true_and, and_true, px_gf, h6, mf_48, ne_1_0, not_false_eq_true, not_true_eq_false, px_kill]
      simp only [pc196_231, pc196_232, pc196_234, pc196_236, pc196_239, pc196_239n, pc196_240, pc196_241, not_true_eq_false, if_false, hcls, true_and, px_kill]
      refine m_fail h6 hf ?_
      simp only [px_K_none, pc196_244]
      exact cmQ_bad (x := 1) hQ (cdX_1 (fun z => by omega)) (by decide) (by rw [wr_at, if_pos rfl, if_pos hl6]; rfl) (fun j _ _ _ _ => rfl) (frm_wr (frm_refl _ _) (.inl rfl)) (shape_mod hS)
  have g24 : px_Wp sx 196 24 [some (.ref 619), some (.int (nI s)), some (.int (nI e)), some (.int (nI (fnd B 32 s (e - s)))), some (.int (nI (pS B s e))), none, none, none, none, none, none] [] h Q := by
    simp only [pc196_24, pc196_24n, pc196_25, pc196_28, pc196_30, pc196_31, px_op_some, px_kv_ap, px_ki_ap, px_kl_ap, px_kn_ap, px_kh_ap, px_op_none, px_K_some, px_K_none, px_K_thr, px_kill, ↓reduceIte, if_true, if_false, true_and, and_true, px_gf, h6, mf_48]
    refine m_wordEnd hX (by decide) hB (by omega) rs.2 he ?_
    rw [px_K_some]
    show px_Wp sx 196 34 _ [.int (nI (pF B s e))] h Q
    by_cases x : pF B s e < e
    · have lt : ¬ nI e ≤ nI (pF B s e) := nI_ge x (by omega)
      simp only [pc196_34, pc196_36, pc196_38, pc196_39, pc196_42, pc196_44, pc196_45, pc196_46, pc196_49, pc196_50, lt, if_false, nI_p1, px_kill]
      rw [Nat.min_eq_left (show pF B s e + 1 ≤ e by omega)] at g52
      exact g52
    · have le : nI e ≤ nI (pF B s e) := nI_le (by omega) (by omega)
      simp only [pc196_34, pc196_36, pc196_38, pc196_39, pc196_49, pc196_50, le, if_true, px_kill]
      rw [Nat.min_eq_right (show e ≤ pF B s e + 1 by omega)] at g52
      exact g52
  simp only [pc196_0, pc196_0n, pc196_1, pc196_4, pc196_5, pc196_6, px_op_some, px_kv_ap, px_ki_ap, px_kl_ap, px_kn_ap, px_kh_ap, px_op_none, px_K_some, px_K_none, px_K_thr, px_kill, ↓reduceIte, if_true, if_false, true_and, and_true, px_gf, h6, mf_48]
  refine m_wordEnd hX (by decide) hB (by omega) hs he ?_
  rw [px_K_some]
  by_cases x : fnd B 32 s (e - s) < e
  · have lt : ¬ nI e ≤ nI (fnd B 32 s (e - s)) := nI_ge x (by omega)
    have ps : pS B s e = fnd B 32 s (e - s) + 1 := Nat.min_eq_left (by omega)
    simp only [pc196_9, pc196_10, pc196_11, pc196_12, pc196_15, pc196_16, pc196_17, pc196_18, pc196_21, pc196_22, lt, if_false, nI_p1, px_kill]
    rw [ps] at g24
    exact g24
  · have le : nI e ≤ nI (fnd B 32 s (e - s)) := nI_le (by omega) (by omega)
    have ps : pS B s e = e := Nat.min_eq_right (by omega)
    simp only [pc196_9, pc196_10, pc196_11, pc196_12, pc196_21, pc196_22, le, if_true, px_kill]
    rw [ps] at g24
    exact g24
end MCOM2
