/-! A LINE THAT COPIES -/
noncomputable def copF (B : Nat → Nat) (nl : Nat) (t : aT) : Nat × aT := (cdX B 0 nl 2 t, dnF B 0 nl 2 t)
section COPYL
variable {sx : Nat × (Nat → Int32)} {h : px_H} {nl : Nat} {ff V X : Nat → Int32} {B : Nat → Nat} {t : aT} {Q : px_O → px_H → Prop}
set_option maxRecDepth 16384 in
theorem c_copyLine (hS : shape h) (w : rowAt h 83 200 nl ff) (hB : txA ff nl B) (tr : trR h 249 t.1 t.2) (sh : tSH t.1 t.2)
    (hQ : ∀ h', tre h' 249 → ((copF B nl t).1 = 0 → trR h' 249 (copF B nl t).2.1 (copF B nl t).2.2) → frm cdA h h' → shape h' → Q (.inl (some (.int (nI (copF B nl t).1)))) h') :
    px_Wp sx 129 0 [some (.ref 414), some (.ref 83), some (.ref 249)] [] h Q := by
  have w1 := w.1
  have hc4 : px_cls h 414 = some 9 := by unfold px_cls; rw [at_414 hS]
  simp only [pc129_0, pc129_0n, pc129_1, pc129_2, pc129_2n, pc129_3, pc129_4, pc129_4n, pc129_5, pc129_8, pc129_8n, pc129_9, px_op_some, px_kv_ap, px_ki_ap, px_kl_ap, px_kn_ap, px_kh_ap, px_op_none, px_K_some, px_K_none, px_K_thr, px_kill, ↓reduceIte, if_true, if_false, true_and, and_true, px_gf, w1, List.getElem?_cons_zero, List.getElem?_cons_succ, hc4]
  refine c_command (k := 2) (s := 0) (M := 0) (fm := fun _ => 0) hS w hB (Nat.zero_le _) (Nat.le_refl _) (.inl ⟨by decide, rfl⟩) (fun z => by omega) tr sh (fun z => absurd rfl z) (fun z => absurd rfl z) (fun z => absurd rfl z) (fun h' te q fr hS' => ?_)
  simp only [px_K_some, pc129_12]
  exact hQ h' te (fun z => (q z).1) fr hS'
set_option maxRecDepth 16384 in
theorem m_wordEnd_no {A s e : Nat} (hs : e ≤ s) (h2 : s < 2 ^ 31) (hQ : Q (.inl (some (.int (nI s)))) h) : px_Wp sx 151 0 [some (.ref A), some (.int (nI s)), some (.int (nI e)), none] [] h Q := by
  have le : nI e ≤ nI s := nI_le hs h2
  simp only [pc151_0, pc151_1, pc151_2, pc151_3, pc151_4, pc151_21, pc151_22, le, if_true, px_kill]
  exact hQ
set_option maxRecDepth 16384 in
theorem m_copy (hS : shape h) (h6 : h.2[619]? = some (.inl (11, modF V))) (hX : h.2[654]? = some (.inr (1, 9000, .inl X))) (hB : txM X nl B) (hnl : nl ≤ 200) (h47 : V 47 = nI nl) (hf : V 43 = 0) (hv : V 20 = nI t.1) (w : mtE h (fun i => i < t.1) t.2) (sh : tSH t.1 t.2) (n4 : 4 ≤ nl) (f4 : fnd B 32 0 (nl - 0) = 4)
    (hQ : lnQ (copF B nl t) h V Q) : px_Wp sx 192 0 [some (.ref 619), none] [] h Q := by
  have hcls : px_cls h 619 = some 11 := by unfold px_cls; rw [h6]
  have hl6 : 619 < h.2.length := (List.getElem?_eq_some_iff.mp h6).1
  have hQ' : cmQ B 0 nl 2 t h V Q := hQ
  have ps : pS B 0 nl = min 5 nl := by unfold pS; rw [f4]
  have bad : ¬ ptG B 0 nl 2 → ∀ l1, px_Wp sx 192 34 [some (.ref 619), l1] [] h Q := fun ng l1 => by
    simp only [pc192_34, pc192_34n, pc192_35, pc192_36, hcls, true_and]
    refine m_fail h6 hf ?_
    simp only [px_K_none, pc192_39]
    exact cmQ_bad (x := 1) hQ' (cdX_1 (fun z => ng z.2)) (by decide) (by rw [wr_at, if_pos rfl, if_pos hl6]; rfl) (fun j _ _ _ _ => rfl) (frm_wr (frm_refl _ _) (.inl rfl)) (shape_mod hS)
  have pe : pE B 0 nl 2 = pF B 0 nl := pE_2 (by decide)
  by_cases n6 : nl < 6
  · have lt : nI nl < 6 := nI_lt (b := 6) n6 (by decide)
    have pn : pS B 0 nl = nl := by rw [ps]; omega
    have ng : ¬ ptG B 0 nl 2 := fun z => by
      have := z.1
      rw [pe, show pF B 0 nl - pS B 0 nl = 0 by have := pF_rng (B := B) (Nat.zero_le nl); omega] at this
      have z2 : 0 < (0 : Nat) := this.2.1
      omega
    have go : ∀ x : Int32, px_Wp sx 192 12 [some (.ref 619), none] [.int x] h Q := fun x => by
      simp only [pc192_12, pc192_13, pc192_13n, pc192_14, pc192_17, pc192_19, px_op_some, px_kv_ap, px_ki_ap, px_kl_ap, px_kn_ap, px_kh_ap, px_op_none, px_K_some, px_K_none, px_K_thr, px_kill, ↓reduceIte, if_true, if_false, true_and, and_true, px_gf, h6, mf_47, h47, lt, px_kill]
      exact bad ng _
    simp only [pc192_0, pc192_0n, pc192_1, pc192_4, pc192_5, pc192_5n, pc192_6, pc192_9, px_op_some, px_kv_ap, px_ki_ap, px_kl_ap, px_kn_ap, px_kh_ap, px_op_none, px_K_some, px_K_none, px_K_thr, px_kill, ↓reduceIte, if_true, if_false, true_and, and_true, px_gf, h6, mf_47, mf_48, h47]
    by_cases n5 : 5 ≤ nl
    · refine m_wordEnd (s := 5) hX (by decide) hB (by omega) n5 (Nat.le_refl _) ?_
      rw [px_K_some]; exact go _
    · refine m_wordEnd_no (s := 5) (by omega) (by decide) ?_
      rw [px_K_some]; exact go _
  · have nlt : ¬ nI nl < 6 := nI_nlt (a := nl) (b := 6) (by omega) (by omega)
    have p5 : pS B 0 nl = 5 := by rw [ps]; omega
    have rf := pF_rng (B := B) (Nat.zero_le nl)
    rw [p5] at rf
    have eF : fnd B 32 5 (nl - 5) = pF B 0 nl := by unfold pF; rw [p5]
    have hB' : ∀ j, j < nl → X j = nI (B j) ∧ B j < 1000 := fun j hj => by have := hB j hj; exact ⟨this.1, by omega⟩
    simp only [pc192_0, pc192_0n, pc192_1, pc192_4, pc192_5, pc192_5n, pc192_6, pc192_9, px_op_some, px_kv_ap, px_ki_ap, px_kl_ap, px_kn_ap, px_kh_ap, px_op_none, px_K_some, px_K_none, px_K_thr, px_kill, ↓reduceIte, if_true, if_false, true_and, and_true, px_gf, h6, mf_47, mf_48, h47]
    refine m_wordEnd (s := 5) hX (by decide) hB (by omega) (by omega) (Nat.le_refl _) ?_
    rw [px_K_some, eF]
    simp only [pc192_12, pc192_13, pc192_13n, pc192_14, pc192_17, pc192_19, pc192_22, pc192_22n, pc192_23, pc192_26, pc192_27, pc192_28, px_op_some, px_kv_ap, px_ki_ap, px_kl_ap, px_kn_ap, px_kh_ap, px_op_none, px_K_some, px_K_none, px_K_thr, px_kill, ↓reduceIte, if_true, if_false, true_and, and_true, px_gf, h6, mf_47, mf_48, h47, nlt, px_kill]
    refine m_isPathE (f0 := 5) hX (by decide) rf.1 (by omega) (fun j hj => hB' j (by omega)) (fun x hx => ?_)
    rcases hx with ⟨rfl, hx⟩ | ⟨rfl, hx⟩
    · have g : ptG B 0 nl 2 := ⟨by rw [pe, p5]; exact hx, fun z => by omega⟩
      have lc : cLn B 0 nl 2 = pF B 0 nl - 5 := by unfold cLn; rw [pe, p5]
      simp only [px_K_some, pc192_31, pc192_40, pc192_40n, pc192_41, pc192_42, pc192_43, ne_1_0, not_false_eq_true, if_true, hcls, true_and]
      refine m_takePathE (f0 := 5) hS h6 hX rf.1 (by omega) (by omega) (fun j hj => (hB' j (by omega)).1) (fun h1 c6 pt1 fr1 hS1 => ?_)
      have hc1 : px_cls h1 619 = some 11 := by unfold px_cls; rw [c6]
      have hX1 : h1.2[654]? = some (.inr (1, 9000, .inl X)) := frm_at fr1 (by omega) hX
      have w1 : mtE h1 (fun i => i < t.1) t.2 := mtE_frm w (fun r hr => by unfold mEA at hr; exact fr1.2.2 r (by omega))
      have hQ1 : cmQ B 0 nl 2 t h1 (px_up V 32 (nI (pF B 0 nl - 5))) Q := cmQ_mono hQ' (fun j _ j2 _ _ => by rw [up_ne j2]) (frm_mono fr1 (fun r hr => by unfold mvA; omega))
      have v20 : px_up V 32 (nI (pF B 0 nl - 5)) 20 = nI t.1 := by rw [up_ne (by decide)]; exact hv
      have v43 : px_up V 32 (nI (pF B 0 nl - 5)) 43 = 0 := by rw [up_ne (by decide)]; exact hf
      have v47 : px_up V 32 (nI (pF B 0 nl - 5)) 47 = nI nl := by rw [up_ne (by decide)]; exact h47
      have v32 : px_up V 32 (nI (pF B 0 nl - 5)) 32 = nI (cLn B 0 nl 2) := by rw [up_same, lc]
      have pt2 : mpt h1 (cPt B 0 nl 2) (cLn B 0 nl 2) := by unfold cPt; rw [lc, p5]; exact pt1
      have put : px_Wp sx 194 0 [some (.ref 619), some (.int (nI (pT B 0 nl 2))), some (.int (nI nl)), none, none, none] [] h1 (px_K sx 192 69 [some (.ref 619), some (.int (nI (pF B 0 nl)))] [] Q) := by
        refine m_putC hS1 c6 hX1 hB hnl (Nat.zero_le _) (Nat.le_refl _) v43 v20 w1 sh g v32 pt2 (fun h' V' a1 a2 a3 a4 a5 a6 => ?_)
        simp only [px_K_none, pc192_69]
        exact hQ1 h' V' a1 a2 a3 a4 a5 a6
      by_cases x : pF B 0 nl < nl
      · have ge : ¬ nI nl ≤ nI (pF B 0 nl) := nI_ge x (by omega)
        have pT_ : pT B 0 nl 2 = pF B 0 nl + 1 := by unfold pT; rw [pe]; omega
        rw [pT_] at put
        simp only [px_K_none, pc192_46, pc192_46n, pc192_47, pc192_48, pc192_48n, pc192_49, pc192_52, pc192_55, pc192_56, pc192_57, pc192_58, pc192_61, pc192_62, pc192_62n, pc192_63, pc192_66, px_op_some, px_kv_ap, px_ki_ap, px_kl_ap, px_kn_ap, px_kh_ap, px_op_none, px_K_some, px_K_none, px_K_thr, px_kill, ↓reduceIte, if_true, if_false, true_and, and_true, px_gf, c6, mf_47, v47, ge, nI_p1, hc1]
        exact put
      · have ge : nI nl ≤ nI (pF B 0 nl) := nI_le (by omega) (by omega)
        have pT_ : pT B 0 nl 2 = pF B 0 nl := by unfold pT; rw [pe]; omega
        rw [pT_] at put
        simp only [px_K_none, pc192_46, pc192_46n, pc192_47, pc192_48, pc192_48n, pc192_49, pc192_52, pc192_61, pc192_62, pc192_62n, pc192_63, pc192_66, px_op_some, px_kv_ap, px_ki_ap, px_kl_ap, px_kn_ap, px_kh_ap, px_op_none, px_K_some, px_K_none, px_K_thr, px_kill, ↓reduceIte, if_true, if_false, true_and, and_true, px_gf, c6, mf_47, v47, ge, hc1]
        exact put
    · simp only [px_K_some, pc192_31, not_true_eq_false, if_false]
      exact bad (fun z => hx (by have := z.1; rw [pe, p5] at this; exact this)) _
end COPYL
