/-! A STEP OF A BUILD, the reference's -/
def rlA (r : Nat) : Prop := r = 619 ∨ (621 ≤ r ∧ r ≤ 654)
/-- how the reference stands in a build -/
def rC (h : px_H) (q : Nat) (S : yS) (m : aM) (V : Nat → Int32) : Prop := shape h ∧ RY h q S ∧ imR h V m ∧ h.2[619]? = some (.inl (11, modF V))
/-- the other yard stays -/
def rOth (h h' : px_H) (q : Nat) : Prop := ∀ q2 S2, q2 < 2 → q2 ≠ q → WFy S2 → RY h q2 S2 → RY h' q2 S2
def stV (V V' : Nat → Int32) (x hit : Nat) : Prop := V' 43 = nI x ∧ V' 45 = V 45 + (if x = 0 then 1 else 0) ∧ V' 46 = V 46 + nI hit ∧ V' 2 = V 2 ∧ V' 44 = V 44 ∧ V' 0 = V 0
section MSTEP
variable {sx : Nat × (Nat → Int32)} {h : px_H} {q n s e : Nat} {S : yS} {m : aM} {V X g : Nat → Int32} {B : Nat → Nat} {L : Nat × (Nat → Nat)} {cp : Bool} {key : Int64} {Q : px_O → px_H → Prop}
set_option maxRecDepth 16384 in
theorem imR_f {h' : px_H} {V' : Nat → Int32} (im : imR h V m) (e1 : V' 36 = V 36) (e2 : V' 38 = V 38) (e : ∀ r, 649 ≤ r → r ≤ 653 → h'.2[r]? = h.2[r]?) : imR h' V' m := by
  obtain ⟨v1, v2, L, NM, NS, VL, VS, d9, d0, d1, d2, d3, oL, rows⟩ := im
  exact ⟨e1.trans v1, e2.trans v2, L, NM, NS, VL, VS, (e _ (by decide) (by decide)).trans d9, (e _ (by decide) (by decide)).trans d0, (e _ (by decide) (by decide)).trans d1, (e _ (by decide) (by decide)).trans d2, (e _ (by decide) (by decide)).trans d3, oL, rows⟩
/-! a layer is written behind those that are there -/
set_option maxRecDepth 16384 in
theorem imR_up {L0 : Nat → Int64} {v : Int64} (im : imR h V m) (d9 : h.2[649]? = some (.inr (2, 13, .inr (.inl L0)))) : imR (px_wr h 649 (.inr (2, 13, .inr (.inl (px_up L0 (iL m) v))))) V m := by
  obtain ⟨v1, v2, L, NM, NS, VL, VS, d9', d0, d1, d2, d3, oL, rows⟩ := im
  have l9 : 649 < h.2.length := (List.getElem?_eq_some_iff.mp d9).1
  cases d9.symm.trans d9'
  exact ⟨v1, v2, _, NM, NS, VL, VS, by rw [wr_at, if_pos rfl, if_pos l9], by rw [wr_at, if_neg (by decide)]; exact d0, by rw [wr_at, if_neg (by decide)]; exact d1, by rw [wr_at, if_neg (by decide)]; exact d2, by rw [wr_at, if_neg (by decide)]; exact d3, fun i hi => by rw [up_ne (by omega)]; exact oL i hi, rows⟩
set_option maxRecDepth 16384 in
theorem imR_add {V' : Nat → Int32} {L0 : Nat → Int64} {v : Int64} (im : imR h V m) (d9 : h.2[649]? = some (.inr (2, 13, .inr (.inl L0)))) (ev : L0 (iL m) = v) (e1 : V' 36 = nI (iL m + 1)) (e2 : V' 38 = V 38) : imR (px_wr h 619 (.inl (11, modF V'))) V' (addL m v) := by
  obtain ⟨v1, v2, L, NM, NS, VL, VS, d9', d0, d1, d2, d3, oL, rows⟩ := im
  cases d9.symm.trans d9'
  refine ⟨e1, e2.trans v2, L0, NM, NS, VL, VS, by rw [wr_at, if_neg (by decide)]; exact d9, by rw [wr_at, if_neg (by decide)]; exact d0, by rw [wr_at, if_neg (by decide)]; exact d1, by rw [wr_at, if_neg (by decide)]; exact d2, by rw [wr_at, if_neg (by decide)]; exact d3, fun i hi => ?_, rows⟩
  have hi' : i < iL m + 1 := hi
  show L0 i = px_up (iD m) (iL m) v i
  by_cases x : i = iL m
  · subst x; rw [up_same]; exact ev
  · rw [up_ne x]; exact oL i (by omega)
/-! the step's end -/
set_option maxRecDepth 16384 in
theorem m_stepEnd {l1 l2 l3 l4 l5 l6 l7 l8 : Option Value} {L0 : Nat → Int64} {v : Int64} (hS : shape h) (ry : RY h q S) (im : imR h V m) (h6 : h.2[619]? = some (.inl (11, modF V))) (d9 : h.2[649]? = some (.inr (2, 13, .inr (.inl L0)))) (ev : L0 (iL m) = v)
    (hQ : ∀ h' V', rC h' q S (addL m v) V' → V' = px_up (px_up V 36 (nI (iL m + 1))) 45 (V 45 + 1) → (∀ r, r ≠ 619 → h'.2[r]? = h.2[r]?) → frm rlA h h' → Q (.inl none) h') :
    px_Wp sx 166 236 [some (.ref 619), l1, l2, l3, l4, l5, l6, l7, l8] [] h Q := by
  have hl : 619 < h.2.length := (List.getElem?_eq_some_iff.mp h6).1
  have h2w : ∀ z : px_C, (px_wr h 619 z).2[619]? = some z := fun z => by rw [wr_at, if_pos rfl, if_pos hl]
  have v36 := im.1
  have e45 : px_up V 36 (nI (iL m + 1)) 45 = V 45 := up_ne (by decide)
  simp only [pc166_236, pc166_236n, pc166_237, pc166_237r, pc166_238, pc166_241, pc166_242, pc166_243, pc166_246, pc166_246n, pc166_247, pc166_247r, pc166_248, pc166_251, pc166_252, pc166_253, pc166_256, px_op_some, px_kv_ap, px_ki_ap, px_kl_ap, px_kn_ap, px_kh_ap, px_op_none, px_K_some, px_K_none, px_K_thr, px_kill, ↓reduceIte, if_true, if_false, true_and, and_true, px_gf, px_pf, h6, h2w, mf_36, mf_45, mfs_36, mfs_45, mf_len, v36, e45, nI_p1, Nat.reduceLT, px_fit, and_self, px_wr_wr]
  refine hQ _ _ ⟨shape_mod hS, RY_frm ry (fun r x y => by rw [wr_at, if_neg (by omega)]), imR_add im d9 ev (by rw [up_ne (by decide), up_same]) (by rw [up_ne (by decide), up_ne (by decide)]), h2w _⟩ rfl (fun r hr => by rw [wr_at, if_neg (fun z => hr z.symm)]) (frm_wr (frm_refl _ _) (.inl rfl))
set_option maxRecDepth 16384 in
theorem m_step {l1' : Int32} (hq : q < 2) (rc : rC h q S m V) (ok : bOK S m) (h12 : iL m < 12) (hA : h.2[620]? = some (.inr (1, 600, .inl g))) (hB : txM g n B) (hn : n ≤ 600) (hs : s ≤ e) (he : e ≤ n) (hX : h.2[654]? = some (.inr (1, 9000, .inl X))) (hT : txM X L.1 L.2) (L200 : L.1 ≤ 200) (h47 : V 47 = nI L.1) (hcp : cp = true → 4 ≤ L.1 ∧ fnd L.2 32 0 (L.1 - 0) = 4) (hf : V 43 = 0) (hc4 : l1' = if cp = true then 1 else 0)
    (hQ : ∀ h' x S' m' hit V', bsR S m (dig (kyB m B s) (kyN m s e)) L cp x S' m' hit → rC h' q S' m' V' → stV V V' x hit → rOth h h' q → frm rlA h h' → Q (.inl none) h') :
    px_Wp sx 166 0 [some (.ref 619), some (.int (nI q)), some (.int (nI s)), some (.int (nI e)), some (.int l1'), none, none, none, none] [] h Q := by
  obtain ⟨hS, ry, im, h6⟩ := rc
  obtain ⟨o1, o2, o3⟩ := id ok
  have gd := yOK_good o1
  have hw := gd.1
  have hl := hS.1
  refine m_keyPart (by omega) h6 (at_636 hS) im o2 hA hB hn hs he (fun row0 => ?_)
  generalize hkey : dig (kyB m B s) (kyN m s e) = key at hQ ⊢
  generalize hV1 : px_up V 17 (nI (kyN m s e)) = V1
  have ve1 : ∀ j, j ≠ 17 → V1 j = V j := fun j hj => by rw [← hV1, up_ne hj]
  generalize hh1 : outH h V1 row0 = h1
  have ne1 : ∀ r, r ≠ 619 → r ≠ 636 → h1.2[r]? = h.2[r]? := fun r x y => by rw [← hh1]; exact outH_at (fun z => y z.symm) (fun z => x z.symm)
  have c6 : h1.2[619]? = some (.inl (11, modF V1)) := by rw [← hh1]; exact outH_o (by omega)
  have hS1 : shape h1 := by
    rw [← hh1]; unfold outH
    exact shape_wr (shape_wr hS rfl) rfl
  have ry1 : RY h1 q S := RY_frm ry (fun r x y => ne1 r (by omega) (by omega))
  have im1 : imR h1 V1 m := imR_f im (ve1 _ (by decide)) (ve1 _ (by decide)) (fun r x y => ne1 r (by omega) (by omega))
  have fr1 : frm rlA h h1 := by rw [← hh1]; unfold outH; exact frm_wr (frm_wr (frm_refl _ _) (.inr ⟨by decide, by decide⟩)) (.inl rfl)
  have ot1 : rOth h h1 q := fun q2 S2 _ _ _ r2 => RY_frm r2 (fun r x y => ne1 r (by omega) (by omega))
  have hc1 : px_cls h1 619 = some 11 := by unfold px_cls; rw [c6]
  have m60 := mul_60 hq
  have ry1' := ry1
  obtain ⟨-, -, -, ⟨bl, b1, b2⟩, ⟨D, d1, d2⟩, -, ⟨kk, k1, k2⟩, ⟨ky, k3, k4⟩, ⟨kl, k5, k6⟩, -, -⟩ := ry1'
  obtain ⟨v36, v38, L0, NM, NS, VL, VS, e9, -, -, -, -, eL, -⟩ := id im1
  have i12 : px_in (nI (iL m)) 13 = true := px_inb (by omega) (by decide)
  have c12 : (nI (iL m)).toNatClampNeg = iL m := nI_clamp (by omega)
  have neg : (-1 : Int32) < 0 := by decide
  have neg' : ¬ (0 : Int32) ≤ -1 := by decide
  -- the step is done
  have go : (∀ v, ¬ knw S key v) → ∀ l7 l8, px_Wp sx 166 112 [some (.ref 619), some (.int (nI q)), some (.int (nI s)), some (.int (nI e)), some (.int l1'), some (.long key), none, some (.int l7), some (.int l8)] [] h1 Q := fun nk l7 l8 => by
    simp only [pc166_112, pc166_112n, pc166_113, pc166_114, hc1, true_and]
    refine m_growTree hw (by have := hS1.1; omega) hq ry1 c6 v36 e9 ⟨at_637 hS1, at_638 hS1, at_639 hS1, at_640 hS1, at_641 hS1⟩ (at_636 hS1) (at_647 hS1) o2.1 (fun i hi => by rw [eL i hi]; exact o3 i hi) (fun t h2 gr mg => ?_)
    have gr : grw S (iL m) (iD m) t := grw_congr eL gr
    obtain ⟨V2, c62, v20, ve2, w2, tok, -, ⟨row2, hr2⟩, fr2, s2⟩ := mg
    have hS2 := s2 hS1
    have ne2 : ∀ r, ¬ mGA r → h2.2[r]? = h1.2[r]? := fr2.2.2
    have fb2 : frm rlA h h2 := frm_trans fr1 (frm_mono fr2 (fun r hr => by unfold mGA mEL mEB mEA at hr; unfold rlA; omega))
    have ry2 : RY h2 q S := RY_frm ry1 (fun r x y => ne2 r (by unfold mGA mEL mEB mEA; omega))
    have im2 : imR h2 V2 m := imR_f im1 (ve2 _ (by decide) (by decide) (by decide)) (ve2 _ (by decide) (by decide) (by decide)) (fun r x y => ne2 r (by unfold mGA mEL mEB mEA; omega))
    have ot2 : rOth h h2 q := fun q2 S2 a b c r2 => RY_frm (ot1 q2 S2 a b c r2) (fun r x y => ne2 r (by unfold mGA mEL mEB mEA; omega))
    have ve2' : ∀ j, j ≠ 17 → j ≠ 20 → j ≠ 32 → V2 j = V j := fun j a b c => (ve2 j a b c).trans (ve1 j a)
    have hc2 : px_cls h2 619 = some 11 := by unfold px_cls; rw [c62]
    have l62 : 619 < h2.2.length := (List.getElem?_eq_some_iff.mp c62).1
    have v432 : V2 43 = 0 := by rw [ve2' 43 (by decide) (by decide) (by decide)]; exact hf
    have n80 := tok.1
    have big : tooB t.1 t.2 → px_Wp sx 166 136 [some (.ref 619), some (.int (nI q)), some (.int (nI s)), some (.int (nI e)), some (.int l1'), some (.long key), none, some (.int l7), some (.int l8)] [] h2 Q := fun tb => by
      simp only [pc166_136, pc166_136n, pc166_137, pc166_138, hc2, true_and]
      refine m_fail (x := 4) c62 v432 ?_
      simp only [px_K_none, pc166_141]
      have ne3 : ∀ r, r ≠ 619 → (px_wr h2 619 (.inl (11, modF (px_up V2 43 4)))).2[r]? = h2.2[r]? := fun r hr => by rw [wr_at, if_neg (fun z => hr z.symm)]
      refine hQ _ 4 S m 0 (px_up V2 43 4) (.inr ⟨nk, rfl, t, gr, .inl ⟨tb, rfl, rfl, rfl⟩⟩) ⟨shape_mod hS2, RY_frm ry2 (fun r x y => ne3 r (by omega)), imR_f im2 (up_ne (by decide)) (up_ne (by decide)) (fun r x y => ne3 r (by omega)), by rw [wr_at, if_pos rfl, if_pos l62]⟩ ⟨up_same _ _ _, ?_, ?_, ?_, ?_⟩ (fun q2 S2 a b c r2 => RY_frm (ot2 q2 S2 a b c r2) (fun r x y => ne3 r (by omega))) (frm_wr fb2 (.inl rfl))
      · rw [up_ne (by decide), ve2' 45 (by decide) (by decide) (by decide)]; exact (Int32.add_zero _).symm
      · rw [up_ne (by decide), ve2' 46 (by decide) (by decide) (by decide)]; exact (Int32.add_zero _).symm
      · rw [up_ne (by decide), ve2' 2 (by decide) (by decide) (by decide)]
      · exact ⟨by rw [up_ne (by decide), ve2' 44 (by decide) (by decide) (by decide)], by rw [up_ne (by decide), ve2' 0 (by decide) (by decide) (by decide)]⟩
    by_cases n40 : 40 < t.1
    · have gt : 40 < nI t.1 := nI_lt (a := 40) n40 (by omega)
      simp only [px_K_none, pc166_117, pc166_117n, pc166_118, pc166_121, pc166_123, px_op_some, px_kv_ap, px_ki_ap, px_kl_ap, px_kn_ap, px_kh_ap, px_op_none, px_K_some, px_K_none, px_K_thr, px_kill, ↓reduceIte, if_true, if_false, true_and, and_true, px_gf, c62, mf_20, v20, gt]
      exact big (.inl n40)
    have ngt : ¬ 40 < nI t.1 := fun z => Int32.lt_irrefl (Int32.lt_of_lt_of_le z (nI_le (b := 40) (by omega) (by decide)))
    have tl := totN_le (E := t.2) (c := 1000) t.1 (fun i hi => eN_le (tok.2.1 i hi))
    simp only [px_K_none, pc166_117, pc166_117n, pc166_118, pc166_121, pc166_123, pc166_126, pc166_126n, pc166_127, px_op_some, px_kv_ap, px_ki_ap, px_kl_ap, px_kn_ap, px_kh_ap, px_op_none, px_K_some, px_K_none, px_K_thr, px_kill, ↓reduceIte, if_true, if_false, true_and, and_true, px_gf, c62, mf_20, v20, ngt, hc2]
    refine m_total c62 v20 (by omega) w2 (fun i hi => hi) ?_
    by_cases t1000 : 1000 < totN t.2 t.1
    · have nle : ¬ nI (totN t.2 t.1) ≤ 1000 := nI_ge (a := 1000) t1000 (by omega)
      simp only [px_K_some, pc166_130, pc166_133, nle, if_false]
      exact big (.inr t1000)
    have le : nI (totN t.2 t.1) ≤ 1000 := nI_le (b := 1000) (by omega) (by decide)
    have tb : ¬ tooB t.1 t.2 := fun z => by rcases z with z | z <;> omega
    have sh := grw_sh gr tb
    have hby := grw_by gr
    simp only [px_K_some, pc166_130, pc166_133, pc166_142, pc166_142n, pc166_143, le, if_true, hc2, true_and]
    refine m_keepOld hS2 c62 v20 (by omega) w2 (fun h3 wo3 c63 fr3 hS3 => ?_)
    have ne3 : ∀ r, ¬ moA r → h3.2[r]? = h2.2[r]? := fr3.2.2
    have fb3 : frm rlA h h3 := frm_trans fb2 (frm_mono fr3 (fun r hr => by unfold moA at hr; unfold rlA; omega))
    generalize hV3 : px_up V2 26 (nI t.1) = V3 at c63
    have ve3 : ∀ j, j ≠ 26 → V3 j = V2 j := fun j hj => by rw [← hV3, up_ne hj]
    have v26 : V3 26 = nI t.1 := by rw [← hV3, up_same]
    have w3 : mtE h3 (fun i => i < t.1) t.2 := mtE_frm w2 (fun r hr => by unfold mEA at hr; exact ne3 r (by unfold moA; omega))
    have ry3 : RY h3 q S := RY_frm ry2 (fun r x y => ne3 r (by unfold moA; omega))
    have im3 : imR h3 V3 m := imR_f im2 (ve3 _ (by decide)) (ve3 _ (by decide)) (fun r x y => ne3 r (by unfold moA; omega))
    have ot3 : rOth h h3 q := fun q2 S2 a b c r2 => RY_frm (ot2 q2 S2 a b c r2) (fun r x y => ne3 r (by unfold moA; omega))
    have hX3 : h3.2[654]? = some (.inr (1, 9000, .inl X)) := ((ne3 654 (by unfold moA; omega)).trans (ne2 654 (by unfold mGA mEL mEB mEA; omega))).trans ((ne1 654 (by decide) (by decide)).trans hX)
    have v203 : V3 20 = nI t.1 := by rw [ve3 20 (by decide)]; exact v20
    have v433 : V3 43 = 0 := by rw [ve3 43 (by decide)]; exact v432
    have v473 : V3 47 = nI L.1 := by rw [ve3 47 (by decide), ve2' 47 (by decide) (by decide) (by decide)]; exact h47
    have hc3 : px_cls h3 619 = some 11 := by unfold px_cls; rw [c63]
    have ve3' : ∀ j, j ≠ 17 → j ≠ 20 → j ≠ 32 → j ≠ 26 → V3 j = V j := fun j a b c d => (ve3 j d).trans (ve2' j a b c)
    -- behind the line
    have fin : lnQ (lnF cp L t) h3 V3 (fun o h4 => o = .inl none → px_Wp sx 166 178 [some (.ref 619), some (.int (nI q)), some (.int (nI s)), some (.int (nI e)), some (.int l1'), some (.long key), none, some (.int l7), some (.int l8)] [] h4 Q) := fun h4 V4 x43 q4 c64 ve4 fr4 hS4 _ => by
      have l4 := ln_4 (cp := cp) (L := L) (t := t)
      have ne4 : ∀ r, ¬ mvA r → h4.2[r]? = h3.2[r]? := fr4.2.2
      have fb4 : frm rlA h h4 := frm_trans fb3 (frm_mono fr4 (fun r hr => by unfold mvA at hr; unfold rlA; omega))
      have ry4 : RY h4 q S := RY_frm ry3 (fun r x y => ne4 r (by unfold mvA; omega))
      have im4 : imR h4 V4 m := imR_f im3 (ve4 _ (by decide) (by decide) (by decide) (by decide)) (ve4 _ (by decide) (by decide) (by decide) (by decide)) (fun r x y => ne4 r (by unfold mvA; omega))
      have ot4 : rOth h h4 q := fun q2 S2 a b c r2 => RY_frm (ot3 q2 S2 a b c r2) (fun r x y => ne4 r (by unfold mvA; omega))
      have ve4' : ∀ j, j ≠ 17 → j ≠ 20 → j ≠ 32 → j ≠ 26 → j ≠ 34 → j ≠ 43 → V4 j = V j := fun j a b c d f i => (ve4 j b c f i).trans (ve3' j a b c d)
      have hc4' : px_cls h4 619 = some 11 := by unfold px_cls; rw [c64]
      by_cases x0 : (lnF cp L t).1 = 0
      rotate_left
      · have gt : ¬ nI (lnF cp L t).1 ≤ 0 := nI_ge (a := 0) (by omega) (by omega)
        simp only [pc166_178, pc166_178n, pc166_179, pc166_182, pc166_185, px_op_some, px_kv_ap, px_ki_ap, px_kl_ap, px_kn_ap, px_kh_ap, px_op_none, px_K_some, px_K_none, px_K_thr, px_kill, ↓reduceIte, if_true, if_false, true_and, and_true, px_gf, c64, mf_43, x43, gt]
        exact hQ h4 (lnF cp L t).1 S m 0 V4 (.inr ⟨nk, rfl, t, gr, .inr ⟨tb, .inl ⟨x0, rfl, rfl, rfl⟩⟩⟩) ⟨hS4, ry4, im4, c64⟩ ⟨x43, by rw [ve4' 45 (by decide) (by decide) (by decide) (by decide) (by decide) (by decide), if_neg x0]; exact (Int32.add_zero _).symm, by rw [ve4' 46 (by decide) (by decide) (by decide) (by decide) (by decide) (by decide)]; exact (Int32.add_zero _).symm, ve4' 2 (by decide) (by decide) (by decide) (by decide) (by decide) (by decide), ve4' 44 (by decide) (by decide) (by decide) (by decide) (by decide) (by decide), ve4' 0 (by decide) (by decide) (by decide) (by decide) (by decide) (by decide)⟩ ot4 fb4
      obtain ⟨w4, v204⟩ := q4 x0
      have lo := ln_ok (cp := cp) L200 (fun j hj => (hT j hj).2) sh hby x0
      have ly := lyF_ok sh lo.1 lo.2
      have x0' : V4 43 = 0 := by rw [x43, x0]; rfl
      have le0 : (0 : Int32) ≤ 0 := by decide
      have v264 : V4 26 = nI t.1 := by rw [ve4 26 (by decide) (by decide) (by decide) (by decide)]; exact v26
      have wo4 : moE h4 t.1 t.2 := moE_frm wo3 (fun r x y => ne4 r (by unfold mvA; omega))
      simp only [pc166_178, pc166_178n, pc166_179, pc166_182, pc166_185, pc166_186, pc166_186n, pc166_187, px_op_some, px_kv_ap, px_ki_ap, px_kl_ap, px_kn_ap, px_kh_ap, px_op_none, px_K_some, px_K_none, px_K_thr, px_kill, ↓reduceIte, if_true, if_false, true_and, and_true, px_gf, c64, mf_43, x0', le0, hc4']
      refine m_changes (by have := hS4.1; omega) c64 (at_636 hS4) v264 v204 wo4 w4 sh lo.1 lo.2 (fun row5 br => ?_)
      have br : bytR row5 (lyF t (lnF cp L t).2).1 (lyF t (lnF cp L t).2).2 := br
      show px_K sx 166 190 _ [] Q (.inl none) (outH h4 (px_up V4 17 (nI (lyF t (lnF cp L t).2).1)) row5)
      generalize hA' : lyF t (lnF cp L t).2 = AG at br ly ⊢
      generalize hV5 : px_up V4 17 (nI AG.1) = V5
      have ve5 : ∀ j, j ≠ 17 → V5 j = V4 j := fun j hj => by rw [← hV5, up_ne hj]
      have v17 : V5 17 = nI AG.1 := by rw [← hV5, up_same]
      generalize hh5 : outH h4 V5 row5 = h5
      have hl4 := hS4.1
      have ne5 : ∀ r, r ≠ 619 → r ≠ 636 → h5.2[r]? = h4.2[r]? := fun r x y => by rw [← hh5]; exact outH_at (fun z => y z.symm) (fun z => x z.symm)
      have c65 : h5.2[619]? = some (.inl (11, modF V5)) := by rw [← hh5]; exact outH_o (by omega)
      have r65 : h5.2[636]? = some (.inr (1, 40100, .inl row5)) := by rw [← hh5]; exact outH_r (by omega)
      have hS5 : shape h5 := by
        rw [← hh5]; unfold outH
        exact shape_wr (shape_wr hS4 rfl) rfl
      have fb5 : frm rlA h h5 := by rw [← hh5]; unfold outH; exact frm_wr (frm_wr fb4 (.inr ⟨by decide, by decide⟩)) (.inl rfl)
      have ry5 : RY h5 q S := RY_frm ry4 (fun r x y => ne5 r (by omega) (by omega))
      have im5 : imR h5 V5 m := imR_f im4 (ve5 _ (by decide)) (ve5 _ (by decide)) (fun r x y => ne5 r (by omega) (by omega))
      have ot5 : rOth h h5 q := fun q2 S2 a b c r2 => RY_frm (ot4 q2 S2 a b c r2) (fun r x y => ne5 r (by omega) (by omega))
      have hc5 : px_cls h5 619 = some 11 := by unfold px_cls; rw [c65]
      obtain ⟨v365, -, L5, NM5, NS5, VL5, VS5, e95, -⟩ := id im5
      have dg : dig row5 AG.1 = dig AG.2 AG.1 := dig_congr br
      have l95 : 649 < h5.2.length := (List.getElem?_eq_some_iff.mp e95).1
      simp only [px_K_none, pc166_190, pc166_190n, pc166_191, pc166_194, pc166_194n, pc166_195, pc166_198, pc166_198n, pc166_199, px_op_some, px_kv_ap, px_ki_ap, px_kl_ap, px_kn_ap, px_kh_ap, px_op_none, px_K_some, px_K_none, px_K_thr, px_kill, ↓reduceIte, if_true, if_false, true_and, and_true, px_gf, c65, mf_36, mf_37, v365, hc5]
      refine m_digest c65 r65 v17 (by omega) ?_
      generalize hh6 : px_wr h5 649 (.inr (2, 13, .inr (.inl (px_up L5 (iL m) (dig AG.2 AG.1))))) = h6'
      have ne6 : ∀ r, r ≠ 649 → h6'.2[r]? = h5.2[r]? := fun r x => by rw [← hh6, wr_at, if_neg (fun z => x z.symm)]
      have c66 : h6'.2[619]? = some (.inl (11, modF V5)) := (ne6 619 (by decide)).trans c65
      have r66 : h6'.2[636]? = some (.inr (1, 40100, .inl row5)) := (ne6 636 (by decide)).trans r65
      have hS6 : shape h6' := by rw [← hh6]; exact shape_la hS5 e95
      have fb6 : frm rlA h h6' := by rw [← hh6]; exact frm_wr fb5 (.inr ⟨by decide, by decide⟩)
      have ry6 : RY h6' q S := RY_frm ry5 (fun r x y => ne6 r (by omega))
      have im6 : imR h6' V5 m := by rw [← hh6]; exact imR_up im5 e95
      have e96 : h6'.2[649]? = some (.inr (2, 13, .inr (.inl (px_up L5 (iL m) (dig AG.2 AG.1))))) := by rw [← hh6, wr_at, if_pos rfl, if_pos l95]
      have ot6 : rOth h h6' q := fun q2 S2 a b c r2 => RY_frm (ot5 q2 S2 a b c r2) (fun r x y => ne6 r (by omega))
      have hc6 : px_cls h6' 619 = some 11 := by unfold px_cls; rw [c66]
      have ve5' : ∀ j, j ≠ 17 → j ≠ 20 → j ≠ 32 → j ≠ 26 → j ≠ 34 → j ≠ 43 → V5 j = V j := fun j a b c d f i => (ve5 j a).trans (ve4' j a b c d f i)
      have v435 : V5 43 = 0 := by rw [ve5 43 (by decide)]; exact x0'
      rw [px_K_some, dg]
      simp only [pc166_202, pc166_203, pc166_203n, pc166_204, pc166_205, px_op_some, px_kv_ap, px_ki_ap, px_kl_ap, px_kn_ap, px_kh_ap, px_op_none, px_K_some, px_K_none, px_K_thr, px_kill, ↓reduceIte, if_true, if_false, true_and, and_true, px_wj, e95, i12, c12, tg_2, and_self, hh6, hc6]
      -- no room
      have noroom : ∀ h7 V7 S7, rC h7 q S7 m V7 → vSame V5 V7 → klR S m key AG 5 S7 m → rOth h h7 q → frm rlA h h7 → px_Wp sx 166 230 [some (.ref 619), some (.int (nI q)), some (.int (nI s)), some (.int (nI e)), some (.int l1'), some (.long key), none, some (.int l7), some (.int l8)] [] h7 Q := fun h7 V7 S7 rc7 vs kr ot7 fb7 => by
        obtain ⟨hS7, ry7, im7, c67⟩ := rc7
        have hc7 : px_cls h7 619 = some 11 := by unfold px_cls; rw [c67]
        have l67 : 619 < h7.2.length := (List.getElem?_eq_some_iff.mp c67).1
        simp only [pc166_230, pc166_230n, pc166_231, pc166_232, hc7, true_and]
        refine m_fail (x := 5) c67 (by rw [vs 43 (by decide)]; exact v435) ?_
        simp only [px_K_none, pc166_235]
        have ne8 : ∀ r, r ≠ 619 → (px_wr h7 619 (.inl (11, modF (px_up V7 43 5)))).2[r]? = h7.2[r]? := fun r hr => by rw [wr_at, if_neg (fun z => hr z.symm)]
        refine hQ _ 5 S7 m 0 (px_up V7 43 5) (.inr ⟨nk, rfl, t, gr, .inr ⟨tb, .inr ⟨x0, by rw [hA']; exact kr⟩⟩⟩) ⟨shape_mod hS7, RY_frm ry7 (fun r x y => ne8 r (by omega)), imR_f im7 (up_ne (by decide)) (up_ne (by decide)) (fun r x y => ne8 r (by omega)), by rw [wr_at, if_pos rfl, if_pos l67]⟩ ⟨up_same _ _ _, ?_, ?_, ?_, ?_⟩ (fun q2 S2 a b c r2 => RY_frm (ot7 q2 S2 a b c r2) (fun r x y => ne8 r (by omega))) (frm_wr fb7 (.inl rfl))
        · rw [up_ne (by decide), vs 45 (by decide), ve5' 45 (by decide) (by decide) (by decide) (by decide) (by decide) (by decide)]; exact (Int32.add_zero _).symm
        · rw [up_ne (by decide), vs 46 (by decide), ve5' 46 (by decide) (by decide) (by decide) (by decide) (by decide) (by decide)]; exact (Int32.add_zero _).symm
        · rw [up_ne (by decide), vs 2 (by decide), ve5' 2 (by decide) (by decide) (by decide) (by decide) (by decide) (by decide)]
        · exact ⟨by rw [up_ne (by decide), vs 44 (by decide), ve5' 44 (by decide) (by decide) (by decide) (by decide) (by decide) (by decide)], by rw [up_ne (by decide), vs 0 (by decide), ve5' 0 (by decide) (by decide) (by decide) (by decide) (by decide) (by decide)]⟩
      refine ry_keep2 hS6 hw hq ry6 c66 v17 (by omega) r66 (fun k hk => by rw [br k hk]; exact ly.2 k hk) (fun S1 h7 ky7 ry7 ot7 fr7 hS7 => ?_) (fun kn => ?_)
      rotate_left
      · simp only [px_K_some, pc166_208, if_true]
        exact noroom h6' V5 S ⟨hS6, ry6, im6, c66⟩ (fun _ _ => rfl) (.inl ⟨keepN_congr br kn, rfl, rfl, rfl⟩) ot6 fb6
      have kY : keepY S AG.2 AG.1 S1 := keepY_congr br ky7
      have ok1 := keep_ok o1 ly.1 ly.2 kY
      have ne7 : ∀ r, (r < 621 ∨ 633 < r) → h7.2[r]? = h6'.2[r]? := fun r hr => fr7.2.2 r (by omega)
      have c67 : h7.2[619]? = some (.inl (11, modF V5)) := (ne7 619 (by decide)).trans c66
      have e97 := (ne7 649 (by decide)).trans e96
      have im7 : imR h7 V5 m := imR_f im6 rfl rfl (fun r x y => ne7 r (by omega))
      have fb7 : frm rlA h h7 := frm_trans fb6 (frm_mono fr7 (fun r hr => .inr (by omega)))
      have oth7 : rOth h h7 q := fun q2 S2 a b c r2 => ot7 q2 S2 a b c (ot6 q2 S2 a b c r2)
      have hc7 : px_cls h7 619 = some 11 := by unfold px_cls; rw [c67]
      have v367 := im7.1
      simp only [px_K_some, pc166_208, pc166_211, pc166_211n, pc166_212, pc166_213, pc166_215, pc166_215n, pc166_216, pc166_219, pc166_219n, pc166_220, pc166_223, pc166_224, px_op_some, px_kv_ap, px_ki_ap, px_kl_ap, px_kn_ap, px_kh_ap, px_op_none, px_K_some, px_K_none, px_K_thr, px_kill, ↓reduceIte, if_true, if_false, true_and, and_true, px_gf, px_aj, c67, mf_36, mf_37, v367, e97, i12, c12, up_same, ne_1_0, tg_2, and_self, hc7]
      refine ry_rem2 hS7 (yOK_good ok1).1 (yOK_good ok1).2.1 hq ry7 c67 (fun S2 h8 V8 rY ry8 ot8 fr8 hS8 c68 vs8 => ?_) (fun rn => ?_)
      rotate_left
      · simp only [px_K_some, pc166_227, not_true_eq_false, if_false]
        exact noroom h7 V5 S1 ⟨hS7, ry7, im7, c67⟩ (fun _ _ => rfl) (.inr ⟨S1, kY, .inl ⟨rn, rfl, rfl, rfl⟩⟩) oth7 fb7
      have ne8 : ∀ r, ¬ ryA r → h8.2[r]? = h7.2[r]? := fr8.2.2
      have e98 := (ne8 649 (by unfold ryA; omega)).trans e97
      have im8 : imR h8 V8 m := imR_f im7 (vs8 _ (by decide)) (vs8 _ (by decide)) (fun r x y => ne8 r (by unfold ryA; omega))
      have fb8 : frm rlA h h8 := frm_trans fb7 (frm_mono fr8 (fun r hr => by unfold ryA at hr; unfold rlA; omega))
      simp only [px_K_some, pc166_227, ne_1_0, not_false_eq_true, if_true]
      refine m_stepEnd hS8 ry8 im8 c68 e98 (up_same _ _ _) (fun h9 V9 rc9 eV ne9 fr9 => ?_)
      refine hQ h9 0 S2 _ 0 V9 (.inr ⟨nk, rfl, t, gr, .inr ⟨tb, .inr ⟨x0, by rw [hA']; exact .inr ⟨S1, kY, .inr ⟨rY, rfl, rfl⟩⟩⟩⟩⟩) rc9 ⟨?_, ?_, ?_, ?_, ?_⟩ (fun q2 S2 a b c r2 => RY_frm (ot8 q2 S2 a b c (oth7 q2 S2 a b c r2)) (fun r x y => ne9 r (by omega))) (frm_trans fb8 fr9)
      · rw [eV, up_ne (by decide), up_ne (by decide), vs8 43 (by decide)]; exact v435
      · rw [eV, up_same, vs8 45 (by decide), ve5' 45 (by decide) (by decide) (by decide) (by decide) (by decide) (by decide), if_pos rfl]
      · rw [eV, up_ne (by decide), up_ne (by decide), vs8 46 (by decide), ve5' 46 (by decide) (by decide) (by decide) (by decide) (by decide) (by decide)]; exact (Int32.add_zero _).symm
      · rw [eV, up_ne (by decide), up_ne (by decide), vs8 2 (by decide), ve5' 2 (by decide) (by decide) (by decide) (by decide) (by decide) (by decide)]
      · exact ⟨by rw [eV, up_ne (by decide), up_ne (by decide), vs8 44 (by decide), ve5' 44 (by decide) (by decide) (by decide) (by decide) (by decide) (by decide)], by rw [eV, up_ne (by decide), up_ne (by decide), vs8 0 (by decide), ve5' 0 (by decide) (by decide) (by decide) (by decide) (by decide) (by decide)]⟩
    by_cases c : cp = true
    · have c4e : l1' = 1 := by rw [hc4, if_pos c]
      have eL' : lnF cp L t = copF L.2 L.1 t := if_pos c
      obtain ⟨n4, f4⟩ := hcp c
      subst c4e
      simp only [px_K_none, pc166_146, pc166_148, pc166_151, pc166_151n, pc166_152, ne_1_0, if_false, hc3, true_and]
      refine m_copy (t := t) hS3 c63 hX3 hT L200 v473 v433 v203 w3 sh n4 f4 (fun h4 V4 a1 a2 a3 a4 a5 a6 => ?_)
      rw [← eL'] at a1 a2
      simp only [px_K_none, pc166_155]
      exact fin h4 V4 a1 a2 a3 a4 a5 a6 rfl
    · have c4e : l1' = 0 := by rw [hc4, if_neg c]
      have eL' : lnF cp L t = runF L.2 L.1 t := if_neg c
      subst c4e
      by_cases n4 : L.1 < 4
      · have lt : ¬ (4 : Int32) ≤ nI L.1 := nI_ge (b := 4) n4 (by decide)
        simp only [px_K_none, pc166_146, pc166_148, pc166_158, pc166_158n, pc166_159, pc166_162, pc166_163, pc166_166, pc166_166n, pc166_167, pc166_168, px_op_some, px_kv_ap, px_ki_ap, px_kl_ap, px_kn_ap, px_kh_ap, px_op_none, px_K_some, px_K_none, px_K_thr, px_kill, ↓reduceIte, if_true, if_false, true_and, and_true, px_gf, c63, mf_47, v473, lt, hc3]
        refine m_fail (x := 1) c63 v433 ?_
        simp only [px_K_none, pc166_171]
        have l63 : 619 < h3.2.length := (List.getElem?_eq_some_iff.mp c63).1
        refine fin _ (px_up V3 43 1) ?_ (fun z => ?_) (by rw [wr_at, if_pos rfl, if_pos l63]) (fun j _ _ _ j4 => up_ne j4) (frm_wr (frm_refl _ _) (.inl rfl)) (shape_mod hS3) rfl
        · rw [eL', run_3 n4, up_same]; rfl
        · rw [eL', run_3 n4] at z
          have z : 1 = 0 := z
          omega
      · have lt : (4 : Int32) ≤ nI L.1 := nI_le (a := 4) (by omega) (by omega)
        simp only [px_K_none, pc166_146, pc166_148, pc166_158, pc166_158n, pc166_159, pc166_162, pc166_163, pc166_174, pc166_174n, pc166_175, px_op_some, px_kv_ap, px_ki_ap, px_kl_ap, px_kn_ap, px_kh_ap, px_op_none, px_K_some, px_K_none, px_K_thr, px_kill, ↓reduceIte, if_true, if_false, true_and, and_true, px_gf, c63, mf_47, v473, lt, hc3]
        refine m_commands (t := t) hS3 c63 hX3 hT L200 (by omega) v473 v433 v203 w3 sh (fun h4 V4 a1 a2 a3 a4 a5 a6 => ?_)
        rw [← eL'] at a1 a2
        rw [px_K_none]
        exact fin h4 V4 a1 a2 a3 a4 a5 a6 rfl
  simp only [pc166_36, pc166_36n, pc166_37, pc166_38, pc166_40, hc1, true_and]
  refine m_findKey hq hw.2.2.2.1 k2 c6 k1 k3 (fun v hv => ?_)
  rcases hv with ⟨rfl, no⟩ | ⟨k, kk', rfl, ke, -⟩
  · simp only [px_K_some, pc166_43, pc166_45, pc166_47, pc166_50, pc166_51, pc166_71, pc166_73, pc166_75, neg, neg', if_true, if_false, px_kill]
    refine go (fun v z => ?_) _ _
    obtain ⟨k, z1, z2, -⟩ := z
    exact no k z1 (by show ky (60 * q + k) = key; rw [k4 k z1]; exact z2)
  · have k60 := hw.2.2.2.1
    have pk : (0 : Int32) ≤ nI k := nI_pos' (by omega)
    have ik : px_in (nI (60 * q + k)) 120 = true := px_inb (by omega) (by decide)
    have ck : (nI (60 * q + k)).toNatClampNeg = 60 * q + k := nI_clamp (by omega)
    have ke' : yX S k = key := by rw [← k4 k kk']; exact ke
    simp only [px_K_some, pc166_43, pc166_45, pc166_47, pc166_54, pc166_54n, pc166_55, pc166_56, pc166_56n, pc166_57, pc166_60, pc166_62, pc166_63, pc166_64, pc166_66, pc166_67, pc166_68, px_op_some, px_kv_ap, px_ki_ap, px_kl_ap, px_kn_ap, px_kh_ap, px_op_none, px_K_some, px_K_none, px_K_thr, px_kill, ↓reduceIte, if_true, if_false, true_and, and_true, px_gf, px_aj, c6, mf_13, k5, m60, nI_add, pk, ik, ck, tg_2, and_self, hc1, px_kill]
    refine m_find hq hw.2.2.1 b2 c6 b1 d1 (fun v hv => ?_)
    rcases hv with ⟨rfl, no⟩ | ⟨j, jj, rfl, je, -⟩
    · simp only [px_K_some, pc166_71, pc166_73, pc166_75, neg, if_true, px_kill]
      refine go (fun v z => ?_) _ _
      obtain ⟨k', z1, z2, z3, j, z4, z5⟩ := z
      have : k' = k := gd.2.1 k' k z1 kk' (z2.trans ke'.symm)
      subst this
      exact no j z4 (by show D (61 * q + j) = kl (60 * q + k'); rw [d2 j z4, z5, ← z3, k6 k' z1])
    · have pj : ¬ nI j < 0 := nI_pos (by have := hw.2.2.1; omega)
      have kn : knw S key (kl (60 * q + k)) := ⟨k, kk', ke', (k6 k kk').symm, j, jj, by rw [← d2 j jj]; exact je⟩
      have l61 : 619 < h1.2.length := (List.getElem?_eq_some_iff.mp c6).1
      have l91 : 649 < h1.2.length := (List.getElem?_eq_some_iff.mp e9).1
      generalize hV2 : px_up V1 46 (V1 46 + 1) = V2
      have ve2 : ∀ j, j ≠ 46 → V2 j = V1 j := fun j hj => by rw [← hV2, up_ne hj]
      generalize hh2 : px_wr h1 619 (.inl (11, modF V2)) = h2
      have ne2 : ∀ r, r ≠ 619 → h2.2[r]? = h1.2[r]? := fun r hr => by rw [← hh2, wr_at, if_neg (fun z => hr z.symm)]
      have c62 : h2.2[619]? = some (.inl (11, modF V2)) := by rw [← hh2, wr_at, if_pos rfl, if_pos l61]
      have e92 := (ne2 649 (by decide)).trans e9
      have k52 := (ne2 631 (by decide)).trans k5
      have v362 : V2 36 = nI (iL m) := (ve2 36 (by decide)).trans v36
      have hS2 : shape h2 := by rw [← hh2]; exact shape_mod hS1
      have im2 : imR h2 V2 m := imR_f im1 (ve2 _ (by decide)) (ve2 _ (by decide)) (fun r x y => ne2 r (by omega))
      generalize hh3 : px_wr h2 649 (.inr (2, 13, .inr (.inl (px_up L0 (iL m) (kl (60 * q + k)))))) = h3
      have ne3 : ∀ r, r ≠ 649 → h3.2[r]? = h2.2[r]? := fun r hr => by rw [← hh3, wr_at, if_neg (fun z => hr z.symm)]
      have l92 : 649 < h2.2.length := (List.getElem?_eq_some_iff.mp e92).1
      have e93 : h3.2[649]? = some (.inr (2, 13, .inr (.inl (px_up L0 (iL m) (kl (60 * q + k)))))) := by rw [← hh3, wr_at, if_pos rfl, if_pos l92]
      have hS3 : shape h3 := by rw [← hh3]; exact shape_la hS2 e92
      have im3 : imR h3 V2 m := by rw [← hh3]; exact imR_up im2 e92
      have fb3 : frm rlA h h3 := by rw [← hh3, ← hh2]; exact frm_wr (frm_wr fr1 (.inl rfl)) (.inr ⟨by decide, by decide⟩)
      have ry3 : RY h3 q S := RY_frm ry1 (fun r x y => (ne3 r (by omega)).trans (ne2 r (by omega)))
      simp only [px_K_some, pc166_71, pc166_73, pc166_75, pc166_78, pc166_78n, pc166_79, pc166_79r, pc166_80, pc166_83, pc166_84, pc166_85, pc166_88, pc166_88n, pc166_89, pc166_92, pc166_92n, pc166_93, pc166_96, pc166_96n, pc166_97, pc166_100, pc166_102, pc166_103, pc166_104, pc166_106, pc166_107, pc166_108, pc166_109, px_op_some, px_kv_ap, px_ki_ap, px_kl_ap, px_kn_ap, px_kh_ap, px_op_none, px_K_some, px_K_none, px_K_thr, px_kill, ↓reduceIte, if_true, if_false, true_and, and_true, px_gf, px_pf, px_aj, px_wj, c6, c62, mf_46, mfs_46, mf_13, mf_36, mf_37, mf_len, hV2, hh2, e92, k52, v362, m60, nI_add, pj, ik, ck, i12, c12, hh3, tg_2, Nat.reduceLT, px_fit, and_self, px_kill]
      refine m_stepEnd hS3 ry3 im3 ((ne3 619 (by decide)).trans c62) e93 (up_same _ _ _) (fun h9 V9 rc9 eV ne9 fr9 => ?_)
      refine hQ h9 0 S _ 1 V9 (.inl ⟨_, kn, rfl, rfl, rfl, rfl⟩) rc9 ⟨?_, ?_, ?_, ?_, ?_⟩ (fun q2 S2 a b c r2 => RY_frm (ot1 q2 S2 a b c r2) (fun r x y => (ne9 r (by omega)).trans ((ne3 r (by omega)).trans (ne2 r (by omega))))) (frm_trans fb3 fr9)
      · rw [eV, up_ne (by decide), up_ne (by decide), ve2 43 (by decide), ve1 43 (by decide)]; exact hf
      · rw [eV, up_same, ve2 45 (by decide), ve1 45 (by decide), if_pos rfl]
      · rw [eV, up_ne (by decide), up_ne (by decide), ← hV2, up_same, ve1 46 (by decide)]; rfl
      · rw [eV, up_ne (by decide), up_ne (by decide), ve2 2 (by decide), ve1 2 (by decide)]
      · exact ⟨by rw [eV, up_ne (by decide), up_ne (by decide), ve2 44 (by decide), ve1 44 (by decide)], by rw [eV, up_ne (by decide), up_ne (by decide), ve2 0 (by decide), ve1 0 (by decide)]⟩
end MSTEP
