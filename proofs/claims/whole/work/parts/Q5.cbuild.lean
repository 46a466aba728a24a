/-! A BUILD, the class's: all lines, and the end -/
def dgM (m : aM) : Int64 := dig (imB m (iS m)) (ipos m (iS m))
/-- the end of a build: fault, line, yard -/
def fiR (S : yS) (m : aM) (j la x x' : Nat) (ln : Int32) (S' : yS) : Prop :=
  (x ≠ 0 ∧ x' = x ∧ ln = nI (la - 1) ∧ S' = S) ∨ (x = 0 ∧ la = 0 ∧ x' = 1 ∧ ln = 0 ∧ S' = S) ∨
  (x = 0 ∧ la ≠ 0 ∧ ((keepN S (imB m (iS m)) (ipos m (iS m)) ∧ x' = 5 ∧ ln = nI (la - 1) ∧ S' = S) ∨ ∃ S1, keepY S (imB m (iS m)) (ipos m (iS m)) S1 ∧ ((tellN S1 j (dgM m) ∧ x' = 5 ∧ ln = nI (la - 1) ∧ S' = S1) ∨ (tellY S1 j (dgM m) S' ∧ x' = 0 ∧ ln = -1))))
set_option maxRecDepth 16384 in
theorem fi_det {S S1 S2 : yS} {m : aM} {j la x x1 x2 : Nat} {l1 l2 : Int32} (oy : yOK S) (h1 : fiR S m j la x x1 l1 S1) (h2 : fiR S m j la x x2 l2 S2) : x1 = x2 ∧ l1 = l2 ∧ S1 = S2 := by
  have hw := (yOK_good oy).1
  rcases h1 with ⟨a0, rfl, rfl, rfl⟩ | ⟨a0, a1, rfl, rfl, rfl⟩ | ⟨a0, a1, a2⟩ <;> rcases h2 with ⟨b0, rfl, rfl, rfl⟩ | ⟨b0, b1, rfl, rfl, rfl⟩ | ⟨b0, b1, b2⟩
  · exact ⟨rfl, rfl, rfl⟩
  · exact absurd b0 a0
  · exact absurd b0 a0
  · exact absurd a0 b0
  · exact ⟨rfl, rfl, rfl⟩
  · exact absurd a1 b1
  · exact absurd a0 b0
  · exact absurd b1 a1
  · rcases a2 with ⟨c1, rfl, rfl, rfl⟩ | ⟨T, c1, c2⟩ <;> rcases b2 with ⟨d1, rfl, rfl, rfl⟩ | ⟨T', d1, d2⟩
    · exact ⟨rfl, rfl, rfl⟩
    · exact (keepYN hw d1 c1).elim
    · exact (keepYN hw c1 d1).elim
    · have : T = T' := keepY_det c1 d1
      subst this
      rcases c2 with ⟨e1, rfl, rfl, rfl⟩ | ⟨e1, rfl, rfl⟩ <;> rcases d2 with ⟨f1, rfl, rfl, rfl⟩ | ⟨f1, rfl, rfl⟩
      · exact ⟨rfl, rfl, rfl⟩
      · exact (tellYN f1 e1).elim
      · exact (tellYN e1 f1).elim
      · exact ⟨rfl, rfl, tellY_det e1 f1⟩
set_option maxRecDepth 16384 in
theorem fi_ok {S S' : yS} {m : aM} {j la x x' : Nat} {l : Int32} (oy : yOK S) (ok : x = 0 → la ≠ 0 → bOK S m) (hj : j < 8) (hx : x ≤ 5) (h : fiR S m j la x x' l S') : yOK S' ∧ x' ≤ 5 := by
  rcases h with ⟨a0, rfl, rfl, rfl⟩ | ⟨a0, a1, rfl, rfl, rfl⟩ | ⟨a0, a1, a2⟩
  · exact ⟨oy, hx⟩
  · exact ⟨oy, by omega⟩
  · obtain ⟨o1, o2, o3⟩ := ok a0 a1
    have ig := img_im o2
    have il := img_len ig
    rcases a2 with ⟨c1, rfl, rfl, rfl⟩ | ⟨T, c1, c2⟩
    · exact ⟨oy, by omega⟩
    · have kt := keep_ok oy (by omega) (imB_255 o2 (iS m) (Nat.le_refl _)) c1
      rcases c2 with ⟨e1, rfl, rfl, rfl⟩ | ⟨e1, rfl, rfl⟩
      · exact ⟨kt, by omega⟩
      · exact ⟨tell_ok kt hj (keep_img oy c1 ig (fun i hi => by rw [lay_im hi]; exact o3 i hi)) e1, by omega⟩
section CBUILD
variable {sx : Nat × (Nat → Int32)} {h : px_H} {q n la j : Nat} {S : yS} {m : aM} {b f : Nat → Int32} {key : Int64} {B : Nat → Nat} {IM : Nat → aM} {Q : px_O → px_H → Prop}
set_option maxRecDepth 16384 in
theorem bX_0 (w : bX la h q S m b key) : bX 0 h q S m b key := by
  obtain ⟨w1, w2, ⟨P, w3, w4, -⟩, w6⟩ := w
  exact ⟨w1, w2, ⟨P, w3, w4, fun z => absurd rfl z⟩, w6⟩
set_option maxRecDepth 16384 in
theorem c_finish {x : Nat} (hq : q < 2) (hj : j < 8) (bx : bX la h q S m b key) (oy : yOK S) (ok : x = 0 → la ≠ 0 → bOK S m) (hx : x ≤ 5) (hla : la < 1000) (b0 : b 0 = nI x) (b1 : b 1 = if x = 0 then -1 else nI (la - 1)) (b5 : b 5 = if la = 0 then -1 else nI (la - 1)) (hxl : x ≠ 0 → la ≠ 0)
    (hQ : ∀ h' x' ln S' b', fiR S m j la x x' ln S' → bX 0 h' q S' m b' key → b' 0 = nI x' → b' 1 = ln → b' 2 = b 2 → b' 3 = b 3 → frm (blA q) h h' → Q (.inl (some (.int (nI x')))) h') :
    px_Wp sx 140 0 [some (.ref 47), some (.ref (2 + 11 * q)), some (.int (nI j)), none] [] h Q := by
  have w47 := bx.2.2.2.1
  have l47 : 47 < h.2.length := (List.getElem?_eq_some_iff.mp w47).1
  have c47 : ∀ {h' : px_H} {b' : Nat → Int32} {k' : Int64}, h'.2[47]? = some (.inl (10, bdF b' k')) → px_cls h' 47 = some 10 := fun z => by unfold px_cls; rw [z]
  have hc47 := c47 w47
  have n10 : ¬ (1 : Int32) = 0 := by decide
  by_cases x0 : x = 0
  rotate_left
  · have nx : ¬ nI x = 0 := fun z => x0 ((nI_eq (b := 0) (by omega) (by decide)).mp z)
    simp only [pc140_0, pc140_0n, pc140_1, pc140_4, pc140_21, pc140_21n, pc140_22, pc140_25, pc140_104, pc140_104n, pc140_105, pc140_108, px_op_some, px_kv_ap, px_ki_ap, px_kl_ap, px_kn_ap, px_kh_ap, px_op_none, px_K_some, px_K_none, px_K_thr, px_kill, ↓reduceIte, if_true, if_false, true_and, and_true, px_gf, w47, bd_0, b0, nx, not_false_eq_true]
    exact hQ h x (nI (la - 1)) S b (.inl ⟨x0, rfl, rfl, rfl⟩) (bX_0 bx) b0 (by rw [b1, if_neg x0]) rfl rfl (frm_refl _ _)
  subst x0
  have e0 : nI 0 = 0 := rfl
  rw [if_pos rfl] at b1
  by_cases l0 : la = 0
  · rw [if_pos l0] at b5
    have h2w : ∀ z : px_C, (px_wr h 47 z).2[47]? = some z := fun z => by rw [wr_at, if_pos rfl, if_pos l47]
    have z0 : fbF b 1 0 0 = nI 1 := by rw [fb_0, if_neg (by decide)]
    have z0' : ¬ nI 1 = 0 := by decide
    simp only [pc140_0, pc140_0n, pc140_1, pc140_4, pc140_7, pc140_7n, pc140_8, pc140_11, pc140_12, pc140_15, pc140_15n, pc140_16, pc140_17, pc140_18, px_op_some, px_kv_ap, px_ki_ap, px_kl_ap, px_kn_ap, px_kh_ap, px_op_none, px_K_some, px_K_none, px_K_thr, px_kill, ↓reduceIte, if_true, if_false, true_and, and_true, px_gf, w47, bd_0, bd_5, b0, b5, e0, not_true_eq_false, hc47]
    refine c_fail (x := 1) w47 (by decide) ?_
    simp only [px_K_none, pc140_21, pc140_21n, pc140_22, pc140_25, pc140_104, pc140_104n, pc140_105, pc140_108, px_op_some, px_kv_ap, px_ki_ap, px_kl_ap, px_kn_ap, px_kh_ap, px_op_none, px_K_some, px_K_none, px_K_thr, px_kill, ↓reduceIte, if_true, if_false, true_and, and_true, px_gf, h2w, bd_0, z0, z0', not_false_eq_true]
    exact hQ _ 1 0 S _ (.inr (.inl ⟨rfl, l0, rfl, rfl, rfl⟩)) (bX_0 (bX_up bx rfl (fun z => absurd l0 z) hq)) z0 (by rw [fb_1, if_neg (by decide)]) (fb_j (by decide) (by decide)) (fb_j (by decide) (by decide)) (frm_wr (frm_refl _ _) (.inr ⟨by decide, by decide⟩))
  · rw [if_neg l0] at b5
    obtain ⟨o1, o2, o3⟩ := ok rfl l0
    have n5 : ¬ nI (la - 1) = -1 := by rw [nI_nm1 (by omega)]; exact fun z => z
    have bc := bX_C l0 bx
    obtain ⟨hS, cy, ⟨P, hP, im⟩, -, te1, te2⟩ := id bc
    have hl := hS.1
    have hc48 : px_cls h 48 = some 6 := by obtain ⟨-, ⟨L', ⟨z1, -⟩, -⟩, -⟩ := id im; unfold px_cls; rw [z1]
    have il := img_len (img_im o2)
    simp only [pc140_0, pc140_0n, pc140_1, pc140_4, pc140_7, pc140_7n, pc140_8, pc140_11, pc140_12, pc140_21, pc140_21n, pc140_22, pc140_25, pc140_28, pc140_28n, pc140_29, pc140_32, pc140_32n, pc140_33, pc140_36, px_op_some, px_kv_ap, px_ki_ap, px_kl_ap, px_kn_ap, px_kh_ap, px_op_none, px_K_some, px_K_none, px_K_thr, px_kill, ↓reduceIte, if_true, if_false, true_and, and_true, px_gf, w47, bd_0, bd_5, bd_8, bd_9, b0, b5, e0, n5, not_true_eq_false, not_false_eq_true, hc48]
    refine c_write im o2 (at_81 hS) (at_82 hS) (by decide) (.inr (by decide)) (by omega) (fun f' bt => ?_)
    generalize hh1 : rowH h 81 831 (ipos m (iS m)) f' = h1
    have ne1 : ∀ r, r ≠ 81 → r ≠ 82 → h1.2[r]? = h.2[r]? := fun r x y => by rw [← hh1]; exact rowH_at (fun z => x z.symm) (fun z => y z.symm)
    have r81 : rowAt h1 81 831 (ipos m (iS m)) f' := by rw [← hh1]; exact rowAt_rowH (by omega) (by omega) (by decide)
    have hS1 : shape h1 := by rw [← hh1]; exact shape_ky hS
    have fr1 : frm (blA q) h h1 := by rw [← hh1]; exact frm_row (frm_refl _ _) (.inr ⟨by decide, by decide⟩) (.inr ⟨by decide, by decide⟩)
    have w471 : h1.2[47]? = some (.inl (10, bdF b key)) := (ne1 47 (by decide) (by decide)).trans w47
    have r1 := r81.1
    have hc81 : px_cls h1 81 = some 1 := by unfold px_cls; rw [r1]
    have cy1 : CY h1 (2 + 11 * q) S := CY_frm cy (fun r x y => ne1 r (by omega) (by omega))
    have hcY : px_cls h1 (2 + 11 * q) = some 7 := by unfold px_cls; rw [cy1.2.1]
    have bx1 : bX 0 h1 q S m b key := ⟨hS1, cy1, ⟨P, hP, imS_up im.1 (fun r x y => ne1 r (by omega) (by omega)), fun z => absurd rfl z⟩, w471, tre_frm te1 (ne1 88 (by decide) (by decide)), tre_frm te2 (ne1 250 (by decide) (by decide))⟩
    have hf : ∀ k, k < ipos m (iS m) → f' (0 + k) &&& 255 = imB m (iS m) k := fun k hk => by rw [Nat.zero_add]; exact bt k hk
    -- no room
    have noroom : ∀ h2 S2, bX 0 h2 q S2 m b key → frm (blA q) h h2 → fiR S m j la 0 5 (nI (la - 1)) S2 → px_Wp sx 140 85 [some (.ref 47), some (.ref (2 + 11 * q)), some (.int (nI j)), none] [] h2 Q := fun h2 S2 bx2 fr2 fi => by
      have w472 := bx2.2.2.2.1
      have hc472 := c47 w472
      have l472 : 47 < h2.2.length := (List.getElem?_eq_some_iff.mp w472).1
      have h3w : ∀ z : px_C, (px_wr h2 47 z).2[47]? = some z := fun z => by rw [wr_at, if_pos rfl, if_pos l472]
      have z0 : fbF b 5 (nI (la - 1)) 0 = nI 5 := by rw [fb_0, if_neg (by decide)]
      simp only [pc140_85, pc140_86, pc140_87, pc140_87n, pc140_88, pc140_89, pc140_96, pc140_97, pc140_97n, pc140_98, pc140_101, px_op_some, px_kv_ap, px_ki_ap, px_kl_ap, px_kn_ap, px_kh_ap, px_op_none, px_K_some, px_K_none, px_K_thr, px_kill, ↓reduceIte, if_true, if_false, true_and, and_true, px_gf, w472, bd_5, b5, hc472, px_kill]
      refine c_fail (x := 5) w472 (by decide) ?_
      simp only [px_K_none, pc140_104, pc140_104n, pc140_105, pc140_108, px_op_some, px_kv_ap, px_ki_ap, px_kl_ap, px_kn_ap, px_kh_ap, px_op_none, px_K_some, px_K_none, px_K_thr, px_kill, ↓reduceIte, if_true, if_false, true_and, and_true, px_gf, h3w, bd_0, z0]
      exact hQ _ 5 (nI (la - 1)) S2 _ fi (bX_up bx2 rfl (fun z => absurd rfl z) hq) z0 (by rw [fb_1, if_neg (by decide)]) (fb_j (by decide) (by decide)) (fb_j (by decide) (by decide)) (frm_wr fr2 (.inr ⟨by decide, by decide⟩))
    simp only [px_K_none, pc140_39, pc140_39n, pc140_40, pc140_40n, pc140_41, pc140_44, pc140_45, pc140_45n, pc140_46, pc140_49, pc140_52, px_op_some, px_kv_ap, px_ki_ap, px_kl_ap, px_kn_ap, px_kh_ap, px_op_none, px_K_some, px_K_none, px_K_thr, px_kill, ↓reduceIte, if_true, if_false, true_and, and_true, px_gf, w471, bd_9, r1, List.getElem?_cons_zero, List.getElem?_cons_succ, hcY]
    refine cy_keep2 (a := 0) (yOK_good oy).1 cy1 (by omega) r81 (by omega) (by omega) hf (fun S1 h2 k1 cy2 f2 s2 => ?_) (fun kn => ?_)
    rotate_left
    · simp only [px_K_some, pc140_55, if_true]
      exact noroom h1 S bx1 fr1 (.inr (.inr ⟨rfl, l0, .inl ⟨kn, rfl, rfl, rfl⟩⟩))
    have hS2 := s2 hS1
    have ne2 : ∀ r, ¬ cyA (2 + 11 * q) r → h2.2[r]? = h1.2[r]? := f2.2.2
    have fr2 : frm (blA q) h h2 := frm_trans fr1 (frm_mono f2 (fun r hr => by unfold cyA at hr; exact .inl (by omega)))
    have w472 : h2.2[47]? = some (.inl (10, bdF b key)) := (ne2 47 (by unfold cyA; omega)).trans w471
    have r812 : rowAt h2 81 831 (ipos m (iS m)) f' := row_f r81 (ne2 81 (by unfold cyA; omega)) (ne2 82 (by unfold cyA; omega))
    have r2 := r812.1
    have hc812 : px_cls h2 81 = some 1 := by unfold px_cls; rw [r2]
    have hcY2 : px_cls h2 (2 + 11 * q) = some 7 := by unfold px_cls; rw [cy2.2.1]
    have up2 : ∀ {h3 : px_H} {S3 : yS}, shape h3 → CY h3 (2 + 11 * q) S3 → (∀ r, ¬ cyA (2 + 11 * q) r → h3.2[r]? = h1.2[r]?) → bX 0 h3 q S3 m b key := fun hS3 cy3 ne3 => ⟨hS3, cy3, by obtain ⟨P', hP', i', -⟩ := bx1.2.2.1; exact ⟨P', hP', imS_up i' (fun r x y => ne3 r (by unfold cyA; omega)), fun z => absurd rfl z⟩, (ne3 47 (by unfold cyA; omega)).trans w471, tre_frm bx1.2.2.2.2.1 (ne3 88 (by unfold cyA; omega)), tre_frm bx1.2.2.2.2.2 (ne3 250 (by unfold cyA; omega))⟩
    have bx2 : bX 0 h2 q S1 m b key := up2 hS2 cy2 ne2
    simp only [px_K_some, pc140_55, pc140_58, pc140_58n, pc140_59, pc140_60, pc140_60n, pc140_61, pc140_64, pc140_65, pc140_65n, pc140_66, pc140_69, pc140_72, px_op_some, px_kv_ap, px_ki_ap, px_kl_ap, px_kn_ap, px_kh_ap, px_op_none, px_K_some, px_K_none, px_K_thr, px_kill, ↓reduceIte, if_true, if_false, true_and, and_true, px_gf, w472, bd_9, r2, List.getElem?_cons_zero, List.getElem?_cons_succ, ne_1_0, hc812]
    refine c_digest (s := 0) r812 (by omega) hf ?_
    simp only [px_K_some, pc140_75, hcY2, true_and]
    refine cy_tell2 cy2 hj (fun S2 h3 k2 cy3 f3 s3 => ?_) (fun tn => ?_)
    rotate_left
    · simp only [px_K_some, pc140_78, if_true]
      exact noroom h2 S1 bx2 fr2 (.inr (.inr ⟨rfl, l0, .inr ⟨S1, k1, .inl ⟨tn, rfl, rfl, rfl⟩⟩⟩))
    have ne3 : ∀ r, ¬ cyA (2 + 11 * q) r → h3.2[r]? = h1.2[r]? := fun r hr => (f3.2.2 r hr).trans (ne2 r hr)
    have bx3 : bX 0 h3 q S2 m b key := up2 (s3 hS2) cy3 ne3
    have fr3 : frm (blA q) h h3 := frm_trans fr2 (frm_mono f3 (fun r hr => by unfold cyA at hr; exact .inl (by omega)))
    have w473 := bx3.2.2.2.1
    have hc473 := c47 w473
    simp only [px_K_some, pc140_78, pc140_81, pc140_82, pc140_85, pc140_86, pc140_87, pc140_87n, pc140_88, pc140_89, pc140_92, pc140_93, pc140_96, pc140_97, pc140_97n, pc140_98, pc140_101, px_op_some, px_kv_ap, px_ki_ap, px_kl_ap, px_kn_ap, px_kh_ap, px_op_none, px_K_some, px_K_none, px_K_thr, px_kill, ↓reduceIte, if_true, if_false, true_and, and_true, px_gf, w473, bd_5, ne_1_0, hc473, px_kill]
    refine c_fail (x := 0) w473 (by decide) ?_
    have e5 : fbF b 0 (b 5) = b := if_pos rfl
    rw [e5, wr_id w473]
    simp only [px_K_none, pc140_104, pc140_104n, pc140_105, pc140_108, px_op_some, px_kv_ap, px_ki_ap, px_kl_ap, px_kn_ap, px_kh_ap, px_op_none, px_K_some, px_K_none, px_K_thr, px_kill, ↓reduceIte, if_true, if_false, true_and, and_true, px_gf, w473, bd_0, b0]
    exact hQ h3 0 (-1) S2 b (.inr (.inr ⟨rfl, l0, .inr ⟨S1, k1, .inr ⟨k2, rfl, rfl⟩⟩⟩)) bx3 b0 b1 rfl rfl fr3
/-- how the builder stands behind all lines -/
def enS (R : aR) (h : px_H) (q : Nat) (b : Nat → Int32) (key : Int64) : Prop := bX R.2.1 h q R.2.2.1 R.2.2.2.1 b key ∧ yOK R.2.2.1 ∧ (R.1 = 0 → R.2.1 ≠ 0 → bOK R.2.2.1 R.2.2.2.1) ∧ R.1 ≤ 5 ∧ R.2.1 < 1000 ∧ b 0 = nI R.1 ∧ b 1 = (if R.1 = 0 then -1 else nI (R.2.1 - 1)) ∧ b 5 = (if R.2.1 = 0 then -1 else nI (R.2.1 - 1)) ∧ (R.1 ≠ 0 → R.2.1 ≠ 0) ∧ b 2 = nI R.2.2.2.2.1 ∧ b 3 = nI R.2.2.2.2.2
set_option maxRecDepth 16384 in
theorem c_lines (hq : q < 2) (td : tdS S IM) (hB' : ∀ j, j < n → B j < 256) (hn : n ≤ 600) {hb : px_H} (ryb : RY hb q S) (wb : rowAt hb 45 600 n f) (hB : txA f n B) (Sb : yS) (eSb : Sb = S) :
    ∀ d p nr la S1 m b key st hi h l5, n + 1 - p < d → p ≤ n + 1 → nr ≤ p → la ≤ nr → bX la h q S1 m b key → yOK S1 → (la = 0 ∨ bOK S1 m) → (la = 0 → S1 = Sb) → b 0 = 0 → b 1 = -1 → b 4 + 1 = nI nr → b 5 = (if la = 0 then -1 else nI (la - 1)) → b 2 = nI st → b 3 = nI hi → frm (blA q) hb h →
      (∀ R h' b' key' p' l5', bdR IM B n d p nr la S1 m st hi R → enS R h' q b' key' → frm (blA q) hb h' → px_Wp sx 3 98 [some (.ref 0), some (.int (nI q)), some (.int (nI j)), some (.ref (2 + 11 * q)), some (.int (nI p')), l5'] [] h' Q) →
      px_Wp sx 3 20 [some (.ref 0), some (.int (nI q)), some (.int (nI j)), some (.ref (2 + 11 * q)), some (.int (nI p)), l5] [] h Q := by
  subst eSb
  intro d
  induction d with
  | zero => intro p nr la S1 m b key st hi h l5 hd; omega
  | succ d ih =>
    intro p nr la S1 m b key st hi h l5 hd pn nrp lan bx oy ok eS b0 b1 b4 b5 b2 b3 fr hQ
    have hS := bx.1
    have w47 := bx.2.2.2.1
    have w : rowAt h 45 600 n f := row_f wb (fr.2.2 45 (by unfold blA; omega)) (fr.2.2 46 (by unfold blA; omega))
    have w1 := w.1
    have a0 := at_0 hS
    unfold iyaF at a0
    have hc45 : px_cls h 45 = some 1 := by unfold px_cls; rw [w1]
    have hc47 : px_cls h 47 = some 10 := by unfold px_cls; rw [w47]
    by_cases big : n ≤ p
    · have le : nI n ≤ nI p := nI_le big (by omega)
      simp only [pc3_20, pc3_22, pc3_22n, pc3_23, pc3_26, pc3_29, px_op_some, px_kv_ap, px_ki_ap, px_kl_ap, px_kn_ap, px_kh_ap, px_op_none, px_K_some, px_K_none, px_K_thr, px_kill, ↓reduceIte, if_true, if_false, true_and, and_true, px_gf, a0, w1, List.getElem?_cons_zero, List.getElem?_cons_succ, le]
      exact hQ (0, la, S1, m, st, hi) h b key p l5 (.inl ⟨big, rfl⟩) ⟨bx, oy, fun _ z => ok.resolve_left z, Nat.zero_le _, by show la < 1000; omega, b0, b1, b5, fun z => absurd rfl z, b2, b3⟩ fr
    have ge : ¬ nI n ≤ nI p := nI_ge (by omega) (by omega)
    have rg := fnd_rng (B := B) (c := 10) (n - p) p
    rw [pc3_20]
    simp only [pc3_22, pc3_22n, pc3_23, pc3_26, pc3_29, pc3_32, pc3_32n, pc3_33, pc3_36, pc3_39, pc3_42, pc3_42n, pc3_43, pc3_46, pc3_48, pc3_50, pc3_50n, pc3_51, pc3_54, pc3_57, px_op_some, px_kv_ap, px_ki_ap, px_kl_ap, px_kn_ap, px_kh_ap, px_op_none, px_K_some, px_K_none, px_K_thr, px_kill, ↓reduceIte, if_true, if_false, true_and, and_true, px_gf, a0, w1, w47, bd_0, b0, List.getElem?_cons_zero, List.getElem?_cons_succ, ge, not_true_eq_false, hc45]
    refine c_rfind (c := 10) w hB (by decide) (by omega) (Nat.le_refl _) ?_
    simp only [px_K_some, pc3_60, pc3_62, pc3_62n, pc3_63, pc3_66, pc3_66n, pc3_67, pc3_67n, pc3_68, pc3_71, pc3_73, pc3_75, px_op_some, px_kv_ap, px_ki_ap, px_kl_ap, px_kn_ap, px_kh_ap, px_op_none, px_K_some, px_K_none, px_K_thr, px_kill, ↓reduceIte, if_true, if_false, true_and, and_true, px_gf, a0, List.getElem?_cons_zero, List.getElem?_cons_succ, hc47, px_kill]
    by_cases em : fnd B 10 p (n - p) = p
    · -- an empty line
      rw [em]
      refine c_readEmpty hq bx (fun z => (ok.resolve_left z).2.1) (Nat.le_refl _) (by omega) (fun h1 bx1 fr1 => ?_)
      simp only [px_K_some, pc3_78, pc3_89, pc3_91, pc3_92, pc3_93, pc3_95, if_true, nI_p1, px_kill]
      refine ih (p + 1) (nr + 1) la S1 m _ key st hi h1 _ (by omega) (by omega) (by omega) (by omega) bx1 oy ok eS ?_ ?_ ?_ ?_ ?_ ?_ (frm_trans fr fr1) (fun R h' b' key' p' l5' bd en f' => hQ R h' b' key' p' l5' (.inr ⟨by omega, .inl ⟨em, bd⟩⟩) en f')
      · rw [up_ne (by decide)]; exact b0
      · rw [up_ne (by decide)]; exact b1
      · rw [up_same, b4, nI_p1]
      · rw [up_ne (by decide)]; exact b5
      · rw [up_ne (by decide)]; exact b2
      · rw [up_ne (by decide)]; exact b3
    · have lt : p < fnd B 10 p (n - p) := by omega
      have b5' : la = 0 ↔ b 5 = -1 := by
        rw [b5]
        constructor
        · intro z; rw [if_pos z]
        · intro z
          by_cases y : la = 0
          · exact y
          · rw [if_neg y, nI_nm1 (by omega)] at z; exact z.elim
      -- behind the line
      have behind : ∀ h1 x S2 m2 a c b' key', liR IM B la S1 m p (fnd B 10 p (n - p)) x S2 m2 a c → bC h1 q S2 m2 b' key' → b' 0 = nI x → b' 1 = (if x = 0 then -1 else nI nr) → b' 2 = nI (st + a) → b' 3 = nI (hi + c) → b' 4 = nI nr → b' 5 = nI nr → frm (blA q) hb h1 → px_Wp sx 3 89 [some (.ref 0), some (.int (nI q)), some (.int (nI j)), some (.ref (2 + 11 * q)), some (.int (nI p)), some (.int (nI (fnd B 10 p (n - p))))] [] h1 Q := fun h1 x S2 m2 a c b' key' li bc e0 e1 e2 e3 e4 e5 f1 => by
        have lo := li_ok oy ok (fun z => by rw [eS z]; exact td) hB' (by omega) li
        by_cases x0 : x = 0
        · subst x0
          rw [if_pos rfl] at e1
          simp only [pc3_89, pc3_91, pc3_92, pc3_93, pc3_95, nI_p1, px_kill]
          refine ih (fnd B 10 p (n - p) + 1) (nr + 1) (nr + 1) S2 m2 b' key' (st + a) (hi + c) h1 _ (by omega) (by omega) (by omega) (Nat.le_refl _) (C_bX bc) lo.1 (.inr (lo.2.1 rfl)) (fun z => absurd z (Nat.succ_ne_zero _)) e0 e1 ?_ ?_ e2 e3 f1 (fun R h' b'' key'' p' l5' bd en f' => hQ R h' b'' key'' p' l5' (.inr ⟨by omega, .inr ⟨lt, 0, S2, m2, a, c, li, .inl ⟨rfl, bd⟩⟩⟩) en f')
          · rw [e4, nI_p1]
          · rw [if_neg (Nat.succ_ne_zero _), Nat.add_sub_cancel]; exact e5
        · rw [if_neg x0] at e1
          have w471 := bc.2.2.2.1
          have hS1 := bc.1
          have a01 := at_0 hS1
          unfold iyaF at a01
          have w11 : h1.2[45]? = some (.inl (1, [.ref 46, .int (nI n)])) := (f1.2.2 45 (by unfold blA; omega)).trans wb.1
          have nx : ¬ nI x = 0 := fun z => x0 ((nI_eq (b := 0) (by have := lo.2.2.1; omega) (by decide)).mp z)
          have fin := hQ (x, nr + 1, S2, m2, st + a, hi + c) h1 b' key' (fnd B 10 p (n - p) + 1) (some (.int (nI (fnd B 10 p (n - p))))) (.inr ⟨by omega, .inr ⟨lt, x, S2, m2, a, c, li, .inr ⟨x0, rfl⟩⟩⟩) ⟨C_bX bc, lo.1, fun z => absurd z x0, lo.2.2.1, by show nr + 1 < 1000; omega, e0, by show b' 1 = if x = 0 then -1 else nI (nr + 1 - 1); rw [if_neg x0, Nat.add_sub_cancel]; exact e1, by show b' 5 = if nr + 1 = 0 then -1 else nI (nr + 1 - 1); rw [if_neg (Nat.succ_ne_zero _), Nat.add_sub_cancel]; exact e5, fun _ => Nat.succ_ne_zero _, e2, e3⟩ f1
          by_cases en : n ≤ fnd B 10 p (n - p) + 1
          · have le : nI n ≤ nI (fnd B 10 p (n - p) + 1) := nI_le en (by omega)
            simp only [pc3_89, pc3_91, pc3_92, pc3_93, pc3_95, pc3_20, pc3_22, pc3_22n, pc3_23, pc3_26, pc3_29, px_op_some, px_kv_ap, px_ki_ap, px_kl_ap, px_kn_ap, px_kh_ap, px_op_none, px_K_some, px_K_none, px_K_thr, px_kill, ↓reduceIte, if_true, if_false, true_and, and_true, px_gf, a01, w11, List.getElem?_cons_zero, List.getElem?_cons_succ, le, nI_p1, px_kill]
            exact fin
          · have le : ¬ nI n ≤ nI (fnd B 10 p (n - p) + 1) := nI_ge (by omega) (by omega)
            simp only [pc3_89, pc3_91, pc3_92, pc3_93, pc3_95, pc3_20, pc3_22, pc3_22n, pc3_23, pc3_26, pc3_29, pc3_32, pc3_32n, pc3_33, pc3_36, pc3_39, px_op_some, px_kv_ap, px_ki_ap, px_kl_ap, px_kn_ap, px_kh_ap, px_op_none, px_K_some, px_K_none, px_K_thr, px_kill, ↓reduceIte, if_true, if_false, true_and, and_true, px_gf, a01, w11, w471, bd_0, e0, nx, List.getElem?_cons_zero, List.getElem?_cons_succ, le, not_false_eq_true, nI_p1, px_kill]
            exact fin
      refine c_readLine hq bx oy ok (fun z => by rw [eS z]; exact td) (fun z => by rw [eS z]; exact RY_frm ryb (fun r x y => fr.2.2 r (by unfold blA; omega))) w hB lt (by omega) b0 b5' (fun h1 x m2 b' key' li bc rb f1 => ?_) (fun h1 cp b' fl l0 rc hh bc row tx b6 rb f1 => ?_)
      · simp only [px_K_some, pc3_78, if_true]
        obtain ⟨r0, r1, r2, r3, r4, r5⟩ := rb
        refine behind h1 x S1 m2 0 0 b' key' li bc r0 ?_ (by rw [r2]; exact b2) (by rw [r3]; exact b3) (by rw [r4]; exact b4) (by rw [r5]; exact b4) (frm_trans fr f1)
        rw [r1, b1, b4]
      · have bo := ok.resolve_left l0
        obtain ⟨r0, r1, r2, r3, r4, r5⟩ := rb
        rw [if_pos rfl] at r1
        have a01 := at_0 bc.1
        unfold iyaF at a01
        have hc471 : px_cls h1 47 = some 10 := by unfold px_cls; rw [bc.2.2.2.1]
        simp only [px_K_some, pc3_78, pc3_81, pc3_81n, pc3_82, pc3_85, pc3_85n, pc3_86, px_op_some, px_kv_ap, px_ki_ap, px_kl_ap, px_kn_ap, px_kh_ap, px_op_none, px_K_some, px_K_none, px_K_thr, px_kill, ↓reduceIte, if_true, if_false, true_and, and_true, px_gf, a01, List.getElem?_cons_zero, List.getElem?_cons_succ, ne_1_0, hc471]
        refine c_doStep (L := fil B m p (fnd B 10 p (n - p))) (cp := cp) hq bc bo hh.2 row tx b6 r0 (fun h2 x S2 m2 hit b'' bs bc2 sb f2 => ?_)
        rw [px_K_none]
        obtain ⟨s0, s1, s2, s3, s4, s5⟩ := sb
        refine behind h2 x S2 m2 (if x = 0 then 1 else 0) hit b'' _ (.inr ⟨l0, .inr (.inr ⟨cp, rc, .inr ⟨hh, bs, rfl⟩⟩)⟩) bc2 s0 ?_ ?_ (by rw [s3, r3, b3, nI_add]) (by rw [s4, r4]; exact b4) (by rw [s5, r5]; exact b4) (frm_trans (frm_trans fr f1) f2)
        · rw [s1, r1, r4, b1, b4]
        · rw [s2, r2, b2]
          by_cases x0 : x = 0
          · rw [if_pos x0, if_pos x0, nI_p1]
          · rw [if_neg x0, if_neg x0]; exact Int32.add_zero _
end CBUILD
