/-! A STEP OF A BUILD, the class's -/
/-- the builder's numbers behind a step -/
def stB (b b' : Nat → Int32) (x hit : Nat) : Prop := b' 0 = nI x ∧ b' 1 = (if x = 0 then b 1 else b 4) ∧ b' 2 = b 2 + (if x = 0 then 1 else 0) ∧ b' 3 = b 3 + nI hit ∧ b' 4 = b 4 ∧ b' 5 = b 5
section DOST
variable {sx : Nat × (Nat → Int32)} {h : px_H} {q : Nat} {S : yS} {m : aM} {b fl : Nat → Int32} {key : Int64} {L : Nat × (Nat → Nat)} {cp : Bool} {Q : px_O → px_H → Prop}
set_option maxRecDepth 16384 in
theorem fb_0 {x : Nat} {y : Int32} : fbF b x y 0 = if x = 0 then b 0 else nI x := by
  unfold fbF
  by_cases e : x = 0
  · rw [if_pos e, if_pos e]
  · rw [if_neg e, if_neg e, up_ne (by decide), up_same]
set_option maxRecDepth 16384 in
theorem fb_1 {x : Nat} {y : Int32} : fbF b x y 1 = if x = 0 then b 1 else y := by
  unfold fbF
  by_cases e : x = 0
  · rw [if_pos e, if_pos e]
  · rw [if_neg e, if_neg e, up_same]
set_option maxRecDepth 16384 in
theorem fb_j {x j : Nat} {y : Int32} (h0 : j ≠ 0) (h1 : j ≠ 1) : fbF b x y j = b j := by
  unfold fbF
  by_cases e : x = 0
  · rw [if_pos e]
  · rw [if_neg e, up_ne h1, up_ne h0]
set_option maxRecDepth 16384 in
theorem c_doStep (hq : q < 2) (bc : bC h q S m b key) (ok : bOK S m) (h12 : iL m < 12) (row : rowAt h 83 200 L.1 fl) (tx : txA fl L.1 L.2) (hrun : b 6 = if cp = true then 0 else 1) (b0 : b 0 = 0)
    (hQ : ∀ h' x S' m' hit b', bsR S m key L cp x S' m' hit → bC h' q S' m' b' key → stB b b' x hit → frm (blA q) h h' → Q (.inl none) h') :
    px_Wp sx 138 0 [some (.ref 47), some (.ref (2 + 11 * q)), none] [] h Q := by
  have bc' := bc
  obtain ⟨hS, cy, ⟨P, hP, im⟩, w47, te87, te249⟩ := bc'
  obtain ⟨o1, o2, o3⟩ := id ok
  have hl := hS.1
  have g := yOK_good o1
  have hw := g.1
  have n200 := row.2.2.1
  have hB : ∀ j, j < L.1 → L.2 j < 256 := fun j hj => (tx j hj).2
  have cy' := cy
  obtain ⟨-, y0, ⟨D, d1, d2⟩, -, -, -, ⟨ky, k1, k2⟩, ⟨kl, l1, l2⟩, -, -⟩ := cy'
  have hcY : px_cls h (2 + 11 * q) = some 7 := by unfold px_cls; rw [y0]
  have hc48 : px_cls h 48 = some 6 := by obtain ⟨-, ⟨L', ⟨z1, -⟩, -⟩, -⟩ := id im; unfold px_cls; rw [z1]
  have y0' := y0
  unfold yrdF at y0'
  have hc47 : px_cls h 47 = some 10 := by unfold px_cls; rw [w47]
  -- the step is done
  have go : (∀ v, ¬ knw S key v) → ∀ l2, px_Wp sx 138 62 [some (.ref 47), some (.ref (2 + 11 * q)), l2] [] h Q := fun nk l2 => by
    have hc11 : px_cls h 411 = some 4 := by unfold px_cls; rw [at_411 hS]
    obtain ⟨-, ⟨L', imo, hL'⟩, -⟩ := id im
    simp only [pc138_62, pc138_62n, pc138_63, pc138_66, pc138_66n, pc138_67, pc138_67n, pc138_68, pc138_71, pc138_71n, pc138_72, pc138_75, px_op_some, px_kv_ap, px_ki_ap, px_kl_ap, px_kn_ap, px_kh_ap, px_op_none, px_K_some, px_K_none, px_K_thr, px_kill, ↓reduceIte, if_true, if_false, true_and, and_true, px_gf, w47, bd_8, bd_12, bd_14, hc11]
    refine c_grow hw cy (by omega) entT_412 (at_411 hS) (ent_it hS entT_412 (by decide)) treT_87 (trP_of hS treT_87 te87 (by decide)) (by omega) (by decide) (by decide) imo (by unfold clA trA; omega) o2.1 (fun i hi => by rw [hL' i hi]; exact o3 i hi) (fun t h1 gr cs => ?_)
    have gr : grw S (iL m) (iD m) t := grw_congr hL' gr
    obtain ⟨t87, tok, -, fr1, s1⟩ := cs
    have hS1 := s1 hS
    have ne1 : ∀ r, ¬ clA 87 411 r → h1.2[r]? = h.2[r]? := fr1.2.2
    have w471 : h1.2[47]? = some (.inl (10, bdF b key)) := (ne1 47 (by unfold clA trA; omega)).trans w47
    have hc471 : px_cls h1 47 = some 10 := by unfold px_cls; rw [w471]
    have fb1 : frm (blA q) h h1 := frm_mono fr1 (fun r hr => .inr (by unfold clA trA at hr; omega))
    have b1 : bC h1 q S m b key := ⟨hS1, CY_frm cy (fun r x y => ne1 r (by unfold clA trA; omega)), ⟨P, hP, imC_frm im (fun r hr => ne1 r (by unfold imA at hr; unfold clA trA; omega)) o2⟩, w471, tre_of t87, tre_frm te249 (ne1 250 (by unfold clA trA; omega))⟩
    have hc87 : px_cls h1 87 = some 3 := by unfold px_cls; rw [t87.1]
    simp only [px_K_none, pc138_78, pc138_78n, pc138_79, pc138_82, px_op_some, px_kv_ap, px_ki_ap, px_kl_ap, px_kn_ap, px_kh_ap, px_op_none, px_K_some, px_K_none, px_K_thr, px_kill, ↓reduceIte, if_true, if_false, true_and, and_true, px_gf, w471, bd_12, hc87]
    refine c_tooGreat t87 tok.1 (fun i hi z => by rcases (tok.2.1 i hi).2 with y | y <;> omega) (fun i hi => by have := eN_le (tok.2.1 i hi); omega) (fun x hx => ?_)
    rcases hx with ⟨rfl, tb⟩ | ⟨rfl, tb⟩
    · simp only [px_K_some, pc138_85, pc138_88, pc138_88n, pc138_89, pc138_90, pc138_90n, pc138_91, pc138_94, px_op_some, px_kv_ap, px_ki_ap, px_kl_ap, px_kn_ap, px_kh_ap, px_op_none, px_K_some, px_K_none, px_K_thr, px_kill, ↓reduceIte, if_true, if_false, true_and, and_true, px_gf, w471, bd_4, ne_1_0, hc471]
      refine c_fail (x := 4) w471 (by decide) ?_
      simp only [px_K_none, pc138_97]
      exact hQ _ 4 S m 0 _ (.inr ⟨nk, rfl, t, gr, .inl ⟨tb, rfl, rfl, rfl⟩⟩) (bC_up b1 rfl o2 hq) ⟨by rw [fb_0, if_neg (by decide)], fb_1, by rw [fb_j (by decide) (by decide)]; exact (Int32.add_zero _).symm, by rw [fb_j (by decide) (by decide)]; exact (Int32.add_zero _).symm, fb_j (by decide) (by decide), fb_j (by decide) (by decide)⟩ (frm_wr fb1 (.inr ⟨by decide, by decide⟩))
    have sh := grw_sh gr tb
    have hby := grw_by gr
    have hc249 : px_cls h1 249 = some 3 := by unfold px_cls; rw [at_249 hS1]
    simp only [px_K_some, pc138_85, pc138_98, pc138_98n, pc138_99, pc138_102, pc138_102n, pc138_103, pc138_106, px_op_some, px_kv_ap, px_ki_ap, px_kl_ap, px_kn_ap, px_kh_ap, px_op_none, px_K_some, px_K_none, px_K_thr, px_kill, ↓reduceIte, if_true, if_false, true_and, and_true, px_gf, w471, bd_12, bd_13, hc249]
    refine c_treeCopy treT_249 (.inl (by decide)) (by decide) t87 (trP_of hS1 treT_249 b1.2.2.2.2.2 (by decide)) (fun i hi => (tok.2.1 i hi).1) tok.1 (fun h2 t249 fr2 s2 => ?_)
    have hS2 := s2 hS1
    have ne2 : ∀ r, ¬ trA 249 r → h2.2[r]? = h1.2[r]? := fr2.2.2
    have w472 : h2.2[47]? = some (.inl (10, bdF b key)) := (ne2 47 (by unfold trA; omega)).trans w471
    have fb2 : frm (blA q) h h2 := frm_trans fb1 (frm_mono fr2 (fun r hr => .inr (by unfold trA at hr; omega)))
    have t872 : trR h2 87 t.1 t.2 := tr_frm t87 tok.1 (fun r hr => ne2 r (by unfold trA at hr ⊢; omega)) (fun r hr => by unfold srcOK at hr; exact ⟨ne2 r (by unfold trA; omega), ne2 (r + 1) (by unfold trA; omega)⟩)
    have b2 : bC h2 q S m b key := ⟨hS2, CY_frm b1.2.1 (fun r x y => ne2 r (by unfold trA; omega)), ⟨P, hP, imC_frm (imC_frm im (fun r hr => ne1 r (by unfold imA at hr; unfold clA trA; omega)) o2) (fun r hr => ne2 r (by unfold imA at hr; unfold trA; omega)) o2⟩, w472, tre_of t872, tre_of (trS_R t249)⟩
    have row2 : rowAt h2 83 200 L.1 fl := row_f row ((ne2 83 (by unfold trA; omega)).trans (ne1 83 (by unfold clA trA; omega))) ((ne2 84 (by unfold trA; omega)).trans (ne1 84 (by unfold clA trA; omega)))
    have hc14 : px_cls h2 414 = some 9 := by unfold px_cls; rw [at_414 hS2]
    -- behind the line
    have keep87 : ∀ h3, ((lnF cp L t).1 = 0 → trR h3 249 (lnF cp L t).2.1 (lnF cp L t).2.2) → frm cdA h2 h3 → trR h3 87 t.1 t.2 := fun h3 _ fr3 => by
      obtain ⟨t1, t2, ra, t3, t4, t5⟩ := t872
      have ne3 : ∀ r, r < 249 → h3.2[r]? = h2.2[r]? := fun r hr => fr3.2.2 r (by unfold cdA tpA trA; omega)
      refine ⟨(ne3 _ (by decide)).trans t1, fun k hk => itC_frm (t2 k hk) (ne3 _ (by omega)) (ne3 _ (by omega)), ra, (ne3 _ (by decide)).trans t3, t4, fun i hi => ?_⟩
      obtain ⟨O, o1, src, st, cn, gg, z1, z2, z3, z4⟩ := t5 i hi
      obtain ⟨k, k1, k2⟩ := prm_at t4 (show i < 80 by have := tok.1; omega)
      rw [o1] at k2
      have := Option.some.inj k2
      refine ⟨O, o1, src, st, cn, gg, (ne3 _ (by omega)).trans z1, (ne3 _ (by omega)).trans z2, z3, ?_⟩
      rcases z4 with z4 | ⟨d1, r, s, N, n, f, d2, d3, d4, d5, d6, d7⟩
      · exact .inl z4
      · have d2' : r + 1 < 85 := by
          rcases d2 with d2 | ⟨-, d2, -⟩
          · exact d2
          · omega
        exact .inr ⟨d1, r, s, N, n, f, d2, d3, d4, d5, row_f d6 (ne3 _ (by omega)) (ne3 _ (by omega)), d7⟩
    have fin : ∀ h3, tre h3 249 → ((lnF cp L t).1 = 0 → trR h3 249 (lnF cp L t).2.1 (lnF cp L t).2.2) → frm cdA h2 h3 → shape h3 → px_Wp sx 138 150 [some (.ref 47), some (.ref (2 + 11 * q)), l2] [.int (nI (lnF cp L t).1), .ref 47] h3 Q := fun h3 te3 q3 fr3 hS3 => by
      have l4 := ln_4 (cp := cp) (L := L) (t := t)
      have t873 := keep87 h3 q3 fr3
      have ne3 : ∀ r, ¬ cdA r → h3.2[r]? = h2.2[r]? := fr3.2.2
      have w473 : h3.2[47]? = some (.inl (10, bdF b key)) := (ne3 47 (by unfold cdA tpA trA; omega)).trans w472
      have hc473 : px_cls h3 47 = some 10 := by unfold px_cls; rw [w473]
      have fb3 : frm (blA q) h h3 := frm_trans fb2 (frm_mono fr3 (fun r hr => .inr (by unfold cdA tpA trA at hr; omega)))
      have b3 : bC h3 q S m b key := ⟨hS3, CY_frm b2.2.1 (fun r x y => ne3 r (by unfold cdA tpA trA; omega)), by obtain ⟨P', hP', im'⟩ := b2.2.2.1; exact ⟨P', hP', imC_frm im' (fun r hr => ne3 r (by unfold imA at hr; unfold cdA tpA trA; omega)) o2⟩, w473, tre_frm b2.2.2.2.2.1 (ne3 88 (by unfold cdA tpA trA; omega)), te3⟩
      simp only [pc138_150, pc138_150n, pc138_151, pc138_154, px_op_some, px_kv_ap, px_ki_ap, px_kl_ap, px_kn_ap, px_kh_ap, px_op_none, px_K_some, px_K_none, px_K_thr, px_kill, ↓reduceIte, if_true, if_false, true_and, and_true, px_gf, w473, bd_4, hc473]
      refine c_fail (x := (lnF cp L t).1) w473 (by omega) ?_
      have l47 : 47 < h3.2.length := (List.getElem?_eq_some_iff.mp w473).1
      generalize hh4 : px_wr h3 47 (.inl (10, bdF (fbF b (lnF cp L t).1 (b 4)) key)) = h4
      have w474 : h4.2[47]? = some (.inl (10, bdF (fbF b (lnF cp L t).1 (b 4)) key)) := by rw [← hh4, wr_at, if_pos rfl, if_pos l47]
      have b4 : bC h4 q S m (fbF b (lnF cp L t).1 (b 4)) key := bC_up b3 hh4.symm o2 hq
      have fb4 : frm (blA q) h h4 := by rw [← hh4]; exact frm_wr fb3 (.inr ⟨by decide, by decide⟩)
      by_cases x0 : (lnF cp L t).1 = 0
      · have e0 : fbF b (lnF cp L t).1 (b 4) = b := if_pos x0
        rw [e0] at w474 b4
        have hc474 : px_cls h4 47 = some 10 := by unfold px_cls; rw [w474]
        have hh : h4 = h3 := by rw [← hh4, e0, wr_id w473]
        have t249' : trR h4 249 (lnF cp L t).2.1 (lnF cp L t).2.2 := by rw [hh]; exact q3 x0
        have t87' : trR h4 87 t.1 t.2 := by
          rw [hh]
          exact t873
        have lo := ln_ok (cp := cp) n200 hB sh hby x0
        have nb0 : ¬ ¬ b 0 = 0 := fun z => z b0
        simp only [px_K_none, pc138_157, pc138_157n, pc138_158, pc138_161, pc138_164, pc138_164n, pc138_165, pc138_165n, pc138_166, pc138_166n, pc138_167, px_op_some, px_kv_ap, px_ki_ap, px_kl_ap, px_kn_ap, px_kh_ap, px_op_none, px_K_some, px_K_none, px_K_thr, px_kill, ↓reduceIte, if_true, if_false, true_and, and_true, px_gf, w474, bd_0, b0, not_true_eq_false, hc474]
        refine c_keepLayer hq b4 ok h12 t87' t249' sh lo.1 lo.2 (fun h5 x S' m' kr x5 b5 fr5 => ?_)
        have w475 := b5.2.2.2.1
        have hc475 : px_cls h5 47 = some 10 := by unfold px_cls; rw [w475]
        have fb5 := frm_trans fb4 fr5
        by_cases xx : x = 0
        · subst xx
          rw [if_pos rfl] at w475 b5
          have b44 : px_up b 2 (b 2 + 1) 4 = b 4 := up_ne (by decide)
          simp only [px_K_some, pc138_170, pc138_170n, pc138_171, pc138_174, px_op_some, px_kv_ap, px_ki_ap, px_kl_ap, px_kn_ap, px_kh_ap, px_op_none, px_K_some, px_K_none, px_K_thr, px_kill, ↓reduceIte, if_true, if_false, true_and, and_true, px_gf, w475, bd_4, hc475]
          refine c_fail (x := 0) w475 (by decide) ?_
          have e5 : fbF (px_up b 2 (b 2 + 1)) 0 (px_up b 2 (b 2 + 1) 4) = px_up b 2 (b 2 + 1) := if_pos rfl
          rw [e5, wr_id w475]
          simp only [px_K_none, pc138_177]
          exact hQ h5 0 S' m' 0 _ (.inr ⟨nk, rfl, t, gr, .inr ⟨tb, .inr ⟨x0, kr⟩⟩⟩) b5 ⟨by rw [up_ne (by decide)]; exact b0, by rw [up_ne (by decide), if_pos rfl], by rw [up_same, if_pos rfl], by rw [up_ne (by decide)]; exact (Int32.add_zero _).symm, b44, up_ne (by decide)⟩ fb5
        · rw [if_neg xx] at w475 b5
          simp only [px_K_some, pc138_170, pc138_170n, pc138_171, pc138_174, px_op_some, px_kv_ap, px_ki_ap, px_kl_ap, px_kn_ap, px_kh_ap, px_op_none, px_K_some, px_K_none, px_K_thr, px_kill, ↓reduceIte, if_true, if_false, true_and, and_true, px_gf, w475, bd_4, hc475]
          refine c_fail w475 x5 ?_
          simp only [px_K_none, pc138_177]
          have m5 : imOK m' := by
            rcases kr with ⟨-, -, -, e⟩ | ⟨T, -, ⟨-, -, -, e⟩ | ⟨-, e, -⟩⟩
            · rw [e]; exact o2
            · rw [e]; exact o2
            · exact absurd e xx
          exact hQ _ x S' m' 0 _ (.inr ⟨nk, rfl, t, gr, .inr ⟨tb, .inr ⟨x0, kr⟩⟩⟩) (bC_up b5 rfl m5 hq) ⟨by rw [fb_0, if_neg xx], by rw [fb_1], by rw [fb_j (by decide) (by decide), if_neg xx]; exact (Int32.add_zero _).symm, by rw [fb_j (by decide) (by decide)]; exact (Int32.add_zero _).symm, fb_j (by decide) (by decide), fb_j (by decide) (by decide)⟩ (frm_wr fb5 (.inr ⟨by decide, by decide⟩))
      · have n0 : ¬ fbF b (lnF cp L t).1 (b 4) 0 = 0 := fun z => by
          rw [fb_0, if_neg x0] at z
          exact x0 ((nI_eq (b := 0) (by omega) (by decide)).mp z)
        simp only [px_K_none, pc138_157, pc138_157n, pc138_158, pc138_161, pc138_177, px_op_some, px_kv_ap, px_ki_ap, px_kl_ap, px_kn_ap, px_kh_ap, px_op_none, px_K_some, px_K_none, px_K_thr, px_kill, ↓reduceIte, if_true, if_false, true_and, and_true, px_gf, w474, bd_0, n0, not_false_eq_true]
        exact hQ h4 (lnF cp L t).1 S m 0 _ (.inr ⟨nk, rfl, t, gr, .inr ⟨tb, .inl ⟨x0, rfl, rfl, rfl⟩⟩⟩) b4 ⟨by rw [fb_0, if_neg x0], by rw [fb_1], by rw [fb_j (by decide) (by decide), if_neg x0]; exact (Int32.add_zero _).symm, by rw [fb_j (by decide) (by decide)]; exact (Int32.add_zero _).symm, fb_j (by decide) (by decide), fb_j (by decide) (by decide)⟩ fb4
    by_cases c : cp = true
    · rw [if_pos c] at hrun
      have eL : lnF cp L t = copF L.2 L.1 t := if_pos c
      simp only [px_K_none, pc138_109, pc138_109n, pc138_110, pc138_110n, pc138_111, pc138_114, pc138_135, pc138_135n, pc138_136, pc138_139, pc138_139n, pc138_140, pc138_143, pc138_143n, pc138_144, pc138_147, px_op_some, px_kv_ap, px_ki_ap, px_kl_ap, px_kn_ap, px_kh_ap, px_op_none, px_K_some, px_K_none, px_K_thr, px_kill, ↓reduceIte, if_true, if_false, true_and, and_true, px_gf, w472, bd_6, bd_10, bd_13, bd_15, hrun, hc14]
      refine c_copyLine (t := t) hS2 row2 tx (trS_R t249) sh (fun h3 te3 q3 fr3 hS3 => ?_)
      rw [px_K_some]
      rw [← eL] at q3 ⊢
      exact fin h3 te3 q3 fr3 hS3
    · rw [if_neg c] at hrun
      have eL : lnF cp L t = runF L.2 L.1 t := if_neg c
      simp only [px_K_none, pc138_109, pc138_109n, pc138_110, pc138_110n, pc138_111, pc138_114, pc138_117, pc138_117n, pc138_118, pc138_121, pc138_121n, pc138_122, pc138_125, pc138_125n, pc138_126, pc138_129, px_op_some, px_kv_ap, px_ki_ap, px_kl_ap, px_kn_ap, px_kh_ap, px_op_none, px_K_some, px_K_none, px_K_thr, px_kill, ↓reduceIte, if_true, if_false, true_and, and_true, px_gf, w472, bd_6, bd_10, bd_13, bd_15, hrun, ne_1_0, hc14]
      refine c_runLine (t := t) hS2 row2 tx t249 sh (fun h3 te3 q3 fr3 hS3 => ?_)
      simp only [px_K_some, pc138_132]
      rw [← eL] at q3 ⊢
      exact fin h3 te3 q3 fr3 hS3
  simp only [pc138_0, pc138_0n, pc138_1, pc138_1n, pc138_2, pc138_5, px_op_some, px_kv_ap, px_ki_ap, px_kl_ap, px_kn_ap, px_kh_ap, px_op_none, px_K_some, px_K_none, px_K_thr, px_kill, ↓reduceIte, if_true, if_false, true_and, and_true, px_gf, w47, bd_7, hcY]
  refine c_findKey hw.2.2.2.1 y0 k1 (fun v hv => ?_)
  rcases hv with ⟨rfl, no⟩ | ⟨k, kk, rfl, ke, -⟩
  · simp only [px_K_some, pc138_8, pc138_9, pc138_10, pc138_11, if_true, px_kill]
    refine go (fun v z => ?_) _
    obtain ⟨k, z1, z2, -⟩ := z
    exact no k z1 (by show ky k = key; rw [k2 k z1]; exact z2)
  · have nm : ¬ nI k = -1 := by rw [nI_nm1 (by have := hw.2.2.2.1; omega)]; exact fun z => z
    have ik : px_in (nI k) 60 = true := px_inb (by have := hw.2.2.2.1; omega) (by decide)
    have ck : (nI k).toNatClampNeg = k := nI_clamp (by have := hw.2.2.2.1; omega)
    have ke' : yX S k = key := by rw [← k2 k kk]; exact ke
    simp only [px_K_some, pc138_8, pc138_9, pc138_10, pc138_11, pc138_14, pc138_14n, pc138_15, pc138_15n, pc138_16, pc138_19, pc138_20, pc138_21, px_op_some, px_kv_ap, px_ki_ap, px_kl_ap, px_kn_ap, px_kh_ap, px_op_none, px_K_some, px_K_none, px_K_thr, px_kill, ↓reduceIte, if_true, if_false, true_and, and_true, px_gf, px_aj, y0', l1, nm, ik, ck, List.getElem?_cons_zero, List.getElem?_cons_succ, tg_2, and_self, hcY, px_kill]
    refine c_find hw.2.2.1 y0 d1 (fun v hv => ?_)
    rcases hv with ⟨rfl, no⟩ | ⟨j, jj, rfl, je, -⟩
    · simp only [px_K_some, pc138_24, pc138_25, if_true]
      refine go (fun v z => ?_) _
      obtain ⟨k', z1, z2, z3, j, z4, z5⟩ := z
      have : k' = k := g.2.1 k' k z1 kk (z2.trans ke'.symm)
      subst this
      exact no j z4 (by show D j = kl k'; rw [d2 j z4, z5, ← z3, l2 k' z1])
    · have nj : ¬ nI j = -1 := by rw [nI_nm1 (by have := hw.2.2.1; omega)]; exact fun z => z
      have kn : knw S key (kl k) := ⟨k, kk, ke', (l2 k kk).symm, j, jj, by rw [← d2 j jj]; exact je⟩
      simp only [px_K_some, pc138_24, pc138_25, pc138_28, pc138_28n, pc138_29, pc138_32, pc138_32n, pc138_33, pc138_36, pc138_37, pc138_38, px_op_some, px_kv_ap, px_ki_ap, px_kl_ap, px_kn_ap, px_kh_ap, px_op_none, px_K_some, px_K_none, px_K_thr, px_kill, ↓reduceIte, if_true, if_false, true_and, and_true, px_gf, px_aj, w47, bd_8, y0', l1, nj, ik, ck, List.getElem?_cons_zero, List.getElem?_cons_succ, tg_2, and_self, hc48]
      refine c_addLy (d := kl k) im h12 (fun h1 im1 f1 s1 => ?_)
      have ne1 : ∀ r, r ≠ 48 → r ≠ 49 → h1.2[r]? = h.2[r]? := fun r x y => f1.2.2 r (by omega)
      have w471 : h1.2[47]? = some (.inl (10, bdF b key)) := (ne1 47 (by decide) (by decide)).trans w47
      have l47 : 47 < h1.2.length := (List.getElem?_eq_some_iff.mp w471).1
      have h2w : ∀ z : px_C, (px_wr h1 47 z).2[47]? = some z := fun z => by rw [wr_at, if_pos rfl, if_pos l47]
      have b1 : bC h1 q S (addL m (kl k)) b key := ⟨s1 hS, CY_frm cy (fun r x y => ne1 r (by omega) (by omega)), ⟨P, hP, im1⟩, w471, tre_frm te87 (ne1 88 (by decide) (by decide)), tre_frm te249 (ne1 250 (by decide) (by decide))⟩
      simp only [px_K_none, pc138_41, pc138_41n, pc138_42, pc138_42r, pc138_43, pc138_46, pc138_47, pc138_48, pc138_51, pc138_51n, pc138_52, pc138_52r, pc138_53, pc138_56, pc138_57, pc138_58, pc138_61, px_op_some, px_kv_ap, px_ki_ap, px_kl_ap, px_kn_ap, px_kh_ap, px_op_none, px_K_some, px_K_none, px_K_thr, px_kill, ↓reduceIte, if_true, if_false, true_and, and_true, px_gf, px_pf, w471, h2w, bd_2, bd_3, bd_len, bds_2, bds_3, Nat.reduceLT, px_fit, and_self, px_wr_wr]
      have e3 : px_up b 2 (b 2 + 1) 3 = b 3 := up_ne (by decide)
      exact hQ _ 0 S (addL m (kl k)) 1 _ (.inl ⟨kl k, kn, rfl, rfl, rfl, rfl⟩) (bC_up b1 rfl (addL_ok o2 h12) hq) ⟨by rw [up_ne (by decide), up_ne (by decide)]; exact b0, by rw [up_ne (by decide), up_ne (by decide), if_pos rfl], by rw [up_ne (by decide), up_same, if_pos rfl], by rw [up_same, e3]; rfl, by rw [up_ne (by decide), up_ne (by decide)], by rw [up_ne (by decide), up_ne (by decide)]⟩ (frm_wr (frm_mono f1 (fun r hr => .inr (by omega))) (.inr ⟨by decide, by decide⟩))
end DOST
