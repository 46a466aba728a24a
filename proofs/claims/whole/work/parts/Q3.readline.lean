/-! A LINE READ, the class's -/
/-- how the builder stands; la = 0: no line has been read -/
def bX (la : Nat) (h : px_H) (q : Nat) (S : yS) (m : aM) (b : Nat → Int32) (key : Int64) : Prop := shape h ∧ CY h (2 + 11 * q) S ∧ (∃ P, inj6 P ∧ imS h 48 P ∧ (la ≠ 0 → imC h 48 P m)) ∧ h.2[47]? = some (.inl (10, bdF b key)) ∧ tre h 87 ∧ tre h 249
set_option maxRecDepth 16384 in
theorem bX_C {la : Nat} {h : px_H} {q : Nat} {S : yS} {m : aM} {b : Nat → Int32} {key : Int64} (hl : la ≠ 0) (w : bX la h q S m b key) : bC h q S m b key := by
  obtain ⟨w1, w2, ⟨P, w3, w4, w5⟩, w6⟩ := w
  exact ⟨w1, w2, ⟨P, w3, w5 hl⟩, w6⟩
set_option maxRecDepth 16384 in
theorem C_bX {la : Nat} {h : px_H} {q : Nat} {S : yS} {m : aM} {b : Nat → Int32} {key : Int64} (w : bC h q S m b key) : bX la h q S m b key := by
  obtain ⟨w1, w2, ⟨P, w3, w4⟩, w6⟩ := w
  exact ⟨w1, w2, ⟨P, w3, w4.1, fun _ => w4⟩, w6⟩
set_option maxRecDepth 16384 in
theorem bX_up {la : Nat} {h h' : px_H} {q : Nat} {S : yS} {m : aM} {b b' : Nat → Int32} {key k' : Int64} (w : bX la h q S m b key) (e : h' = px_wr h 47 (.inl (10, bdF b' k'))) (ok : la ≠ 0 → imOK m) (hq : q < 2) : bX la h' q S m b' k' := by
  obtain ⟨w1, w2, ⟨P, w3, w4, w4'⟩, w5, w6, w7⟩ := w
  have hl : 47 < h.2.length := (List.getElem?_eq_some_iff.mp w5).1
  have ne : ∀ r, r ≠ 47 → h'.2[r]? = h.2[r]? := fun r hr => by rw [e, wr_at, if_neg (fun z => hr z.symm)]
  exact ⟨by rw [e]; exact shape_47 w1, CY_frm w2 (fun r x y => ne r (by omega)), ⟨P, w3, imS_up w4 (fun r x y => ne r (by omega)), fun z => imC_frm (w4' z) (fun r hr => ne r (by unfold imA at hr; omega)) (ok z)⟩, by rw [e, wr_at, if_pos rfl, if_pos hl], tre_frm w6 (ne 88 (by decide)), tre_frm w7 (ne 250 (by decide))⟩
/-- the builder's numbers behind a line that was read -/
def rlB (b b' : Nat → Int32) (x : Nat) : Prop := b' 0 = nI x ∧ b' 1 = (if x = 0 then b 1 else b 4 + 1) ∧ b' 2 = b 2 ∧ b' 3 = b 3 ∧ b' 4 = b 4 + 1 ∧ b' 5 = b 4 + 1
set_option maxRecDepth 16384 in
theorem rlB_f {b c : Nat → Int32} (x : Nat) (c0 : rlB b c 0) : rlB b (fbF c x (b 4 + 1)) x := by
  obtain ⟨c1, c2, c3, c4, c5, c6⟩ := c0
  rw [if_pos rfl] at c2
  refine ⟨?_, ?_, (fb_j (by decide) (by decide)).trans c3, (fb_j (by decide) (by decide)).trans c4, (fb_j (by decide) (by decide)).trans c5, (fb_j (by decide) (by decide)).trans c6⟩
  · rw [fb_0]
    by_cases e : x = 0
    · rw [if_pos e, e]; exact c1
    · rw [if_neg e]
  · rw [fb_1]
    by_cases e : x = 0
    · rw [if_pos e, if_pos e]; exact c2
    · rw [if_neg e, if_neg e]
section READ
variable {sx : Nat × (Nat → Int32)} {h : px_H} {q n p e la : Nat} {S : yS} {m : aM} {b f : Nat → Int32} {key : Int64} {B : Nat → Nat} {IM : Nat → aM} {Q : px_O → px_H → Prop}
set_option maxRecDepth 16384 in
theorem c_readEmpty (hq : q < 2) (bx : bX la h q S m b key) (ok : la ≠ 0 → imOK m) (he : e ≤ p) (hp : p < 2 ^ 31) (hQ : ∀ h', bX la h' q S m (px_up b 4 (b 4 + 1)) key → frm (blA q) h h' → Q (.inl (some (.int 0))) h') :
    px_Wp sx 132 0 [some (.ref 47), some (.ref (2 + 11 * q)), some (.ref 45), some (.int (nI p)), some (.int (nI e)), none, none] [] h Q := by
  have w47 := bx.2.2.2.1
  have ng : ¬ nI p < nI e := nI_nlt he hp
  simp only [pc132_0, pc132_0n, pc132_1, pc132_1r, pc132_2, pc132_5, pc132_6, pc132_7, pc132_10, pc132_12, pc132_13, pc132_16, pc132_17, px_op_some, px_kv_ap, px_ki_ap, px_kl_ap, px_kn_ap, px_kh_ap, px_op_none, px_K_some, px_K_none, px_K_thr, px_kill, ↓reduceIte, if_true, if_false, true_and, and_true, px_gf, px_pf, w47, bd_4, bd_len, bds_4, ng, Nat.reduceLT, px_fit, and_self, nar_0]
  exact hQ _ (bX_up bx rfl ok hq) (frm_wr (frm_refl _ _) (.inr ⟨by decide, by decide⟩))
set_option maxRecDepth 16384 in
theorem c_readLine (hq : q < 2) (bx : bX la h q S m b key) (oy : yOK S) (ok : la = 0 ∨ bOK S m) (td : la = 0 → tdS S IM) (ry : la = 0 → RY h q S) (w : rowAt h 45 600 n f) (hB : txA f n B) (hs : p < e) (he : e ≤ n) (b0 : b 0 = 0) (b5 : la = 0 ↔ b 5 = -1)
    (hQ0 : ∀ h' x m' b' key', liR IM B la S m p e x S m' 0 0 → bC h' q S m' b' key' → rlB b b' x → frm (blA q) h h' → Q (.inl (some (.int 0))) h')
    (hQ1 : ∀ h' cp b' fl, la ≠ 0 → rcW B p (fnd B 32 p (e - p)) cp → ((fil B m p e).1 ≤ 200 ∧ iL m < 12) → bC h' q S m b' (dig (kyB m B p) (kyN m p e)) → rowAt h' 83 200 (fil B m p e).1 fl → txA fl (fil B m p e).1 (fil B m p e).2 → b' 6 = (if cp = true then 0 else 1) → rlB b b' 0 → frm (blA q) h h' → Q (.inl (some (.int 1))) h') :
    px_Wp sx 132 0 [some (.ref 47), some (.ref (2 + 11 * q)), some (.ref 45), some (.int (nI p)), some (.int (nI e)), none, none] [] h Q := by
  have n600 := w.2.2.1
  have imk : la ≠ 0 → imOK m := fun z => (ok.resolve_left z).2.1
  have hB' : ∀ j, j < n → B j < 256 := fun j hj => (hB j hj).2
  have w47 := bx.2.2.2.1
  have l47 : 47 < h.2.length := (List.getElem?_eq_some_iff.mp w47).1
  have gt : nI p < nI e := nI_lt hs (by omega)
  generalize hb2 : px_up (px_up b 4 (b 4 + 1)) 5 (b 4 + 1) = b2
  have r2 : rlB b b2 0 := by
    rw [← hb2]
    exact ⟨by rw [up_ne (by decide), up_ne (by decide)]; exact b0, by rw [up_ne (by decide), up_ne (by decide), if_pos rfl], by rw [up_ne (by decide), up_ne (by decide)], by rw [up_ne (by decide), up_ne (by decide)], by rw [up_ne (by decide), up_same], up_same _ _ _⟩
  have b24 : b2 4 = b 4 + 1 := r2.2.2.2.2.1
  generalize hh2 : px_wr h 47 (.inl (10, bdF b2 key)) = h2
  have bx2 : bX la h2 q S m b2 key := bX_up bx hh2.symm imk hq
  have fr2 : frm (blA q) h h2 := by rw [← hh2]; exact frm_wr (frm_refl _ _) (.inr ⟨by decide, by decide⟩)
  have ne2 : ∀ r, r ≠ 47 → h2.2[r]? = h.2[r]? := fun r hr => by rw [← hh2, wr_at, if_neg (fun z => hr z.symm)]
  have w2 : rowAt h2 45 600 n f := row_f w (ne2 45 (by decide)) (ne2 46 (by decide))
  have h2w : ∀ z : px_C, (px_wr h 47 z).2[47]? = some z := fun z => by rw [wr_at, if_pos rfl, if_pos l47]
  have c47 : ∀ {h' : px_H} {b' : Nat → Int32} {k' : Int64}, h'.2[47]? = some (.inl (10, bdF b' k')) → px_cls h' 47 = some 10 := fun z => by unfold px_cls; rw [z]
  have w472 := bx2.2.2.2.1
  have u4 : px_up b 4 (b 4 + 1) 4 = b 4 + 1 := up_same _ _ _
  have u5 : px_up b 4 (b 4 + 1) 5 = b 5 := up_ne (by decide)
  have hc45 : px_cls h2 45 = some 1 := by unfold px_cls; rw [w2.1]
  have start : px_Wp sx 132 41 [some (.ref 47), some (.ref (2 + 11 * q)), some (.ref 45), some (.int (nI p)), some (.int (nI e)), some (.int (if la = 0 then 1 else 0)), none] [] h2 Q → px_Wp sx 132 0 [some (.ref 47), some (.ref (2 + 11 * q)), some (.ref 45), some (.int (nI p)), some (.int (nI e)), none, none] [] h Q := fun z => by
    by_cases x : la = 0
    · have x5 := b5.mp x
      rw [if_pos x] at z
      simp only [pc132_0, pc132_0n, pc132_1, pc132_1r, pc132_2, pc132_5, pc132_6, pc132_7, pc132_10, pc132_12, pc132_13, pc132_18, pc132_18n, pc132_19, pc132_22, pc132_23, pc132_26, pc132_27, pc132_30, pc132_31, pc132_33, pc132_33n, pc132_34, pc132_34n, pc132_35, pc132_38, px_op_some, px_kv_ap, px_ki_ap, px_kl_ap, px_kn_ap, px_kh_ap, px_op_none, px_K_some, px_K_none, px_K_thr, px_kill, ↓reduceIte, if_true, if_false, true_and, and_true, px_gf, px_pf, w47, h2w, bd_4, bd_5, bd_len, bds_4, bds_5, gt, u4, u5, x5, hb2, hh2, not_true_eq_false, Nat.reduceLT, px_fit, and_self, px_wr_wr, px_kill]
      exact z
    · have x5 : ¬ b 5 = -1 := fun y => x (b5.mpr y)
      rw [if_neg x] at z
      simp only [pc132_0, pc132_0n, pc132_1, pc132_1r, pc132_2, pc132_5, pc132_6, pc132_7, pc132_10, pc132_12, pc132_13, pc132_18, pc132_18n, pc132_19, pc132_22, pc132_23, pc132_26, pc132_27, pc132_30, pc132_31, pc132_33, pc132_33n, pc132_34, pc132_34n, pc132_35, pc132_38, px_op_some, px_kv_ap, px_ki_ap, px_kl_ap, px_kn_ap, px_kh_ap, px_op_none, px_K_some, px_K_none, px_K_thr, px_kill, ↓reduceIte, if_true, if_false, true_and, and_true, px_gf, px_pf, w47, h2w, bd_4, bd_5, bd_len, bds_4, bds_5, gt, u4, u5, x5, hb2, hh2, not_false_eq_true, Nat.reduceLT, px_fit, and_self, px_wr_wr, px_kill]
      exact z
  refine start ?_
  by_cases l0 : la = 0
  · rw [if_pos l0]
    have ry2 : RY h2 q S := RY_frm (ry l0) (fun r x y => ne2 r (by omega))
    obtain ⟨hS2, cy2, ⟨P, hP, is2, -⟩, -, te1, te2⟩ := bx2
    have hc47 := c47 w472
    simp only [pc132_41, pc132_43, pc132_46, pc132_46n, pc132_47, pc132_47n, pc132_48, pc132_48n, pc132_49, pc132_49n, pc132_50, pc132_51, pc132_53, ne_1_0, if_false, hc47, true_and]
    refine c_begin_b hS2 hq oy cy2 ry2 (td l0) is2 hP w2 hB hs he (fun x m' h3 fr im3 fr3 hS3 => ?_)
    have ne3 : ∀ r, ¬ imA 48 r → h3.2[r]? = h2.2[r]? := fr3.2.2
    have w473 : h3.2[47]? = some (.inl (10, bdF b2 key)) := (ne3 47 (by unfold imA; omega)).trans w472
    have hc473 := c47 w473
    have mk : imOK m' ∧ x ≤ 5 := by
      rcases fr with ⟨-, rfl, rfl⟩ | ⟨-, j, ft, ⟨y, rfl, rfl⟩ | ⟨-, rfl, rfl⟩⟩ | ⟨-, -, rfl, rfl⟩
      · exact ⟨imE_ok, by omega⟩
      · exact ⟨(tdS_ok (yOK_good oy).1 (td l0) ft.2.2.2 y).1, by omega⟩
      · exact ⟨imE_ok, by omega⟩
      · exact ⟨imE_ok, by omega⟩
    have b3 : bC h3 q S m' b2 key := ⟨hS3, CY_frm cy2 (fun r x y => ne3 r (by unfold imA; omega)), ⟨P, hP, im3⟩, w473, tre_frm te1 (ne3 88 (by unfold imA; omega)), tre_frm te2 (ne3 250 (by unfold imA; omega))⟩
    simp only [px_K_some, pc132_56, pc132_56n, pc132_57, pc132_60, px_op_some, px_kv_ap, px_ki_ap, px_kl_ap, px_kn_ap, px_kh_ap, px_op_none, px_K_some, px_K_none, px_K_thr, px_kill, ↓reduceIte, if_true, if_false, true_and, and_true, px_gf, w473, bd_4, b24, hc473]
    refine c_fail w473 mk.2 ?_
    simp only [px_K_none, pc132_63, pc132_64, nar_0]
    exact hQ0 _ x m' _ key (.inl ⟨l0, fr, rfl, rfl, rfl⟩) (bC_up b3 rfl mk.1 hq) (rlB_f x r2) (frm_wr (frm_trans fr2 (frm_mono fr3 (fun r hr => .inr (by unfold imA at hr; omega)))) (.inr ⟨by decide, by decide⟩))
  · rw [if_neg l0]
    have bo := ok.resolve_left l0
    obtain ⟨o1, o2, o3⟩ := id bo
    have bc2 := bX_C l0 bx2
    have bc2' := bc2
    obtain ⟨hS2, cy2, ⟨P, hP, im2⟩, -, te1, te2⟩ := bc2'
    have hc47 := c47 w472
    have rF := fnd_rng (B := B) (c := 32) (e - p) p
    simp only [pc132_41, pc132_43, pc132_65, pc132_65n, pc132_66, pc132_68, pc132_69, pc132_71, if_true, hc45, true_and]
    refine c_rfind (c := 32) w2 hB (by decide) (by omega) he ?_
    simp only [px_K_some, pc132_74, pc132_76, pc132_76n, pc132_77, pc132_78, pc132_80, pc132_82, hc45, true_and, px_kill]
    refine c_says w2 hB str_3 rF.1 (by omega) (fun x hx => ?_)
    rcases hx with ⟨rfl, env⟩ | ⟨rfl, env⟩
    · -- ENV
      have f3 : fnd B 32 p (e - p) = p + 3 := env.1
      have e1 : nI (fnd B 32 p (e - p)) + 1 = nI (p + 4) := by rw [f3, nI_p1]
      simp only [px_K_some, pc132_85, pc132_88, pc132_88n, pc132_89, pc132_89n, pc132_90, pc132_90n, pc132_91, pc132_93, pc132_94, pc132_95, pc132_97, ne_1_0, if_false, e1, hc47, true_and]
      refine c_bset hS2 im2 o2 hP w2 hB (by omega) he (fun x m' P' h3 sl hP' im3 fr3 s3 => ?_)
      have hS3 := s3 hS2
      have ne3 : ∀ r, ¬ imA 48 r → h3.2[r]? = h2.2[r]? := fr3.2.2
      have w473 : h3.2[47]? = some (.inl (10, bdF b2 key)) := (ne3 47 (by unfold imA; omega)).trans w472
      have hc473 := c47 w473
      have b3 : bC h3 q S m' b2 key := ⟨hS3, CY_frm cy2 (fun r x y => ne3 r (by unfold imA; omega)), ⟨P', hP', im3⟩, w473, tre_frm te1 (ne3 88 (by unfold imA; omega)), tre_frm te2 (ne3 250 (by unfold imA; omega))⟩
      simp only [px_K_some, pc132_100, pc132_100n, pc132_101, pc132_104, px_op_some, px_kv_ap, px_ki_ap, px_kl_ap, px_kn_ap, px_kh_ap, px_op_none, px_K_some, px_K_none, px_K_thr, px_kill, ↓reduceIte, if_true, if_false, true_and, and_true, px_gf, w473, bd_4, b24, hc473]
      refine c_fail w473 (setL_1 sl).2 ?_
      simp only [px_K_none, pc132_107, pc132_108, nar_0]
      exact hQ0 _ x m' _ key (.inr ⟨l0, .inl ⟨env, sl, rfl, rfl, rfl⟩⟩) (bC_up b3 rfl (setL_ok o2 hB' he sl) hq) (rlB_f x r2) (frm_wr (frm_trans fr2 (frm_mono fr3 (fun r hr => .inr (by unfold imA at hr; omega)))) (.inr ⟨by decide, by decide⟩))
    · simp only [px_K_some, pc132_85, pc132_109, pc132_109n, pc132_110, pc132_110n, pc132_111, pc132_112, pc132_114, pc132_116, if_true, hc45, true_and]
      refine c_says w2 hB str_4 rF.1 (by omega) (fun xr hx => ?_)
      have xr01 : xr = 1 ∨ xr = 0 := by rcases hx with ⟨y, -⟩ | ⟨y, -⟩; exact .inl y; exact .inr y
      generalize hb3 : px_up b2 6 xr = b3
      have r3 : rlB b b3 0 := by
        rw [← hb3]
        obtain ⟨c1, c2, c3, c4, c5, c6⟩ := r2
        exact ⟨by rw [up_ne (by decide)]; exact c1, by rw [up_ne (by decide)]; exact c2, by rw [up_ne (by decide)]; exact c3, by rw [up_ne (by decide)]; exact c4, by rw [up_ne (by decide)]; exact c5, by rw [up_ne (by decide)]; exact c6⟩
      have b34 : b3 4 = b 4 + 1 := r3.2.2.2.2.1
      have b36 : b3 6 = xr := by rw [← hb3, up_same]
      generalize hh3 : px_wr h2 47 (.inl (10, bdF b3 key)) = h3
      have bc3 : bC h3 q S m b3 key := bC_up bc2 hh3.symm o2 hq
      have fr3 : frm (blA q) h h3 := by rw [← hh3]; exact frm_wr fr2 (.inr ⟨by decide, by decide⟩)
      have ne3 : ∀ r, r ≠ 47 → h3.2[r]? = h2.2[r]? := fun r hr => by rw [← hh3, wr_at, if_neg (fun z => hr z.symm)]
      have w3 : rowAt h3 45 600 n f := row_f w2 (ne3 45 (by decide)) (ne3 46 (by decide))
      have hc453 : px_cls h3 45 = some 1 := by unfold px_cls; rw [w3.1]
      have w473 := bc3.2.2.2.1
      have hc473 := c47 w473
      have b30 : b3 0 = 0 := r3.1
      have nrb : narrow .boolean (.int xr) = .int xr := by rcases xr01 with y | y <;> rw [y]; exact of_eq_true nar_1; exact of_eq_true nar_0
      -- a step
      have step : ∀ cp, rcW B p (fnd B 32 p (e - p)) cp → xr = (if cp = true then 0 else 1) → px_Wp sx 132 153 [some (.ref 47), some (.ref (2 + 11 * q)), some (.ref 45), some (.int (nI p)), some (.int (nI e)), some (.int 0), some (.int (nI (fnd B 32 p (e - p))))] [] h3 Q := fun cp rc xc => by
        obtain ⟨hS3, cy3, ⟨P3, hP3, im3⟩, -, te13, te23⟩ := bc3
        have tooBig : ∀ h4 : px_H, bC h4 q S m b3 key → frm (blA q) h h4 → ¬ ((fil B m p e).1 ≤ 200 ∧ iL m < 12) → px_Wp sx 132 174 [some (.ref 47), some (.ref (2 + 11 * q)), some (.ref 45), some (.int (nI p)), some (.int (nI e)), some (.int 0), some (.int (nI (fnd B 32 p (e - p))))] [] h4 Q := fun h4 bc4 fr4 no => by
          have w474 := bc4.2.2.2.1
          have hc474 := c47 w474
          have l474 : 47 < h4.2.length := (List.getElem?_eq_some_iff.mp w474).1
          have e4 : fbF b3 4 (b 4 + 1) = px_up (px_up b3 0 (nI 4)) 1 (b 4 + 1) := if_neg (by decide)
          have z0 : fbF b3 4 (b 4 + 1) 0 = nI 4 := by rw [fb_0, if_neg (by decide)]
          have z0' : ¬ fbF b3 4 (b 4 + 1) 0 = 0 := by rw [z0]; decide
          have h5w : ∀ z : px_C, (px_wr h4 47 z).2[47]? = some z := fun z => by rw [wr_at, if_pos rfl, if_pos l474]
          simp only [pc132_174, pc132_174n, pc132_175, pc132_176, pc132_176n, pc132_177, pc132_180, px_op_some, px_kv_ap, px_ki_ap, px_kl_ap, px_kn_ap, px_kh_ap, px_op_none, px_K_some, px_K_none, px_K_thr, px_kill, ↓reduceIte, if_true, if_false, true_and, and_true, px_gf, w474, bd_4, b34, hc474]
          refine c_fail (x := 4) w474 (by decide) ?_
          simp only [px_K_none, pc132_183, pc132_198, pc132_198n, pc132_199, pc132_202, pc132_205, pc132_206, pc132_209, pc132_210, px_op_some, px_kv_ap, px_ki_ap, px_kl_ap, px_kn_ap, px_kh_ap, px_op_none, px_K_some, px_K_none, px_K_thr, px_kill, ↓reduceIte, if_true, if_false, true_and, and_true, px_gf, h5w, bd_0, z0', not_false_eq_true, nar_0]
          exact hQ0 _ 4 m _ key (.inr ⟨l0, .inr (.inr ⟨cp, rc, .inl ⟨no, rfl, rfl, rfl, rfl, rfl⟩⟩)⟩) (bC_up bc4 rfl o2 hq) (rlB_f 4 r3) (frm_wr fr4 (.inr ⟨by decide, by decide⟩))
        have up4 : ∀ {h4 : px_H}, frm fiA h3 h4 → shape h4 → bC h4 q S m b3 key ∧ frm (blA q) h h4 := fun {h4} f4 hS4 => by
          have ne4 : ∀ r, r ≠ 83 → r ≠ 84 → h4.2[r]? = h3.2[r]? := fun r x y => f4.2.2 r (by unfold fiA; omega)
          exact ⟨⟨hS4, CY_frm cy3 (fun r x y => ne4 r (by omega) (by omega)), ⟨P3, hP3, imC_frm im3 (fun r hr => ne4 r (by unfold imA at hr; omega) (by unfold imA at hr; omega)) o2⟩, (ne4 47 (by decide) (by decide)).trans w473, tre_frm te13 (ne4 88 (by decide) (by decide)), tre_frm te23 (ne4 250 (by decide) (by decide))⟩, frm_trans fr3 (frm_mono f4 (fun r hr => .inr (by unfold fiA at hr; omega)))⟩
        simp only [pc132_153, pc132_153n, pc132_154, pc132_154n, pc132_155, pc132_156, pc132_158, hc473, true_and]
        refine c_fillIn hS3 im3 o2 w3 hB (by omega) he (fun h4 fl row4 tx4 f4 hS4 l200 => ?_) (fun h4 no f4 hS4 => ?_)
        rotate_left
        · obtain ⟨bc4, fb4⟩ := up4 f4 hS4
          simp only [px_K_some, pc132_161, if_true]
          exact tooBig h4 bc4 fb4 (fun z => no z.1)
        obtain ⟨bc4, fb4⟩ := up4 f4 hS4
        have bc4' := bc4
        obtain ⟨-, cy4, ⟨P4, hP4, im4⟩, w474, te14, te24⟩ := bc4'
        have hc474 := c47 w474
        obtain ⟨-, ⟨LL, ⟨i48, i49⟩, -⟩, -⟩ := id im4
        have i48 : h4.2[48]? = some (.inl (6, [.ref 49, .int (nI (iL m)), .ref 50, .int (nI (iS m))])) := i48
        have i49 : h4.2[49]? = some (.inr (2, 12, .inr (.inl LL))) := i49
        have hc48 : px_cls h4 48 = some 6 := by unfold px_cls; rw [i48]
        by_cases h12 : iL m < 12
        rotate_left
        · have lt : ¬ nI (iL m) < Int32.ofNat 12 := nI_nlt (by omega) (by have := o2.1; omega)
          simp only [px_K_some, pc132_161, pc132_164, pc132_164n, pc132_165, pc132_168, pc84_0, pc84_0n, pc84_1, pc84_4, pc84_4n, pc84_5, pc84_8, pc84_9, pc84_12, pc84_13, pc84_16, pc84_17, px_op_some, px_kv_ap, px_ki_ap, px_kl_ap, px_kn_ap, px_kh_ap, px_op_none, px_K_some, px_K_none, px_K_thr, px_kill, ↓reduceIte, if_true, if_false, true_and, and_true, px_gf, px_an, w474, bd_8, i48, i49, List.getElem?_cons_zero, List.getElem?_cons_succ, lt, ne_1_0, hc48, tg_2, and_self, nar_1, pc132_171]
          exact tooBig h4 bc4 fb4 (fun z => h12 z.2)
        have lt : nI (iL m) < Int32.ofNat 12 := nI_lt h12 (by decide)
        have w4 : rowAt h4 45 600 n f := row_f w3 (f4.2.2 45 (by unfold fiA; omega)) (f4.2.2 46 (by unfold fiA; omega))
        simp only [px_K_some, pc132_161, pc132_164, pc132_164n, pc132_165, pc132_168, pc84_0, pc84_0n, pc84_1, pc84_4, pc84_4n, pc84_5, pc84_8, pc84_9, pc84_12, pc84_13, pc84_16, pc84_17, px_op_some, px_kv_ap, px_ki_ap, px_kl_ap, px_kn_ap, px_kh_ap, px_op_none, px_K_some, px_K_none, px_K_thr, px_kill, ↓reduceIte, if_true, if_false, true_and, and_true, px_gf, px_an, w474, bd_8, i48, i49, List.getElem?_cons_zero, List.getElem?_cons_succ, lt, ne_1_0, hc48, tg_2, and_self, nar_0, pc132_171, pc132_186, pc132_186n, pc132_187, pc132_187n, pc132_188, pc132_188n, pc132_189, pc132_190, pc132_192, hc474]
        refine c_keyOf hS4 im4 o2 w4 hB (by omega) he (fun h5 f5 hS5 => ?_)
        have ne5 : ∀ r, r ≠ 81 → r ≠ 82 → h5.2[r]? = h4.2[r]? := fun r x y => f5.2.2 r (by unfold kyA; omega)
        have w475 : h5.2[47]? = some (.inl (10, bdF b3 key)) := (ne5 47 (by decide) (by decide)).trans w474
        have l475 : 47 < h5.2.length := (List.getElem?_eq_some_iff.mp w475).1
        have h6w : ∀ z : px_C, (px_wr h5 47 z).2[47]? = some z := fun z => by rw [wr_at, if_pos rfl, if_pos l475]
        have bc5 : bC h5 q S m b3 key := ⟨hS5, CY_frm cy4 (fun r x y => ne5 r (by omega) (by omega)), ⟨P4, hP4, imC_frm im4 (fun r hr => ne5 r (by unfold imA at hr; omega) (by unfold imA at hr; omega)) o2⟩, w475, tre_frm te14 (ne5 88 (by decide) (by decide)), tre_frm te24 (ne5 250 (by decide) (by decide))⟩
        have ne6 : ∀ r, r ≠ 47 → (px_wr h5 47 (.inl (10, bdF b3 (dig (kyB m B p) (kyN m p e))))).2[r]? = h5.2[r]? := fun r hr => by rw [wr_at, if_neg (fun z => hr z.symm)]
        simp only [px_K_some, pc132_195, pc132_198, pc132_198n, pc132_199, pc132_202, pc132_205, pc132_206, pc132_209, pc132_210, px_op_some, px_kv_ap, px_ki_ap, px_kl_ap, px_kn_ap, px_kh_ap, px_op_none, px_K_some, px_K_none, px_K_thr, px_kill, ↓reduceIte, if_true, if_false, true_and, and_true, px_gf, px_pf, w475, h6w, bd_0, bd_len, bds_7, b30, not_true_eq_false, Nat.reduceLT, px_fit, and_self, nar_1]
        have l200 : (fil B m p e).1 ≤ 200 := l200
        exact hQ1 _ cp b3 fl l0 rc ⟨l200, h12⟩ (bC_up bc5 rfl o2 hq) (row_f row4 ((ne6 83 (by decide)).trans (ne5 83 (by decide) (by decide))) ((ne6 84 (by decide)).trans (ne5 84 (by decide) (by decide)))) tx4 (b36.trans xc) r3 (frm_wr (frm_trans fb4 (frm_mono f5 (fun r hr => .inr (by unfold kyA at hr; omega)))) (.inr ⟨by decide, by decide⟩))
      rcases hx with ⟨rfl, run⟩ | ⟨rfl, run⟩
      · simp only [px_K_some, pc132_119, pc132_122, pc132_122n, pc132_123, pc132_126, px_op_some, px_kv_ap, px_ki_ap, px_kl_ap, px_kn_ap, px_kh_ap, px_op_none, px_K_some, px_K_none, px_K_thr, px_kill, ↓reduceIte, if_true, if_false, true_and, and_true, px_gf, px_pf, w472, bd_len, bds_6, hb3, hh3, w473, bd_6, b36, ne_1_0, not_false_eq_true, Nat.reduceLT, px_fit, and_self]
        exact ⟨by decide, step false (.inl ⟨rfl, run⟩) (by rw [if_neg (by decide)])⟩
      · simp only [px_K_some, pc132_119, pc132_122, pc132_122n, pc132_123, pc132_126, pc132_129, pc132_129n, pc132_130, pc132_131, pc132_133, pc132_135, px_op_some, px_kv_ap, px_ki_ap, px_kl_ap, px_kn_ap, px_kh_ap, px_op_none, px_K_some, px_K_none, px_K_thr, px_kill, ↓reduceIte, if_true, if_false, true_and, and_true, px_gf, px_pf, w472, bd_len, bds_6, hb3, hh3, w473, bd_6, b36, not_true_eq_false, Nat.reduceLT, px_fit, and_self, hc453]
        refine ⟨by decide, ?_⟩
        refine c_says w3 hB str_5 rF.1 (by omega) (fun x hx => ?_)
        rcases hx with ⟨rfl, cop⟩ | ⟨rfl, cop⟩
        · simp only [px_K_some, pc132_138, ne_1_0, not_false_eq_true, if_true]
          exact step true (.inr ⟨rfl, cop⟩) (by rw [if_pos rfl])
        · have l473 : 47 < h3.2.length := (List.getElem?_eq_some_iff.mp w473).1
          have h4w : ∀ z : px_C, (px_wr h3 47 z).2[47]? = some z := fun z => by rw [wr_at, if_pos rfl, if_pos l473]
          have z0 : fbF b3 1 (b 4 + 1) 0 = nI 1 := by rw [fb_0, if_neg (by decide)]
          have z0' : ¬ fbF b3 1 (b 4 + 1) 0 = 0 := by rw [z0]; decide
          simp only [px_K_some, pc132_138, pc132_141, pc132_141n, pc132_142, pc132_143, pc132_143n, pc132_144, pc132_147, px_op_some, px_kv_ap, px_ki_ap, px_kl_ap, px_kn_ap, px_kh_ap, px_op_none, px_K_some, px_K_none, px_K_thr, px_kill, ↓reduceIte, if_true, if_false, true_and, and_true, px_gf, w473, bd_4, b34, not_true_eq_false, hc473]
          refine c_fail (x := 1) w473 (by decide) ?_
          simp only [px_K_none, pc132_150, pc132_198, pc132_198n, pc132_199, pc132_202, pc132_205, pc132_206, pc132_209, pc132_210, px_op_some, px_kv_ap, px_ki_ap, px_kl_ap, px_kn_ap, px_kh_ap, px_op_none, px_K_some, px_K_none, px_K_thr, px_kill, ↓reduceIte, if_true, if_false, true_and, and_true, px_gf, h4w, bd_0, z0', not_false_eq_true, nar_0]
          refine hQ0 _ 1 m _ key (.inr ⟨l0, .inr (.inl ⟨env, fun cp z => ?_, rfl, rfl, rfl, rfl, rfl⟩)⟩) (bC_up bc3 rfl o2 hq) (rlB_f 1 r3) (frm_wr fr3 (.inr ⟨by decide, by decide⟩))
          rcases z with ⟨-, z⟩ | ⟨-, z⟩
          · exact run z
          · exact cop z
end READ
