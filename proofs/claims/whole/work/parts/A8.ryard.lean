/-! A YARD'S STATE: tell and keep, the reference's -/
/-- other numbers of the reference than those of V at 17 alone -/
def vSame (V V' : Nat → Int32) : Prop := ∀ k, k ≠ 17 → V' k = V k
section RYS
variable {sx : Nat × (Nat → Int32)} {h : px_H} {q : Nat} {S : yS} {V row : Nat → Int32} {Q : px_O → px_H → Prop}
set_option maxRecDepth 16384 in
theorem wroteM_J {J J' g : Nat → Int32} {n : Nat} (hf : ∀ j, j < yR S → J (40000 * q + j) = yJ S j) (w : wroteM J J' (40000 * q + yR S) g n) : ∀ j, j < yR S + n → J' (40000 * q + j) = (addJ S n g).2.1 j := by
  intro j hj
  by_cases e : j < yR S
  · rw [addJ_old e, w.1 _ (by omega), hf j e]
  · have := w.2 (j - yR S) (by omega)
    rw [addJ_new (by omega), ← this]; congr 1; omega
set_option maxRecDepth 16384 in
theorem wroteM_2 {J J' g : Nat → Int32} {q q2 w n j : Nat} (hq : q < 2) (hq2 : q2 < 2) (hne : q2 ≠ q) (hw : w + n ≤ 40000) (u : wroteM J J' (40000 * q + w) g n) (hj : j < 40000) : J' (40000 * q2 + j) = J (40000 * q2 + j) := u.1 _ (by omega)
/-- the heap behind a told tag -/
def tmH (h : px_H) (V row J W T : Nat → Int32) (G : Nat → Int64) : px_H := px_wr (px_wr (jouH (outH h V row) J W) 628 (.inr (3, 16, .inl T))) 627 (.inr (2, 16, .inr (.inl G)))
set_option maxRecDepth 16384 in
theorem tmH_at {V row J W T : Nat → Int32} {G : Nat → Int64} {r : Nat} (h1 : r ≠ 619) (h2 : r ≠ 636) (h3 : r ≠ 632) (h4 : r ≠ 633) (h5 : r ≠ 627) (h6 : r ≠ 628) : (tmH h V row J W T G).2[r]? = h.2[r]? := by
  unfold tmH; rw [wr_at, if_neg (fun e => h5 e.symm), wr_at, if_neg (fun e => h6 e.symm), jouH_at (fun e => h3 e.symm) (fun e => h4 e.symm), outH_at (fun e => h2 e.symm) (fun e => h1 e.symm)]
set_option maxRecDepth 16384 in
theorem ry_tag {J W T J' row' : Nat → Int32} {G : Nat → Int64} {V' : Nat → Int32} {n j : Nat} {g : Nat → Int32} {b : Int32} {bt : Bool} {v : Int64} (hS : shape h) (hw : WFy S) (hq : q < 2) (hj : j < 8) (c : RY h q S) (hn : yR S + n ≤ 40000) (hJ : h.2[632]? = some (.inr (1, 80000, .inl J))) (hW : h.2[633]? = some (.inr (1, 2, .inl W))) (hT : h.2[628]? = some (.inr (3, 16, .inl T))) (hG : h.2[627]? = some (.inr (2, 16, .inr (.inl G))))
    (u : wroteM J J' (40000 * q + yR S) g n) (hb : b = if bt = true then 1 else 0) (yG' : Nat → Int64) (hv : bt = true → v = yG' j) (hg' : ∀ i, i ≠ j → yG' i = yG S i) :
    RY (tmH h V' row' J' (px_up W q (nI (yR S + n))) (px_up T (8 * q + j) b) (px_up G (8 * q + j) v)) q (addJ S n g, S.2.1, S.2.2.1, (px_up (yT S) j bt, yG')) ∧ ∀ q2 S2, q2 < 2 → q2 ≠ q → WFy S2 → RY h q2 S2 → RY (tmH h V' row' J' (px_up W q (nI (yR S + n))) (px_up T (8 * q + j) b) (px_up G (8 * q + j) v)) q2 S2 := by
  have hl := hS.1
  have z32 : (tmH h V' row' J' (px_up W q (nI (yR S + n))) (px_up T (8 * q + j) b) (px_up G (8 * q + j) v)).2[632]? = some (.inr (1, 80000, .inl J')) := by
    unfold tmH; rw [wr_at, if_neg (by decide), wr_at, if_neg (by decide)]; exact jouH_J (by rw [outH_len]; omega)
  have z33 : (tmH h V' row' J' (px_up W q (nI (yR S + n))) (px_up T (8 * q + j) b) (px_up G (8 * q + j) v)).2[633]? = some (.inr (1, 2, .inl (px_up W q (nI (yR S + n))))) := by
    unfold tmH; rw [wr_at, if_neg (by decide), wr_at, if_neg (by decide)]; exact jouH_W (by rw [outH_len]; omega)
  have z28 : (tmH h V' row' J' (px_up W q (nI (yR S + n))) (px_up T (8 * q + j) b) (px_up G (8 * q + j) v)).2[628]? = some (.inr (3, 16, .inl (px_up T (8 * q + j) b))) := by
    unfold tmH; rw [wr_at, if_neg (by decide), wr_at, if_pos rfl, if_pos (by rw [jouH_len, outH_len]; omega)]
  have z27 : (tmH h V' row' J' (px_up W q (nI (yR S + n))) (px_up T (8 * q + j) b) (px_up G (8 * q + j) v)).2[627]? = some (.inr (2, 16, .inr (.inl (px_up G (8 * q + j) v)))) := by
    unfold tmH; rw [wr_at, if_pos rfl, if_pos (by rw [px_wr_len, jouH_len, outH_len]; omega)]
  have z : ∀ {r : Nat} {x : px_C}, h.2[r]? = some x → r ≠ 619 → r ≠ 636 → r ≠ 632 → r ≠ 633 → r ≠ 627 → r ≠ 628 → (tmH h V' row' J' (px_up W q (nI (yR S + n))) (px_up T (8 * q + j) b) (px_up G (8 * q + j) v)).2[r]? = some x := fun e a b c d f g => (tmH_at a b c d f g).trans e
  constructor
  · obtain ⟨⟨J0, a1, a2⟩, ⟨W0, b1, b2⟩, ⟨C, c1, c2⟩, ⟨bl, d1, d2⟩, ⟨D, e1, e2⟩, ⟨fr, sz, by_, us, U, f1, f2, f3, f4, f5, f6, f7⟩, ⟨kk, g1, g2⟩, ⟨ky, h1, h2⟩, ⟨kl, i1, i2⟩, ⟨G0, j1, j2⟩, T0, k1, k2⟩ := c
    cases hJ.symm.trans a1
    cases hW.symm.trans b1
    cases hG.symm.trans j1
    cases hT.symm.trans k1
    refine ⟨⟨J', z32, wroteM_J a2 u⟩, ⟨_, z33, up_same _ _ _⟩, ⟨C, z c1 (by decide) (by decide) (by decide) (by decide) (by decide) (by decide), c2⟩, ⟨bl, z d1 (by decide) (by decide) (by decide) (by decide) (by decide) (by decide), d2⟩, ⟨D, z e1 (by decide) (by decide) (by decide) (by decide) (by decide) (by decide), e2⟩, ⟨fr, sz, by_, us, U, z f1 (by decide) (by decide) (by decide) (by decide) (by decide) (by decide), z f2 (by decide) (by decide) (by decide) (by decide) (by decide) (by decide), z f3 (by decide) (by decide) (by decide) (by decide) (by decide) (by decide), z f4 (by decide) (by decide) (by decide) (by decide) (by decide) (by decide), f5, ⟨Nat.le_trans f6.1 (Nat.le_add_right _ _), f6.2⟩, fun k hk => ?_⟩, ⟨kk, z g1 (by decide) (by decide) (by decide) (by decide) (by decide) (by decide), g2⟩, ⟨ky, z h1 (by decide) (by decide) (by decide) (by decide) (by decide) (by decide), h2⟩, ⟨kl, z i1 (by decide) (by decide) (by decide) (by decide) (by decide) (by decide), i2⟩, ⟨_, z27, fun i hi ht => ?_⟩, _, z28, fun i hi => ?_⟩
    · obtain ⟨x1, u0, x2, x3, x4⟩ := f7 k hk
      exact ⟨x1, u0, x2, x3, fun m hm => by rw [x4 m hm]; exact (addJ_old (by have := hw.2.2.2.2.2.1 k hk; have hm' : m < yL S k := hm; show yP S k + m < yR S; omega)).symm⟩
    · by_cases e : i = j
      · subst e
        have ht' : px_up (yT S) i bt i = true := ht
        rw [up_same] at ht'
        rw [up_same]; exact hv ht'
      · have ht' : px_up (yT S) j bt i = true := ht
        rw [up_ne e] at ht'
        rw [up_ne (by omega), j2 i hi ht']; exact (hg' i e).symm
    · show px_up T (8 * q + j) b (8 * q + i) = if px_up (yT S) j bt i = true then 1 else 0
      by_cases e : i = j
      · subst e; rw [up_same, up_same]; exact hb
      · rw [up_ne (by omega), up_ne e]; exact k2 i hi
  · intro q2 S2 hq2 hne w2 c
    obtain ⟨⟨J0, a1, a2⟩, ⟨W0, b1, b2⟩, ⟨C, c1, c2⟩, ⟨bl, d1, d2⟩, ⟨D, e1, e2⟩, ⟨fr, sz, by_, us, U, f1, f2, f3, f4, f5, f6, f7⟩, ⟨kk, g1, g2⟩, ⟨ky, h1, h2⟩, ⟨kl, i1, i2⟩, ⟨G0, j1, j2⟩, T0, k1, k2⟩ := c
    cases hJ.symm.trans a1
    cases hW.symm.trans b1
    cases hG.symm.trans j1
    cases hT.symm.trans k1
    have r4 := w2.1
    refine ⟨⟨J', z32, fun j hj => by rw [wroteM_2 hq hq2 hne hn u (by omega)]; exact a2 j hj⟩, ⟨_, z33, by rw [up_ne hne]; exact b2⟩, ⟨C, z c1 (by decide) (by decide) (by decide) (by decide) (by decide) (by decide), c2⟩, ⟨bl, z d1 (by decide) (by decide) (by decide) (by decide) (by decide) (by decide), d2⟩, ⟨D, z e1 (by decide) (by decide) (by decide) (by decide) (by decide) (by decide), e2⟩, ⟨fr, sz, by_, us, U, z f1 (by decide) (by decide) (by decide) (by decide) (by decide) (by decide), z f2 (by decide) (by decide) (by decide) (by decide) (by decide) (by decide), z f3 (by decide) (by decide) (by decide) (by decide) (by decide) (by decide), z f4 (by decide) (by decide) (by decide) (by decide) (by decide) (by decide), f5, f6, f7⟩, ⟨kk, z g1 (by decide) (by decide) (by decide) (by decide) (by decide) (by decide), g2⟩, ⟨ky, z h1 (by decide) (by decide) (by decide) (by decide) (by decide) (by decide), h2⟩, ⟨kl, z i1 (by decide) (by decide) (by decide) (by decide) (by decide) (by decide), i2⟩, ⟨_, z27, fun i hi ht => by rw [up_ne (by omega)]; exact j2 i hi ht⟩, _, z28, fun i hi => by rw [up_ne (by omega)]; exact k2 i hi⟩
set_option maxRecDepth 16384 in
theorem tm_shape {J W T row0 J' W' T' row' : Nat → Int32} {G G' : Nat → Int64} {V' : Nat → Int32} (hS : shape h) : shape (tmH h V' row' J' W' T' G') := by
  unfold tmH jouH outH
  refine shape_wr (shape_wr (shape_wr (shape_wr (shape_wr (shape_wr hS ?_) ?_) ?_) ?_) ?_) ?_ <;> rfl
set_option maxRecDepth 16384 in
theorem tm_frm {J' W' T' row' : Nat → Int32} {G' : Nat → Int64} {V' : Nat → Int32} : frm ryA h (tmH h V' row' J' W' T' G') := by
  unfold tmH jouH outH
  exact frm_wr (frm_wr (frm_wr (frm_wr (frm_wr (frm_wr (frm_refl _ _) (.inr (.inl rfl))) (.inl rfl)) (.inr (.inr ⟨by decide, by decide⟩))) (.inr (.inr ⟨by decide, by decide⟩))) (.inr (.inr ⟨by decide, by decide⟩))) (.inr (.inr ⟨by decide, by decide⟩))
set_option maxRecDepth 16384 in
theorem tm_6 {J' W' T' row' : Nat → Int32} {G' : Nat → Int64} {V' : Nat → Int32} (hS : shape h) : (tmH h V' row' J' W' T' G').2[619]? = some (.inl (11, modF V')) := by
  have hl := hS.1
  unfold tmH; rw [wr_at, if_neg (by decide), wr_at, if_neg (by decide), jouH_at (by decide) (by decide)]; exact outH_o (by omega)
set_option maxRecDepth 16384 in
theorem ry_tell {j : Nat} {v : Int64} (hS : shape h) (hw : WFy S) (hq : q < 2) (hj : j < 8) (c : RY h q S) (h6 : h.2[619]? = some (.inl (11, modF V)))
    (hQS : yT S j = true ∧ yG S j = v → Q (.inl (some (.int 1))) h) (hQ0 : ¬ (yT S j = true ∧ yG S j = v) → 40000 < yR S + 15 → Q (.inl (some (.int 0))) h)
    (hQ1 : ¬ (yT S j = true ∧ yG S j = v) → yR S + 15 ≤ 40000 → ∀ h', RY h' q (yTell S j v) → (∀ q2 S2, q2 < 2 → q2 ≠ q → WFy S2 → RY h q2 S2 → RY h' q2 S2) → frm ryA h h' → shape h' → h'.2[619]? = some (.inl (11, modF (px_up V 17 (nI 9)))) → Q (.inl (some (.int 1))) h') :
    px_Wp sx 224 0 [some (.ref 619), some (.int (nI q)), some (.int (nI j)), some (.long v), none, none] [] h Q := by
  have hl := hS.1
  have c' := c
  obtain ⟨⟨J, a1, a2⟩, ⟨W, b1, b2⟩, ⟨C, c1, c2⟩, ⟨bl, d1, d2⟩, ⟨D, e1, e2⟩, ⟨fr, sz, by_, us, U, f1, f2, f3, f4, f5, f6, f7⟩, ⟨kk, g1, g2⟩, ⟨ky, h1, h2⟩, ⟨kl, i1, i2⟩, ⟨G, j1, j2⟩, T, k1, k2⟩ := c
  have tj := k2 j hj
  have eqv : (¬ T (8 * q + j) = 0 ∧ G (8 * q + j) = v) ↔ (yT S j = true ∧ yG S j = v) := by
    by_cases t : yT S j = true
    · rw [if_pos t] at tj
      rw [j2 j hj t, tj]
      exact ⟨fun z => ⟨t, z.2⟩, fun z => ⟨by decide, z.2⟩⟩
    · rw [if_neg t] at tj
      exact ⟨fun z => absurd tj z.1, fun z => absurd z.1 t⟩
  refine m_tell (by omega) h6 (at_636 hS) a1 b1 k1 j1 hq hj b2 hw.1 (fun z1 z2 => hQS (eqv.mp ⟨z1, z2⟩)) (fun z g => hQ0 (fun y => z (eqv.mpr y)) g) (fun z g row' J' u => ?_)
  have t := ry_tag (V' := px_up V 17 (nI 9)) (row' := row') (bt := true) (b := 1) (v := v) hS hw hq hj c' g a1 b1 k1 j1 u rfl (px_up (yG S) j v) (fun _ => (up_same _ _ _).symm) (fun i e => up_ne e)
  exact hQ1 (fun y => z (eqv.mpr y)) g _ t.1 t.2 tm_frm (tm_shape (J := J) (W := W) (T := T) (row0 := J) (G := G) hS) (tm_6 hS)
set_option maxRecDepth 16384 in
theorem ry_keep {c : Nat} {d : Nat → Int32} (hS : shape h) (hw : WFy S) (hq : q < 2) (ry : RY h q S) (h6 : h.2[619]? = some (.inl (11, modF V))) (hv : V 17 = nI c) (hc : c ≤ 39000) (hr : h.2[636]? = some (.inr (1, 40100, .inl d))) (hd : ∀ k, k < c → d k &&& 255 = d k)
    (hQk : ∀ k, k < yB S → yD S k = dig d c → (yL S k = c ∧ (∀ m, m < c → yJ S (yP S k + m) = d m) → Q (.inl (some (.int 1))) h) ∧ (¬ (yL S k = c ∧ ∀ m, m < c → yJ S (yP S k + m) = d m) → Q (.inl (some (.int 0))) h))
    (hQ0 : (∀ k, k < yB S → ¬ yD S k = dig d c) → (yB S = 60 ∨ 40000 < yR S + (6 + c)) → Q (.inl (some (.int 0))) h)
    (hQ1 : (∀ k, k < yB S → ¬ yD S k = dig d c) → yB S < 60 → yR S + (6 + c) ≤ 40000 → ∀ h', RY h' q (yKeep S d c) → (∀ q2 S2, q2 < 2 → q2 ≠ q → WFy S2 → RY h q2 S2 → RY h' q2 S2) → frm (fun r => 621 ≤ r ∧ r ≤ 633) h h' → shape h' → Q (.inl (some (.int 1))) h') :
    px_Wp sx 216 0 [some (.ref 619), some (.int (nI q)), none, none, none] [] h Q := by
  have hl := hS.1
  obtain ⟨v1, v2, v3, v4, v5, v6, v7⟩ := hw
  have ry' := ry
  obtain ⟨⟨J, a1, a2⟩, ⟨W, b1, b2⟩, ⟨C, c1, c2⟩, ⟨bl, d1, d2⟩, ⟨D, e1, e2⟩, ⟨fr, sz, by_, us, U, f1, f2, f3, f4, f5, f6, f7⟩, ⟨kk, g1, g2⟩, ⟨ky, h1, h2⟩, ⟨kl, i1, i2⟩, ⟨G, j1, j2⟩, T, k1, k2⟩ := ry
  refine m_keep hq (by omega) v3 h6 hv hc hr hd d1 e1 f1 f2 f3 f4 a1 b1 d2 f5 f6.1 b2 v1 (fun k hk => ?_) (fun k hk hdg u l eu el hul => ?_) (fun z => hQ0 (fun k hk e => z k hk (by rw [e2 k hk]; exact e))) (fun zn b6 g J' bt' uJ ub => ?_)
  · obtain ⟨x1, u0, x2, x3, x4⟩ := f7 k hk
    exact ⟨u0, yL S k, x2, x1, by omega⟩
  · obtain ⟨x1, u0, x2, x3, x4⟩ := f7 k hk
    have q' := hQk k hk (by rw [← e2 k hk]; exact hdg)
    have eu' : u = u0 := by
      have y1 := nI_clamp (n := u) (by omega)
      rw [← eu, x2, nI_clamp (by omega)] at y1; exact y1.symm
    have el' : l = yL S k := by
      have y1 := nI_clamp (n := l) (by omega)
      rw [← el, x1, nI_clamp (by have := v6 k hk; omega)] at y1; exact y1.symm
    subst eu'; subst el'
    exact ⟨fun y => q'.1 ⟨y.1, fun m hm => by rw [← x4 m (by omega)]; exact y.2 m hm⟩, fun y => q'.2 (fun x => y ⟨x.1, fun m hm => by rw [x4 m (by omega)]; exact x.2 m hm⟩)⟩
  · have hlj : ∀ {r : Nat}, (jouH h J' (px_up W q (nI (yR S + (6 + c))))).2.length = h.2.length := fun {r} => jouH_len
    generalize hH : ablH (jouH h J' (px_up W q (nI (yR S + (6 + c))))) (px_up D (61 * q + yB S) (dig d c)) (px_up fr (61 * q + yB S) (nI U)) (px_up sz (61 * q + yB S) (nI c)) bt' (px_up us q (nI (U + c))) (px_up bl q (nI (yB S + 1))) = H
    have z22 : H.2[622]? = some (.inr (2, 122, .inr (.inl (px_up D (61 * q + yB S) (dig d c))))) := by rw [← hH]; unfold ablH; rw [wr_at, if_neg (by decide), wr_at, if_neg (by decide), wr_at, if_neg (by decide), wr_at, if_neg (by decide), wr_at, if_neg (by decide), wr_at, if_pos rfl, if_pos (by rw [jouH_len]; omega)]
    have z23 : H.2[623]? = some (.inr (1, 122, .inl (px_up fr (61 * q + yB S) (nI U)))) := by rw [← hH]; unfold ablH; rw [wr_at, if_neg (by decide), wr_at, if_neg (by decide), wr_at, if_neg (by decide), wr_at, if_neg (by decide), wr_at, if_pos rfl, if_pos (by simp only [px_wr_len, jouH_len]; omega)]
    have z24 : H.2[624]? = some (.inr (1, 122, .inl (px_up sz (61 * q + yB S) (nI c)))) := by rw [← hH]; unfold ablH; rw [wr_at, if_neg (by decide), wr_at, if_neg (by decide), wr_at, if_neg (by decide), wr_at, if_pos rfl, if_pos (by simp only [px_wr_len, jouH_len]; omega)]
    have z25 : H.2[625]? = some (.inr (1, 80000, .inl bt')) := by rw [← hH]; unfold ablH; rw [wr_at, if_neg (by decide), wr_at, if_neg (by decide), wr_at, if_pos rfl, if_pos (by simp only [px_wr_len, jouH_len]; omega)]
    have z26 : H.2[626]? = some (.inr (1, 2, .inl (px_up us q (nI (U + c))))) := by rw [← hH]; unfold ablH; rw [wr_at, if_neg (by decide), wr_at, if_pos rfl, if_pos (by simp only [px_wr_len, jouH_len]; omega)]
    have z21 : H.2[621]? = some (.inr (1, 2, .inl (px_up bl q (nI (yB S + 1))))) := by rw [← hH]; unfold ablH; rw [wr_at, if_pos rfl, if_pos (by simp only [px_wr_len, jouH_len]; omega)]
    have zr : ∀ r, ¬ (621 ≤ r ∧ r ≤ 626) → H.2[r]? = (jouH h J' (px_up W q (nI (yR S + (6 + c))))).2[r]? := fun r hr => by rw [← hH]; unfold ablH; rw [wr_at, if_neg (by omega), wr_at, if_neg (by omega), wr_at, if_neg (by omega), wr_at, if_neg (by omega), wr_at, if_neg (by omega), wr_at, if_neg (by omega)]
    have z32 : H.2[632]? = some (.inr (1, 80000, .inl J')) := (zr 632 (by omega)).trans (jouH_J (by omega))
    have z33 : H.2[633]? = some (.inr (1, 2, .inl (px_up W q (nI (yR S + (6 + c)))))) := (zr 633 (by omega)).trans (jouH_W (by omega))
    have z : ∀ {r : Nat} {x : px_C}, h.2[r]? = some x → ¬ (621 ≤ r ∧ r ≤ 626) → r ≠ 632 → r ≠ 633 → H.2[r]? = some x := fun e a b c => by rw [zr _ a, jouH_at (fun q => b q.symm) (fun q => c q.symm)]; exact e
    refine hQ1 (fun k hk e => zn k hk (by rw [e2 k hk]; exact e)) b6 g H ?_ ?_ ?_ ?_
    · refine ⟨⟨J', z32, wroteM_J a2 uJ⟩, ⟨_, z33, up_same _ _ _⟩, ⟨C, z c1 (by omega) (by decide) (by decide), c2⟩, ⟨_, z21, up_same _ _ _⟩, ⟨_, z22, fun k hk => ?_⟩, ⟨_, _, _, _, U + c, z23, z24, z25, z26, up_same _ _ _, ?_, fun k hk => ?_⟩, ⟨kk, z g1 (by omega) (by decide) (by decide), g2⟩, ⟨ky, z h1 (by omega) (by decide) (by decide), h2⟩, ⟨kl, z i1 (by omega) (by decide) (by decide), i2⟩, ⟨G, z j1 (by omega) (by decide) (by decide), j2⟩, T, z k1 (by omega) (by decide) (by decide), k2⟩
      · show px_up D (61 * q + yB S) (dig d c) (61 * q + k) = px_up (yD S) (yB S) (dig d c) k
        by_cases e : k = yB S
        · rw [e, up_same, up_same]
        · rw [up_ne (by omega), up_ne e]; exact e2 k (by have : k < yB S + 1 := hk; omega)
      · show U + c ≤ yR S + (6 + c) ∧ U + c = sumY (px_up (yL S) (yB S) c) (yB S + 1)
        rw [sumY_new]; omega
      · show px_up sz (61 * q + yB S) (nI c) (61 * q + k) = nI (px_up (yL S) (yB S) c k) ∧ ∃ u, px_up fr (61 * q + yB S) (nI U) (61 * q + k) = nI u ∧ (u + px_up (yL S) (yB S) c k ≤ U + c ∧ u = sumY (px_up (yL S) (yB S) c) k) ∧ ∀ m, m < px_up (yL S) (yB S) c k → bt' (40000 * q + u + m) = (addJ S (6 + c) (recB 1 c d)).2.1 (px_up (yP S) (yB S) (yR S + 5) k + m)
        by_cases e : k = yB S
        · rw [e, up_same, up_same, up_same, up_same]
          refine ⟨rfl, U, rfl, ⟨Nat.le_refl _, by rw [sumY_old (Nat.le_refl _)]; exact f6.2⟩, fun m hm => ?_⟩
          rw [ub.2 m hm, addJ_new (by omega), show yR S + 5 + m - yR S = 5 + m by omega, rec_d hm]
        · rw [up_ne (by omega), up_ne e, up_ne (by omega), up_ne e]
          obtain ⟨x1, u0, x2, x3, x4⟩ := f7 k (by have : k < yB S + 1 := hk; omega)
          refine ⟨x1, u0, x2, ⟨by omega, by rw [sumY_old (by have : k < yB S + 1 := hk; omega)]; exact x3.2⟩, fun m hm => ?_⟩
          have := v6 k (by have : k < yB S + 1 := hk; omega)
          rw [ub.1 _ (by omega), x4 m hm, addJ_old (by omega)]
    · intro q2 S2 hq2 hne w2 c9
      obtain ⟨⟨J0, a1', a2'⟩, ⟨W0, b1', b2'⟩, ⟨C', c1', c2'⟩, ⟨bl', d1', d2'⟩, ⟨D', e1', e2'⟩, ⟨fr', sz', by', us', U', f1', f2', f3', f4', f5', f6', f7'⟩, ⟨kk', g1', g2'⟩, ⟨ky', h1', h2'⟩, ⟨kl', i1', i2'⟩, ⟨G', j1', j2'⟩, T', k1', k2'⟩ := c9
      cases a1.symm.trans a1'
      cases b1.symm.trans b1'
      cases d1.symm.trans d1'
      cases e1.symm.trans e1'
      cases f1.symm.trans f1'
      cases f2.symm.trans f2'
      cases f3.symm.trans f3'
      cases f4.symm.trans f4'
      obtain ⟨r1, r2, r3, r4, r5, r6, r7⟩ := w2
      refine ⟨⟨J', z32, fun j hj => by rw [wroteM_2 hq hq2 hne g uJ (by omega)]; exact a2' j hj⟩, ⟨_, z33, by rw [up_ne hne]; exact b2'⟩, ⟨C', z c1' (by omega) (by decide) (by decide), c2'⟩, ⟨_, z21, by rw [up_ne hne]; exact d2'⟩, ⟨_, z22, fun k hk => by rw [up_ne (by omega)]; exact e2' k hk⟩, ⟨_, _, _, _, U', z23, z24, z25, z26, by rw [up_ne hne]; exact f5', f6', fun k hk => ?_⟩, ⟨kk', z g1' (by omega) (by decide) (by decide), g2'⟩, ⟨ky', z h1' (by omega) (by decide) (by decide), h2'⟩, ⟨kl', z i1' (by omega) (by decide) (by decide), i2'⟩, ⟨G', z j1' (by omega) (by decide) (by decide), j2'⟩, T', z k1' (by omega) (by decide) (by decide), k2'⟩
      obtain ⟨x1, u0, x2, x3, x4⟩ := f7' k hk
      refine ⟨by rw [up_ne (by omega)]; exact x1, u0, by rw [up_ne (by omega)]; exact x2, x3, fun m hm => ?_⟩
      rw [ub.1 _ (by omega)]; exact x4 m hm
    · rw [← hH]; unfold ablH jouH
      exact frm_wr (frm_wr (frm_wr (frm_wr (frm_wr (frm_wr (frm_wr (frm_wr (frm_refl _ _) ⟨by decide, by decide⟩) ⟨by decide, by decide⟩) ⟨by decide, by decide⟩) ⟨by decide, by decide⟩) ⟨by decide, by decide⟩) ⟨by decide, by decide⟩) ⟨by decide, by decide⟩) ⟨by decide, by decide⟩
    · rw [← hH]; unfold ablH jouH
      refine shape_wr (shape_wr (shape_wr (shape_wr (shape_wr (shape_wr (shape_wr (shape_wr hS ?_) ?_) ?_) ?_) ?_) ?_) ?_) ?_ <;> rfl
end RYS
