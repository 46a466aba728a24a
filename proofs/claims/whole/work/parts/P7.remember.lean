/-! REMEMBER as a step of a yard's state -/
def hasK (S : yS) (a v : Int64) : Prop := ∃ k, k < yK S ∧ yX S k = a ∧ yE S k = v
def remY (S : yS) (a v : Int64) (S' : yS) : Prop := (S' = S ∧ hasK S a v) ∨ (¬ hasK S a v ∧ remS S a v S' ∧ yR S + 22 ≤ 40000)
def remN (S : yS) (a v : Int64) : Prop := ((∀ k, k < yK S → ¬ yX S k = a) ∧ yK S = 60) ∨ (¬ hasK S a v ∧ 40000 < yR S + 22)
set_option maxRecDepth 16384 in
theorem remS_det {S S1 S2 : yS} {a v : Int64} (hk : WKy S) (h1 : remS S a v S1) (h2 : remS S a v S2) : S1 = S2 := by
  rcases h1 with ⟨k, a1, a2, rfl⟩ | ⟨a1, a2, rfl⟩ <;> rcases h2 with ⟨k', b1, b2, rfl⟩ | ⟨b1, b2, rfl⟩
  · rw [hk k k' a1 b1 (a2.trans b2.symm)]
  · exact absurd a2 (b1 k a1)
  · exact absurd b2 (a1 k' b1)
  · rfl
set_option maxRecDepth 16384 in
theorem remY_det {S S1 S2 : yS} {a v : Int64} (hk : WKy S) (h1 : remY S a v S1) (h2 : remY S a v S2) : S1 = S2 := by
  rcases h1 with ⟨rfl, a1⟩ | ⟨a1, a2, -⟩ <;> rcases h2 with ⟨rfl, b1⟩ | ⟨b1, b2, -⟩
  · rfl
  · exact absurd a1 b1
  · exact absurd b1 a1
  · exact remS_det hk a2 b2
set_option maxRecDepth 16384 in
theorem remYN {S S1 : yS} {a v : Int64} (h1 : remY S a v S1) (h2 : remN S a v) : False := by
  rcases h1 with ⟨-, k, a1, a2, a3⟩ | ⟨a1, a2, a3⟩ <;> rcases h2 with ⟨b1, b2⟩ | ⟨b1, b2⟩
  · exact b1 k a1 a2
  · exact b1 ⟨k, a1, a2, a3⟩
  · rcases a2 with ⟨k, c1, c2, -⟩ | ⟨-, c1, -⟩
    · exact b1 k c1 c2
    · omega
  · omega
set_option maxRecDepth 16384 in
theorem rem_ok {S S' : yS} {a v : Int64} (ok : yOK S) (h : remY S a v S') : yOK S' := by
  rcases h with ⟨rfl, -⟩ | ⟨-, h1, h2⟩
  · exact ok
  · exact yOK_stp ok (.inr (.inr (.inr ⟨a, v, h1, h2⟩)))
section CREM
variable {sx : Nat × (Nat → Int32)} {h : px_H} {Y q : Nat} {S : yS} {a v : Int64} {V : Nat → Int32} {Q : px_O → px_H → Prop}
set_option maxRecDepth 16384 in
theorem cy_key {K' : Nat} {X' F' ky' kl' : Nat → Int64} {f f' : Nat → Int32} (cy : CY h Y S) (a1 : rowAt h (Y + 1) 40000 (yR S) f) (a2 : ∀ j, j < yR S → f j &&& 255 = yJ S j) (hR : yR S + 22 ≤ 40000) (u : wrote f f' (yR S) (recB 4 16 (keyB a v)) 22) (hx : ∀ k, k < K' → ky' k = X' k) (he : ∀ k, k < K' → kl' k = F' k) :
    CY (keyH (rowH h (Y + 1) 40000 (yR S + 22) f') Y (nI (yC S)) (nI (yB S)) K' ky' kl') Y (yRem S a v K' X' F') ∧ frm (cyA Y) h (keyH (rowH h (Y + 1) 40000 (yR S + 22) f') Y (nI (yC S)) (nI (yB S)) K' ky' kl') ∧ (shape h → shape (keyH (rowH h (Y + 1) 40000 (yR S + 22) f') Y (nI (yC S)) (nI (yB S)) K' ky' kl')) := by
  obtain ⟨-, b0, ⟨D, c1, c2⟩, ⟨st, d1, d2⟩, ⟨ln, l1, l2⟩, ⟨mk, f1⟩, ⟨ky, g1, g2⟩, ⟨kl, h1, h2⟩, ⟨G, i1, i2⟩, T, j1, j2⟩ := cy
  have hl10 : Y + 10 < h.2.length := (List.getElem?_eq_some_iff.mp j1).1
  have hl : Y + 1 + 1 < h.2.length := by omega
  have z : ∀ {r : Nat} {x : px_C}, h.2[r]? = some x → Y ≠ r → Y + 7 ≠ r → Y + 8 ≠ r → Y + 1 ≠ r → Y + 1 + 1 ≠ r → (keyH (rowH h (Y + 1) 40000 (yR S + 22) f') Y (nI (yC S)) (nI (yB S)) K' ky' kl').2[r]? = some x := fun ee p1 p2 p3 p4 p5 => by rw [keyH_at p1 p2 p3, rowH_at p4 p5]; exact ee
  refine ⟨⟨⟨f', ⟨?_, ?_, hR, by decide⟩, wrote_J a2 u⟩, ?_, ⟨D, z c1 (by omega) (by omega) (by omega) (by omega) (by omega), c2⟩, ⟨st, z d1 (by omega) (by omega) (by omega) (by omega) (by omega), d2⟩, ⟨ln, z l1 (by omega) (by omega) (by omega) (by omega) (by omega), l2⟩, ⟨mk, z f1 (by omega) (by omega) (by omega) (by omega) (by omega)⟩, ⟨ky', ?_, hx⟩, ⟨kl', ?_, he⟩, ⟨G, z i1 (by omega) (by omega) (by omega) (by omega) (by omega), i2⟩, T, z j1 (by omega) (by omega) (by omega) (by omega) (by omega), j2⟩, ?_, fun hs => ?_⟩
  · rw [keyH_at (by omega) (by omega) (by omega)]; exact rowH_r hl
  · rw [keyH_at (by omega) (by omega) (by omega)]; exact rowH_c hl
  · unfold keyH; rw [wr_at, if_pos rfl, if_pos (by simp only [px_wr_len, rowH_len]; omega)]; rfl
  · unfold keyH; rw [wr_at, if_neg (by omega), wr_at, if_neg (by omega), wr_at, if_pos rfl, if_pos (by rw [rowH_len]; omega)]
  · unfold keyH; rw [wr_at, if_neg (by omega), wr_at, if_pos rfl, if_pos (by simp only [px_wr_len, rowH_len]; omega)]
  · unfold keyH
    exact frm_wr (frm_wr (frm_wr (frm_row (frm_refl _ _) ⟨by omega, by omega⟩ ⟨by omega, by omega⟩) ⟨by omega, by omega⟩) ⟨by omega, by omega⟩) ⟨by omega, by omega⟩
  · unfold keyH
    have s0 := shape_row (n' := yR S + 22) (f' := f') hs a1
    have s1 := shape_la (g := ky') s0 (r := Y + 7) (by rw [rowH_at (by omega) (by omega)]; exact g1)
    have s2 := shape_la (g := kl') s1 (r := Y + 8) (by rw [wr_at, if_neg (by omega), rowH_at (by omega) (by omega)]; exact h1)
    exact shape_int (k := 9) (y := nI K') s2 (r := Y) (c := 7) (fs := yrdF Y (nI (yC S)) (nI (yB S)) (nI (yK S))) (by rw [wr_at, if_neg (by omega), wr_at, if_neg (by omega), rowH_at (by omega) (by omega)]; exact b0) rfl
set_option maxRecDepth 16384 in
theorem cy_rem2 (hw : WFy S) (hk : WKy S) (cy : CY h Y S) (hY : ∀ S' h', remY S a v S' → CY h' Y S' → frm (cyA Y) h h' → (shape h → shape h') → Q (.inl (some (.int 1))) h') (hN : remN S a v → Q (.inl (some (.int 0))) h) :
    px_Wp sx 97 0 [some (.ref Y), some (.long a), none, some (.long v), none, none, none] [] h Q := by
  have cy' := cy
  obtain ⟨⟨f, a1, a2⟩, b0, -, -, -, -, ⟨ky, g1, g2⟩, ⟨kl, h1, h2⟩, -, -⟩ := cy
  have hK := hw.2.2.2.1
  have uq : ∀ k k', k < yK S → k' < yK S → ky k = a → ky k' = a → k = k' := fun k k' p1 p2 e1 e2 => hk k k' p1 p2 (by rw [← g2 k p1, ← g2 k' p2, e1, e2])
  refine c_remember a1 b0 g1 h1 hK (fun k k1 k2 _ k4 => ?_) (fun z => ?_) (fun hR f' u => ⟨fun k k1 k2 _ k4 => ?_, fun no k6 => ?_⟩)
  · exact hY S h (.inl ⟨rfl, k, k1, by rw [← g2 k k1]; exact k2, by rw [← h2 k k1]; exact k4⟩) cy' (frm_refl _ _) (fun s => s)
  · refine hN ?_
    rcases z with ⟨z1, z2⟩ | ⟨z1, z2⟩
    · exact .inl ⟨fun k k1 e => z1 k k1 (by rw [g2 k k1]; exact e), z2⟩
    · refine .inr ⟨?_, z1⟩
      rintro ⟨k, k1, k2, k3⟩
      have k2' : ky k = a := by rw [g2 k k1]; exact k2
      rcases z2 with z2 | ⟨k', c1, c2, -, c4⟩
      · exact z2 k k1 k2'
      · have := uq k k' k1 c1 k2' c2
        subst this
        exact c4 (by rw [h2 k k1]; exact k3)
  · have nk : ¬ hasK S a v := fun ⟨k', c1, c2, c3⟩ => by
      have := uq k k' k1 c1 k2 (by rw [g2 k' c1]; exact c2)
      subst this
      exact k4 (by rw [h2 k c1]; exact c3)
    have hh : px_wr (rowH h (Y + 1) 40000 (yR S + 22) f') (Y + 8) (.inr (2, 60, .inr (.inl (px_up kl k v)))) = keyH (rowH h (Y + 1) 40000 (yR S + 22) f') Y (nI (yC S)) (nI (yB S)) (yK S) ky (px_up kl k v) := (keyH_same (by rw [rowH_at (by omega) (by omega)]; exact b0) (by rw [rowH_at (by omega) (by omega)]; exact g1)).symm
    rw [hh]
    obtain ⟨t1, t2, t3⟩ := cy_key (a := a) (v := v) (K' := yK S) (X' := yX S) (F' := px_up (yE S) k v) (ky' := ky) (kl' := px_up kl k v) cy' a1 a2 hR u g2 (fun i hi => by
      by_cases x : i = k
      · subst x; rw [up_same, up_same]
      · rw [up_ne x, up_ne x]; exact h2 i hi)
    exact hY _ _ (.inr ⟨nk, .inl ⟨k, k1, by rw [← g2 k k1]; exact k2, rfl⟩, hR⟩) t1 t2 t3
  · have nk : ¬ hasK S a v := fun ⟨k', c1, c2, c3⟩ => no k' c1 (by rw [g2 k' c1]; exact c2)
    obtain ⟨t1, t2, t3⟩ := cy_key (a := a) (v := v) (K' := yK S + 1) (X' := px_up (yX S) (yK S) a) (F' := px_up (yE S) (yK S) v) (ky' := px_up ky (yK S) a) (kl' := px_up kl (yK S) v) cy' a1 a2 hR u (fun i hi => by
      by_cases x : i = yK S
      · subst x; rw [up_same, up_same]
      · rw [up_ne x, up_ne x]; exact g2 i (by omega)) (fun i hi => by
      by_cases x : i = yK S
      · subst x; rw [up_same, up_same]
      · rw [up_ne x, up_ne x]; exact h2 i (by omega))
    exact hY _ _ (.inr ⟨nk, .inr ⟨fun k k1 e => no k k1 (by rw [g2 k k1]; exact e), k6, rfl⟩, hR⟩) t1 t2 t3
/-- the heap behind a remembered key -/
def kmH (h : px_H) (V row J W kk : Nat → Int32) (ky kl : Nat → Int64) : px_H := px_wr (px_wr (px_wr (jouH (outH h V row) J W) 629 (.inr (1, 2, .inl kk))) 630 (.inr (2, 120, .inr (.inl ky)))) 631 (.inr (2, 120, .inr (.inl kl)))
set_option maxRecDepth 16384 in
theorem kmH_at {V row J W kk : Nat → Int32} {ky kl : Nat → Int64} {r : Nat} (h1 : r ≠ 619) (h2 : r ≠ 636) (h3 : r ≠ 632) (h4 : r ≠ 633) (h5 : r ≠ 629) (h6 : r ≠ 630) (h7 : r ≠ 631) : (kmH h V row J W kk ky kl).2[r]? = h.2[r]? := by
  unfold kmH; rw [wr_at, if_neg (fun e => h7 e.symm), wr_at, if_neg (fun e => h6 e.symm), wr_at, if_neg (fun e => h5 e.symm), jouH_at (fun e => h3 e.symm) (fun e => h4 e.symm), outH_at (fun e => h2 e.symm) (fun e => h1 e.symm)]
set_option maxRecDepth 16384 in
theorem km_shape {J W kk row : Nat → Int32} {ky kl : Nat → Int64} (hS : shape h) : shape (kmH h V row J W kk ky kl) := by
  unfold kmH jouH outH
  refine shape_wr (shape_wr (shape_wr (shape_wr (shape_wr (shape_wr (shape_wr hS ?_) ?_) ?_) ?_) ?_) ?_) ?_ <;> rfl
set_option maxRecDepth 16384 in
theorem km_frm {J W kk row : Nat → Int32} {ky kl : Nat → Int64} : frm ryA h (kmH h V row J W kk ky kl) := by
  unfold kmH jouH outH
  exact frm_wr (frm_wr (frm_wr (frm_wr (frm_wr (frm_wr (frm_wr (frm_refl _ _) (.inr (.inl rfl))) (.inl rfl)) (.inr (.inr ⟨by decide, by decide⟩))) (.inr (.inr ⟨by decide, by decide⟩))) (.inr (.inr ⟨by decide, by decide⟩))) (.inr (.inr ⟨by decide, by decide⟩))) (.inr (.inr ⟨by decide, by decide⟩))
set_option maxRecDepth 16384 in
theorem km_6 {J W kk row : Nat → Int32} {ky kl : Nat → Int64} (hS : shape h) : (kmH h V row J W kk ky kl).2[619]? = some (.inl (11, modF V)) := by
  have hl := hS.1
  unfold kmH; rw [wr_at, if_neg (by decide), wr_at, if_neg (by decide), wr_at, if_neg (by decide), jouH_at (by decide) (by decide)]; exact outH_o (by omega)
set_option maxRecDepth 16384 in
theorem ry_key {J W J' kk kk' row' : Nat → Int32} {V' : Nat → Int32} {K' : Nat} {X' F' ky kl ky' kl' : Nat → Int64} (hS : shape h) (hw : WFy S) (hq : q < 2) (c : RY h q S) (hn : yR S + 22 ≤ 40000) (hJ : h.2[632]? = some (.inr (1, 80000, .inl J))) (hW : h.2[633]? = some (.inr (1, 2, .inl W))) (hkk : h.2[629]? = some (.inr (1, 2, .inl kk))) (hky : h.2[630]? = some (.inr (2, 120, .inr (.inl ky)))) (hkl : h.2[631]? = some (.inr (2, 120, .inr (.inl kl))))
    (u : wroteM J J' (40000 * q + yR S) (recB 4 16 (keyB a v)) 22) (hK : kk' q = nI K') (hK2 : ∀ q2, q2 ≠ q → kk' q2 = kk q2) (hx : ∀ k, k < K' → ky' (60 * q + k) = X' k) (he : ∀ k, k < K' → kl' (60 * q + k) = F' k) (hx2 : ∀ i, (i < 60 * q ∨ 60 * q + 60 ≤ i) → ky' i = ky i ∧ kl' i = kl i) :
    RY (kmH h V' row' J' (px_up W q (nI (yR S + 22))) kk' ky' kl') q (yRem S a v K' X' F') ∧ ∀ q2 S2, q2 < 2 → q2 ≠ q → WFy S2 → RY h q2 S2 → RY (kmH h V' row' J' (px_up W q (nI (yR S + 22))) kk' ky' kl') q2 S2 := by
  have hl := hS.1
  generalize hhk : kmH h V' row' J' (px_up W q (nI (yR S + 22))) kk' ky' kl' = hk
  have z32 : hk.2[632]? = some (.inr (1, 80000, .inl J')) := by
    rw [← hhk]; unfold kmH; rw [wr_at, if_neg (by decide), wr_at, if_neg (by decide), wr_at, if_neg (by decide)]; exact jouH_J (by rw [outH_len]; omega)
  have z33 : hk.2[633]? = some (.inr (1, 2, .inl (px_up W q (nI (yR S + 22))))) := by
    rw [← hhk]; unfold kmH; rw [wr_at, if_neg (by decide), wr_at, if_neg (by decide), wr_at, if_neg (by decide)]; exact jouH_W (by rw [outH_len]; omega)
  have z29 : hk.2[629]? = some (.inr (1, 2, .inl kk')) := by
    rw [← hhk]; unfold kmH; rw [wr_at, if_neg (by decide), wr_at, if_neg (by decide), wr_at, if_pos rfl, if_pos (by rw [jouH_len, outH_len]; omega)]
  have z30 : hk.2[630]? = some (.inr (2, 120, .inr (.inl ky'))) := by
    rw [← hhk]; unfold kmH; rw [wr_at, if_neg (by decide), wr_at, if_pos rfl, if_pos (by rw [px_wr_len, jouH_len, outH_len]; omega)]
  have z31 : hk.2[631]? = some (.inr (2, 120, .inr (.inl kl'))) := by
    rw [← hhk]; unfold kmH; rw [wr_at, if_pos rfl, if_pos (by rw [px_wr_len, px_wr_len, jouH_len, outH_len]; omega)]
  have z : ∀ {r : Nat} {x : px_C}, h.2[r]? = some x → (r ≠ 619 ∧ r ≠ 636 ∧ r ≠ 632 ∧ r ≠ 633 ∧ r ≠ 629 ∧ r ≠ 630 ∧ r ≠ 631) → hk.2[r]? = some x := fun e p => by rw [← hhk]; exact (kmH_at p.1 p.2.1 p.2.2.1 p.2.2.2.1 p.2.2.2.2.1 p.2.2.2.2.2.1 p.2.2.2.2.2.2).trans e
  constructor
  · obtain ⟨⟨J0, a1, a2⟩, ⟨W0, b1, b2⟩, ⟨C, c1, c2⟩, ⟨bl, d1, d2⟩, ⟨D, e1, e2⟩, ⟨fr, sz, by_, us, U, f1, f2, f3, f4, f5, f6, f7⟩, ⟨kk0, g1, g2⟩, ⟨ky0, h1, h2⟩, ⟨kl0, i1, i2⟩, ⟨G0, j1, j2⟩, T0, k1, k2⟩ := c
    cases hJ.symm.trans a1
    cases hW.symm.trans b1
    refine ⟨⟨J', z32, wroteM_J a2 u⟩, ⟨_, z33, up_same _ _ _⟩, ⟨C, z c1 (by decide), c2⟩, ⟨bl, z d1 (by decide), d2⟩, ⟨D, z e1 (by decide), e2⟩, ⟨fr, sz, by_, us, U, z f1 (by decide), z f2 (by decide), z f3 (by decide), z f4 (by decide), f5, ⟨Nat.le_trans f6.1 (Nat.le_add_right _ _), f6.2⟩, fun k hk' => ?_⟩, ⟨kk', z29, hK⟩, ⟨ky', z30, hx⟩, ⟨kl', z31, he⟩, ⟨G0, z j1 (by decide), j2⟩, T0, z k1 (by decide), k2⟩
    obtain ⟨x1, u0, x2, x3, x4⟩ := f7 k hk'
    exact ⟨x1, u0, x2, x3, fun m hm => by rw [x4 m hm]; exact (addJ_old (by have := hw.2.2.2.2.2.1 k hk'; have hm' : m < yL S k := hm; show yP S k + m < yR S; omega)).symm⟩
  · intro q2 S2 hq2 hne w2 c
    obtain ⟨⟨J0, a1, a2⟩, ⟨W0, b1, b2⟩, ⟨C, c1, c2⟩, ⟨bl, d1, d2⟩, ⟨D, e1, e2⟩, ⟨fr, sz, by_, us, U, f1, f2, f3, f4, f5, f6, f7⟩, ⟨kk0, g1, g2⟩, ⟨ky0, h1, h2⟩, ⟨kl0, i1, i2⟩, ⟨G0, j1, j2⟩, T0, k1, k2⟩ := c
    cases hJ.symm.trans a1
    cases hW.symm.trans b1
    cases hkk.symm.trans g1
    cases hky.symm.trans h1
    cases hkl.symm.trans i1
    have r4 := w2.1
    have k60 := w2.2.2.2.1
    exact ⟨⟨J', z32, fun j hj => by rw [wroteM_2 hq hq2 hne hn u (by omega)]; exact a2 j hj⟩, ⟨_, z33, by rw [up_ne hne]; exact b2⟩, ⟨C, z c1 (by decide), c2⟩, ⟨bl, z d1 (by decide), d2⟩, ⟨D, z e1 (by decide), e2⟩, ⟨fr, sz, by_, us, U, z f1 (by decide), z f2 (by decide), z f3 (by decide), z f4 (by decide), f5, f6, f7⟩, ⟨kk', z29, by rw [hK2 q2 hne]; exact g2⟩, ⟨ky', z30, fun k hk' => by rw [(hx2 (60 * q2 + k) (by omega)).1]; exact h2 k hk'⟩, ⟨kl', z31, fun k hk' => by rw [(hx2 (60 * q2 + k) (by omega)).2]; exact i2 k hk'⟩, ⟨G0, z j1 (by decide), j2⟩, T0, z k1 (by decide), k2⟩
set_option maxRecDepth 16384 in
theorem ry_rem2 (hS : shape h) (hw : WFy S) (hk : WKy S) (hq : q < 2) (c : RY h q S) (h6 : h.2[619]? = some (.inl (11, modF V)))
    (hY : ∀ S' h' V', remY S a v S' → RY h' q S' → (∀ q2 S2, q2 < 2 → q2 ≠ q → WFy S2 → RY h q2 S2 → RY h' q2 S2) → frm ryA h h' → shape h' → h'.2[619]? = some (.inl (11, modF V')) → vSame V V' → Q (.inl (some (.int 1))) h') (hN : remN S a v → Q (.inl (some (.int 0))) h) :
    px_Wp sx 222 0 [some (.ref 619), some (.int (nI q)), some (.long a), none, some (.long v), none, none] [] h Q := by
  have hl := hS.1
  have c' := c
  obtain ⟨⟨J, a1, a2⟩, ⟨W, b1, b2⟩, -, -, -, -, ⟨kk, g1, g2⟩, ⟨ky, h1, h2⟩, ⟨kl, i1, i2⟩, -, -⟩ := c
  have hK := hw.2.2.2.1
  have uq : ∀ k k', k < yK S → k' < yK S → ky (60 * q + k) = a → ky (60 * q + k') = a → k = k' := fun k k' p1 p2 e1 e2 => hk k k' p1 p2 (by rw [← h2 k p1, ← h2 k' p2, e1, e2])
  refine m_cache (by omega) hq h6 (at_636 hS) a1 b1 g1 h1 i1 hK g2 b2 hw.1 (fun k k1 k2 _ k4 => ?_) (fun z => ?_) (fun hR row' J' u => ⟨fun k k1 k2 _ k4 => ?_, fun no k6 => ?_⟩)
  · exact hY S h V (.inl ⟨rfl, k, k1, by rw [← h2 k k1]; exact k2, by rw [← i2 k k1]; exact k4⟩) c' (fun _ _ _ _ _ y => y) (frm_refl _ _) hS h6 (fun _ _ => rfl)
  · refine hN ?_
    rcases z with ⟨z1, z2⟩ | ⟨z1, z2⟩
    · exact .inl ⟨fun k k1 e => z1 k k1 (by rw [h2 k k1]; exact e), z2⟩
    · refine .inr ⟨?_, z1⟩
      rintro ⟨k, k1, k2, k3⟩
      have k2' : ky (60 * q + k) = a := by rw [h2 k k1]; exact k2
      rcases z2 with z2 | ⟨k', c1, c2, -, c4⟩
      · exact z2 k k1 k2'
      · have := uq k k' k1 c1 k2' c2
        subst this
        exact c4 (by rw [i2 k k1]; exact k3)
  · have nk : ¬ hasK S a v := fun ⟨k', c1, c2, c3⟩ => by
      have := uq k k' k1 c1 k2 (by rw [h2 k' c1]; exact c2)
      subst this
      exact k4 (by rw [i2 k c1]; exact c3)
    have hh : px_wr (px_wr (jouH (outH h (px_up V 17 (nI 16)) row') J' (px_up W q (nI (yR S + 22)))) 630 (.inr (2, 120, .inr (.inl (px_up ky (60 * q + k) a))))) 631 (.inr (2, 120, .inr (.inl (px_up kl (60 * q + k) v)))) = kmH h (px_up V 17 (nI 16)) row' J' (px_up W q (nI (yR S + 22))) kk (px_up ky (60 * q + k) a) (px_up kl (60 * q + k) v) := by
      unfold kmH
      rw [wr_id (h := jouH (outH h (px_up V 17 (nI 16)) row') J' (px_up W q (nI (yR S + 22)))) (r := 629) (by rw [jouH_at (by decide) (by decide), outH_at (by decide) (by decide)]; exact g1)]
    rw [hh]
    obtain ⟨t1, t2⟩ := ry_key (a := a) (v := v) (V' := px_up V 17 (nI 16)) (row' := row') (K' := yK S) (X' := yX S) (F' := px_up (yE S) k v) (kk' := kk) (ky' := px_up ky (60 * q + k) a) (kl' := px_up kl (60 * q + k) v) hS hw hq c' hR a1 b1 g1 h1 i1 u g2 (fun _ _ => rfl) (fun i hi => by
      by_cases x : i = k
      · subst x; rw [up_same, ← h2 i hi]; exact k2.symm
      · rw [up_ne (by omega)]; exact h2 i hi) (fun i hi => by
      by_cases x : i = k
      · subst x; rw [up_same, up_same]
      · rw [up_ne (by omega), up_ne x]; exact i2 i hi) (fun i hi => ⟨by rw [up_ne (by omega)], by rw [up_ne (by omega)]⟩)
    exact hY _ _ _ (.inr ⟨nk, .inl ⟨k, k1, by rw [← h2 k k1]; exact k2, rfl⟩, hR⟩) t1 t2 km_frm (km_shape hS) (km_6 hS) (fun j hj => up_ne hj)
  · have nk : ¬ hasK S a v := fun ⟨k', c1, c2, c3⟩ => no k' c1 (by rw [h2 k' c1]; exact c2)
    obtain ⟨t1, t2⟩ := ry_key (a := a) (v := v) (V' := px_up V 17 (nI 16)) (row' := row') (K' := yK S + 1) (X' := px_up (yX S) (yK S) a) (F' := px_up (yE S) (yK S) v) (kk' := px_up kk q (nI (yK S + 1))) (ky' := px_up ky (60 * q + yK S) a) (kl' := px_up kl (60 * q + yK S) v) hS hw hq c' hR a1 b1 g1 h1 i1 u (up_same _ _ _) (fun q2 hne => up_ne hne) (fun i hi => by
      by_cases x : i = yK S
      · subst x; rw [up_same, up_same]
      · rw [up_ne (by omega), up_ne x]; exact h2 i (by omega)) (fun i hi => by
      by_cases x : i = yK S
      · subst x; rw [up_same, up_same]
      · rw [up_ne (by omega), up_ne x]; exact i2 i (by omega)) (fun i hi => ⟨by rw [up_ne (by omega)], by rw [up_ne (by omega)]⟩)
    exact hY _ _ _ (.inr ⟨nk, .inr ⟨fun k k1 e => no k k1 (by rw [h2 k k1]; exact e), k6, rfl⟩, hR⟩) t1 t2 km_frm (km_shape hS) (km_6 hS) (fun j hj => up_ne hj)
end CREM
