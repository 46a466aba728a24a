/-! CRASH, the reference's -/
section MCR
variable {sx : Nat × (Nat → Int32)} {h : px_H} {q N : Nat} {hs : Nat → yS} {S : yS} {V : Nat → Int32} {Q : px_O → px_H → Prop}
/-- the heap of a yard emptied -/
def noH (h : px_H) (bl us kk T : Nat → Int32) : px_H := px_wr (px_wr (px_wr (px_wr h 621 (.inr (1, 2, .inl bl))) 626 (.inr (1, 2, .inl us))) 629 (.inr (1, 2, .inl kk))) 628 (.inr (3, 16, .inl T))
set_option maxRecDepth 16384 in
theorem noH_ne {bl us kk T : Nat → Int32} {r : Nat} (h1 : r ≠ 621) (h2 : r ≠ 626) (h3 : r ≠ 629) (h4 : r ≠ 628) : (noH h bl us kk T).2[r]? = h.2[r]? := by
  unfold noH; rw [wr_at, if_neg (fun e => h4 e.symm), wr_at, if_neg (fun e => h3 e.symm), wr_at, if_neg (fun e => h2 e.symm), wr_at, if_neg (fun e => h1 e.symm)]
set_option maxRecDepth 16384 in
theorem m_noYard_l {bl us kk T0 : Nat → Int32} (hl : 668 < h.2.length) (hq : q < 2) (h6 : h.2[619]? = some (.inl (11, modF V))) (hQ : ∀ T, (∀ j, j < 8 → T (8 * q + j) = 0) → (∀ j, j < 8 * q ∨ 8 * q + 8 ≤ j → T j = T0 j) → Q (.inl none) (noH h bl us kk T)) :
    ∀ n t, t + n = 8 → ∀ T, (∀ j, j < t → T (8 * q + j) = 0) → (∀ j, j < 8 * q ∨ 8 * q + 8 ≤ j → T j = T0 j) → px_Wp sx 239 23 [some (.ref 619), some (.int (nI q)), some (.int (nI t))] [] (noH h bl us kk T) Q := by
  have h6' : ∀ T, (noH h bl us kk T).2[619]? = some (.inl (11, modF V)) := fun T => (noH_ne (by decide) (by decide) (by decide) (by decide)).trans h6
  have h8' : ∀ T, (noH h bl us kk T).2[628]? = some (.inr (3, 16, .inl T)) := fun T => by unfold noH; rw [wr_at, if_pos rfl, if_pos (by simp only [px_wr_len]; omega)]
  have n3 : px_nar 3 0 = 0 := by decide
  intro n
  induction n with
  | zero =>
    intro t ht T hT hO
    have ht : t = 8 := by omega
    subst ht
    simp only [pc239_23, pc239_24, pc239_26, pc239_47, show nI 8 = 8 from rfl, if_pos (Int32.le_refl (8 : Int32))]
    exact hQ T hT hO
  | succ n ih =>
    intro t ht T hT hO
    have hge : ¬ (8 : Int32) ≤ nI t := nI_ge (b := 8) (by omega) (by decide)
    have ij : px_in (nI (8 * q + t)) 16 = true := px_inb (by omega) (by decide)
    have cj : (nI (8 * q + t)).toNatClampNeg = 8 * q + t := nI_clamp (by omega)
    have e : px_wr (noH h bl us kk T) 628 (.inr (3, 16, .inl (px_up T (8 * q + t) 0))) = noH h bl us kk (px_up T (8 * q + t) 0) := by unfold noH; rw [px_wr_wr]
    rw [pc239_23]
    simp only [pc239_24, pc239_26, pc239_29, pc239_29n, pc239_30, pc239_33, pc239_35, pc239_36, pc239_37, pc239_38, pc239_39, pc239_40, pc239_41, pc239_44, px_op_some, px_kv_ap, px_ki_ap, px_kl_ap, px_kn_ap, px_kh_ap, px_op_none, px_K_some, px_K_none, px_K_thr, px_kill, ↓reduceIte, if_true, if_false, true_and, and_true, px_gf, px_pf, px_ai, px_aj, px_aa, px_wi, px_wj, px_wa, px_an, px_cls, tg_b3, px_kill, if_neg hge, h6', h8', mf_10, mul_8 hq, nI_add, ij, cj, and_self, n3, e, nI_1]
    refine ih (t + 1) (by omega) _ (fun j hj => ?_) (fun j hj => ?_)
    · by_cases e : j = t
      · subst e; exact up_same _ _ _
      · rw [up_ne (by omega)]; exact hT j (by omega)
    · rw [up_ne (by omega)]; exact hO j hj
set_option maxRecDepth 16384 in
theorem m_noYard (hS : shape h) (hq : q < 2) (h6 : h.2[619]? = some (.inl (11, modF V)))
    (hQ : ∀ h', RYb h' q y0 → othB h h' q → frm rbA h h' → shape h' → h'.2[619]? = some (.inl (11, modF V)) → Q (.inl none) h') :
    px_Wp sx 239 0 [some (.ref 619), some (.int (nI q)), none] [] h Q := by
  have hl := hS.1
  have iq : px_in (nI q) 2 = true := px_inb hq (by decide)
  have cq : (nI q).toNatClampNeg = q := nI_clamp (by omega)
  have n1 : ∀ x : Int32, px_nar 1 x = x := fun _ => rfl
  have e0 : px_wr (px_wr (px_wr h 621 (.inr (1, 2, .inl (px_up (iA h 621) q 0)))) 626 (.inr (1, 2, .inl (px_up (iA h 626) q 0)))) 629 (.inr (1, 2, .inl (px_up (iA h 629) q 0))) = noH h (px_up (iA h 621) q 0) (px_up (iA h 626) q 0) (px_up (iA h 629) q 0) (iA h 628) := by
    unfold noH; exact (wr_id (by rw [wr_at, if_neg (by decide), wr_at, if_neg (by decide), wr_at, if_neg (by decide)]; exact at_628 hS)).symm
  simp only [pc239_0, pc239_0n, pc239_1, pc239_4, pc239_5, pc239_6, pc239_7, pc239_7n, pc239_8, pc239_11, pc239_12, pc239_13, pc239_14, pc239_14n, pc239_15, pc239_18, pc239_19, pc239_20, pc239_21, pc239_22, px_op_some, px_kv_ap, px_ki_ap, px_kl_ap, px_kn_ap, px_kh_ap, px_op_none, px_K_some, px_K_none, px_K_thr, px_kill, ↓reduceIte, if_true, if_false, true_and, and_true, px_gf, px_pf, px_ai, px_aj, px_aa, px_wi, px_wj, px_wa, px_an, px_cls, tg_i1, px_kill, h6, at_621 hS, at_626 hS, at_629 hS, mf_3, mf_8, mf_11, iq, cq, and_self, n1, wr_at, Nat.reduceEqDiff, e0]
  refine m_noYard_l (T0 := iA h 628) (by omega) hq h6 (fun T hT hO => ?_) 8 0 (by omega) _ (fun j hj => absurd hj (Nat.not_lt_zero j)) (fun _ _ => rfl)
  have z : ∀ {r : Nat} {x : px_C}, h.2[r]? = some x → r ≠ 621 → r ≠ 626 → r ≠ 629 → r ≠ 628 → (noH h (px_up (iA h 621) q 0) (px_up (iA h 626) q 0) (px_up (iA h 629) q 0) T).2[r]? = some x := fun e a b c d => (noH_ne a b c d).trans e
  have z21 : (noH h (px_up (iA h 621) q 0) (px_up (iA h 626) q 0) (px_up (iA h 629) q 0) T).2[621]? = some (.inr (1, 2, .inl (px_up (iA h 621) q 0))) := by unfold noH; rw [wr_at, if_neg (by decide), wr_at, if_neg (by decide), wr_at, if_neg (by decide), wr_at, if_pos rfl, if_pos (by omega)]
  have z26 : (noH h (px_up (iA h 621) q 0) (px_up (iA h 626) q 0) (px_up (iA h 629) q 0) T).2[626]? = some (.inr (1, 2, .inl (px_up (iA h 626) q 0))) := by unfold noH; rw [wr_at, if_neg (by decide), wr_at, if_neg (by decide), wr_at, if_pos rfl, if_pos (by simp only [px_wr_len]; omega)]
  have z29 : (noH h (px_up (iA h 621) q 0) (px_up (iA h 626) q 0) (px_up (iA h 629) q 0) T).2[629]? = some (.inr (1, 2, .inl (px_up (iA h 629) q 0))) := by unfold noH; rw [wr_at, if_neg (by decide), wr_at, if_pos rfl, if_pos (by simp only [px_wr_len]; omega)]
  have z28 : (noH h (px_up (iA h 621) q 0) (px_up (iA h 626) q 0) (px_up (iA h 629) q 0) T).2[628]? = some (.inr (3, 16, .inl T)) := by unfold noH; rw [wr_at, if_pos rfl, if_pos (by simp only [px_wr_len]; omega)]
  refine hQ _ ⟨⟨_, z21, up_same _ _ _⟩, ⟨_, z (at_622 hS) (by decide) (by decide) (by decide) (by decide), fun k hk => absurd hk (Nat.not_lt_zero k)⟩, ⟨_, _, _, _, 0, z (at_623 hS) (by decide) (by decide) (by decide) (by decide), z (at_624 hS) (by decide) (by decide) (by decide) (by decide), z (at_625 hS) (by decide) (by decide) (by decide) (by decide), z26, up_same _ _ _, ⟨Nat.le_refl _, rfl⟩, fun k hk => absurd hk (Nat.not_lt_zero k)⟩, ⟨_, z29, up_same _ _ _⟩, ⟨_, z (at_630 hS) (by decide) (by decide) (by decide) (by decide), fun k hk => absurd hk (Nat.not_lt_zero k)⟩, ⟨_, z (at_631 hS) (by decide) (by decide) (by decide) (by decide), fun k hk => absurd hk (Nat.not_lt_zero k)⟩, ⟨_, z (at_627 hS) (by decide) (by decide) (by decide) (by decide), fun j _ t => Bool.noConfusion (show false = true from t)⟩, T, z28, hT⟩ (fun q2 S2 hq2 hne w2 c9 => ?_) ?_ ?_ (z h6 (by decide) (by decide) (by decide) (by decide))
  · obtain ⟨⟨bl, d1, d2⟩, ⟨D, b1, b2⟩, ⟨fr, sz, bt, us, U, f1, f2, f3, f4, f5, f6, f7⟩, ⟨kk, g1, g2⟩, ⟨ky, h1, h2⟩, ⟨kl, i1, i2⟩, ⟨G0, j1, j2⟩, T0, k1, k2⟩ := c9
    cases (at_621 hS).symm.trans d1
    cases (at_626 hS).symm.trans f4
    cases (at_629 hS).symm.trans g1
    cases (at_628 hS).symm.trans k1
    exact ⟨⟨_, z21, by rw [up_ne hne]; exact d2⟩, ⟨D, z b1 (by decide) (by decide) (by decide) (by decide), b2⟩, ⟨fr, sz, bt, _, U, z f1 (by decide) (by decide) (by decide) (by decide), z f2 (by decide) (by decide) (by decide) (by decide), z f3 (by decide) (by decide) (by decide) (by decide), z26, by rw [up_ne hne]; exact f5, f6, f7⟩, ⟨_, z29, by rw [up_ne hne]; exact g2⟩, ⟨ky, z h1 (by decide) (by decide) (by decide) (by decide), h2⟩, ⟨kl, z i1 (by decide) (by decide) (by decide) (by decide), i2⟩, ⟨G0, z j1 (by decide) (by decide) (by decide) (by decide), j2⟩, T, z28, fun j hj => by rw [hO _ (by omega)]; exact k2 j hj⟩
  · unfold noH
    exact frm_wr (frm_wr (frm_wr (frm_wr (frm_refl _ _) (.inr (.inr ⟨by decide, by decide⟩))) (.inr (.inr ⟨by decide, by decide⟩))) (.inr (.inr ⟨by decide, by decide⟩))) (.inr (.inr ⟨by decide, by decide⟩))
  · unfold noH
    refine shape_wr (shape_wr (shape_wr (shape_wr hS ?_) ?_) ?_) ?_ <;> rfl
set_option maxRecDepth 16384 in
theorem m_readJournal {lim z : Nat} {J : Nat → Int32} (hh : hist hs N) (hq : q < 2) (hS : shape h) (h6 : h.2[619]? = some (.inl (11, modF V))) (hlim : lim ≤ yR (hs N)) (hJ : h.2[632]? = some (.inr (1, 80000, .inl J))) (hbv : ∀ j, j < lim → J (40000 * q + j) = nI (trn (jN (hs N)) z j))
    (hQ : ∀ i h', stopR hs N lim z i → rdS h h' q (hs i) J V → Q (.inl (some (.int (nI (yR (hs i)))))) h') :
    px_Wp sx 238 0 [some (.ref 619), some (.int (nI q)), some (.int (nI lim)), none, none, none, none, none, none] [] h Q := by
  have hc6 : px_cls h 619 = some 11 := by unfold px_cls; rw [h6]
  simp only [pc238_0, pc238_0n, pc238_1, pc238_2, hc6, true_and]
  refine m_noYard hS hq h6 (fun h' r1 r2 r3 r4 r5 => ?_)
  simp only [px_K_none, pc238_5, pc238_7, pc238_8, pc238_9, pc238_10, pc238_11, px_kill, mul_40000 hq]
  have e0 : yR (hs 0) = 0 := by rw [hh.1]; rfl
  have fin := rd_loop (sx := sx) (Q := Q) (V0 := V) (h0 := h) (J := J) hh hq hS hlim hJ hbv hQ N 0 (by omega) (fun k hk => absurd hk (Nat.not_lt_zero k)) h' ⟨by rw [hh.1]; exact r1, r2, r3, fun _ => r4, V, r5, vSame_refl V⟩ none none none none
  rw [e0] at fin
  exact fin
end MCR
