/-! COMING BACK, the class's -/
section CKEY
variable {sx : Nat × (Nat → Int32)} {h : px_H} {Y n p : Nat} {s : Int32} {S : yS} {f : Nat → Int32} {Q : px_O → px_H → Prop}
set_option maxRecDepth 16384 in
theorem keyH_at {x y : Int32} {K : Nat} {ky kl : Nat → Int64} {r : Nat} (h1 : Y ≠ r) (h2 : Y + 7 ≠ r) (h3 : Y + 8 ≠ r) : (keyH h Y x y K ky kl).2[r]? = h.2[r]? := by
  unfold keyH; rw [wr_at, if_neg h1, wr_at, if_neg h3, wr_at, if_neg h2]
set_option maxRecDepth 16384 in
theorem cb_key {ky kl : Nat → Int64} {K : Nat} {S' : yS} (cb : CYb h Y s S) (e1 : S'.2.1 = S.2.1) (e2 : S'.2.2.2 = S.2.2.2) (hK : yK S' = K) (hx : ∀ k, k < K → ky k = yX S' k) (he : ∀ k, k < K → kl k = yE S' k) :
    CYb (keyH h Y s (nI (yB S)) K ky kl) Y s S' ∧ frm (cbA Y) h (keyH h Y s (nI (yB S)) K ky kl) ∧ (shape h → shape (keyH h Y s (nI (yB S)) K ky kl)) := by
  obtain ⟨b0, ⟨D, c1, c2⟩, ⟨st, d1, d2⟩, ⟨ln, l1, l2⟩, ⟨mk, f1⟩, ⟨ky0, g1, g2⟩, ⟨kl0, h1, h2⟩, ⟨G, i1, i2⟩, T, j1, j2⟩ := cb
  have hl10 : Y + 10 < h.2.length := (List.getElem?_eq_some_iff.mp j1).1
  have z : ∀ {r : Nat} {x : px_C}, h.2[r]? = some x → Y ≠ r → Y + 7 ≠ r → Y + 8 ≠ r → (keyH h Y s (nI (yB S)) K ky kl).2[r]? = some x := fun ee p1 p2 p3 => by rw [keyH_at p1 p2 p3]; exact ee
  have eB : yB S' = yB S := by show S'.2.1.1 = S.2.1.1; rw [e1]
  have eD : yD S' = yD S := by show S'.2.1.2.1 = S.2.1.2.1; rw [e1]
  have eP : yP S' = yP S := by show S'.2.1.2.2.1 = S.2.1.2.2.1; rw [e1]
  have eL : yL S' = yL S := by show S'.2.1.2.2.2 = S.2.1.2.2.2; rw [e1]
  have eT : yT S' = yT S := by show S'.2.2.2.1 = S.2.2.2.1; rw [e2]
  have eG : yG S' = yG S := by show S'.2.2.2.2 = S.2.2.2.2; rw [e2]
  refine ⟨⟨?_, ⟨D, z c1 (by omega) (by omega) (by omega), by rw [eB, eD]; exact c2⟩, ⟨st, z d1 (by omega) (by omega) (by omega), by rw [eB, eP]; exact d2⟩, ⟨ln, z l1 (by omega) (by omega) (by omega), by rw [eB, eL]; exact l2⟩, ⟨mk, z f1 (by omega) (by omega) (by omega)⟩, ⟨ky, ?_, by rw [hK]; exact hx⟩, ⟨kl, ?_, by rw [hK]; exact he⟩, ⟨G, z i1 (by omega) (by omega) (by omega), by rw [eT, eG]; exact i2⟩, T, z j1 (by omega) (by omega) (by omega), by rw [eT]; exact j2⟩, ?_, fun hs => ?_⟩
  · unfold keyH; rw [wr_at, if_pos rfl, if_pos (by simp only [px_wr_len]; omega), eB, hK]
  · unfold keyH; rw [wr_at, if_neg (by omega), wr_at, if_neg (by omega), wr_at, if_pos rfl, if_pos (by omega)]
  · unfold keyH; rw [wr_at, if_neg (by omega), wr_at, if_pos rfl, if_pos (by simp only [px_wr_len]; omega)]
  · exact frm_wr (frm_wr (frm_wr (frm_refl _ _) (.inr ⟨by omega, by omega⟩)) (.inr ⟨by omega, by omega⟩)) (.inl rfl)
  · unfold keyH
    have s1 := shape_la (g := ky) hs g1
    have s2 := shape_la (g := kl) s1 (r := Y + 8) (f := kl0) (by rw [wr_at, if_neg (by omega)]; exact h1)
    exact shape_int (k := 9) (y := nI K) s2 (r := Y) (c := 7) (fs := yrdF Y s (nI (yB S)) (nI (yK S))) (by rw [wr_at, if_neg (by omega), wr_at, if_neg (by omega)]; exact b0) rfl
set_option maxRecDepth 16384 in
theorem keyH_same {x y : Int32} {K : Nat} {ky kl : Nat → Int64} (hY : h.2[Y]? = some (.inl (7, yrdF Y x y (nI K)))) (h7 : h.2[Y + 7]? = some (.inr (2, 60, .inr (.inl ky)))) : keyH h Y x y K ky kl = px_wr h (Y + 8) (.inr (2, 60, .inr (.inl kl))) := by
  unfold keyH; rw [wr_id h7, wr_id (by rw [wr_at, if_neg (by omega)]; exact hY)]
set_option maxRecDepth 16384 in
theorem c_learn_rem {a v : Int64} {S' : yS} (rm : remS S a v S') (hK : WKy S) (hK6 : yK S ≤ 60) (cb : CYb h Y s S) (w : rowAt h (Y + 1) 40000 n f) (hn : p + 22 ≤ n) (hf : ∀ k, k < 22 → f (p + k) &&& 255 = recB 4 16 (keyB a v) k)
    (hQ : ∀ h', CYb h' Y s S' → frm (cbA Y) h h' → (shape h → shape h') → Q (.inl none) h') :
    px_Wp sx 105 0 [some (.ref Y), some (.int (nI p)), none] [] h Q := by
  have hn4 := w.2.2
  have cb' := cb
  obtain ⟨b0, -, -, -, -, ⟨ky, g1, g2⟩, ⟨kl, h1, h2⟩, -, -⟩ := cb
  have b0' := b0
  unfold yrdF at b0'
  have hcR : px_cls h (Y + 1) = some 1 := by unfold px_cls; rw [w.1]
  have hcY : px_cls h Y = some 7 := by unfold px_cls; rw [b0]
  have e5 : nI p + 5 = nI (p + 5) := nI_add p 5
  have e8 : nI (p + 5) + 8 = nI (p + 5 + 8) := nI_add _ 8
  have kd : f p &&& 255 = 4 := by have := hf 0 (by omega); rw [Nat.add_zero] at this; exact this
  have n41 : ((4 : Int32) = 1) = False := by decide
  have n42 : ((4 : Int32) = 2) = False := by decide
  have n43 : ((4 : Int32) = 3) = False := by decide
  simp only [pc105_0, pc105_1, pc105_2, pc105_3, pc105_4, pc105_4n, pc105_5, pc105_8, pc105_9, px_gf, b0', if_true, List.getElem?_cons_zero, px_op_some, px_kv_ap, px_ki_ap, px_kl_ap, px_kn_ap, px_kh_ap, px_kill, e5, hcR, true_and]
  rw [r_at w, if_neg (nI_pos (by omega)), if_neg (nI_ge (by omega) (by omega)), nI_clamp (by omega), kd]
  simp only [px_K_some, pc105_12, pc105_105, pc105_105n, pc105_106, pc105_106n, pc105_107, pc105_110, pc105_111, n41, n42, n43, if_true, if_false, px_gf, b0', List.getElem?_cons_zero, px_op_some, px_kv_ap, px_ki_ap, px_kl_ap, px_kn_ap, px_kh_ap, hcR, true_and]
  refine c_longAt (g := fun k => lb a (nI (8 * k)) &&& 255) w (by omega) (fun k hk => ?_) ?_
  · rw [show p + 5 + k = p + (5 + k) by omega, hf (5 + k) (by omega), rec_d (by omega), keyB_0 hk]
  rw [lgA_lb]
  simp only [px_K_some, pc105_114, pc105_114n, pc105_115, pc105_118, pc105_119, pc105_121, pc105_122, px_gf, b0', if_true, List.getElem?_cons_zero, px_op_some, px_kv_ap, px_ki_ap, px_kl_ap, px_kn_ap, px_kh_ap, e8, hcR, true_and]
  refine c_longAt (g := fun k => lb v (nI (8 * k)) &&& 255) w (by omega) (fun k hk => ?_) ?_
  · rw [show p + 5 + 8 + k = p + (5 + (8 + k)) by omega, hf (5 + (8 + k)) (by omega), rec_d (by omega), keyB_1]
  rw [lgA_lb]
  simp only [px_K_some, pc105_125, hcY, true_and]
  refine c_learnKey b0 g1 h1 hK6 (fun k hk e hn' => ?_) (fun hno k6 => ?_) (fun hno k6 => ?_)
  · simp only [px_K_none, pc105_128, pc105_131]
    have e' : yX S k = a := by rw [← g2 k hk]; exact e
    rw [← keyH_same b0 g1]
    rcases rm with ⟨k2, hk2, ek2, rfl⟩ | ⟨hno, -, -⟩
    · have : k2 = k := hK k2 k hk2 hk (ek2.trans e'.symm)
      subst this
      have t := cb_key (S' := yRem S a v (yK S) (yX S) (px_up (yE S) k2 v)) (ky := ky) (kl := px_up kl k2 v) (K := yK S) cb' rfl rfl rfl g2 (fun i hi => by
        show px_up kl k2 v i = px_up (yE S) k2 v i
        by_cases e : i = k2
        · subst e; rw [up_same, up_same]
        · rw [up_ne e, up_ne e]; exact h2 i hi)
      exact hQ _ t.1 t.2.1 t.2.2
    · exact absurd e' (hno k hk)
  · simp only [px_K_none, pc105_128, pc105_131]
    rcases rm with ⟨k2, hk2, ek2, rfl⟩ | ⟨hno2, -, rfl⟩
    · exact absurd (by rw [g2 k2 hk2]; exact ek2) (hno k2 hk2)
    · have t := cb_key (S' := yRem S a v (yK S + 1) (px_up (yX S) (yK S) a) (px_up (yE S) (yK S) v)) (ky := px_up ky (yK S) a) (kl := px_up kl (yK S) v) (K := yK S + 1) cb' rfl rfl rfl (fun i hi => by
        show px_up ky (yK S) a i = px_up (yX S) (yK S) a i
        by_cases e : i = yK S
        · rw [e, up_same, up_same]
        · rw [up_ne e, up_ne e]; exact g2 i (by omega)) (fun i hi => by
        show px_up kl (yK S) v i = px_up (yE S) (yK S) v i
        by_cases e : i = yK S
        · rw [e, up_same, up_same]
        · rw [up_ne e, up_ne e]; exact h2 i (by omega))
      exact hQ _ t.1 t.2.1 t.2.2
  · rcases rm with ⟨k2, hk2, ek2, -⟩ | ⟨-, k7, -⟩
    · exact absurd (by rw [g2 k2 hk2]; exact ek2) (hno k2 hk2)
    · omega
/-! a record of a history is learnt -/
set_option maxRecDepth 16384 in
theorem c_learn {S' : yS} (st : stp S S') (g : good S) (cb : CYb h Y s S) (w : rowAt h (Y + 1) 40000 n f) (hn : yR S' ≤ n) (hf : ∀ j, yR S ≤ j → j < yR S' → f j &&& 255 = yJ S' j)
    (hQ : ∀ h', CYb h' Y s S' → frm (cbA Y) h h' → (shape h → shape h') → Q (.inl none) h') :
    px_Wp sx 105 0 [some (.ref Y), some (.int (nI (yR S))), none] [] h Q := by
  have nj : ∀ {c : Nat} {gg : Nat → Int32} {k : Nat}, (addJ S c gg).2.1 (yR S + k) = gg k := fun {c gg k} => by rw [addJ_new (Nat.le_add_right _ _), Nat.add_sub_cancel_left]
  rcases st with ⟨bb, c, rfl, h1, h2, h3, h5, h4⟩ | ⟨j, v, rfl, h1, h2, h3⟩ | ⟨j, rfl, h1, h2⟩ | ⟨a, v, h1, h2⟩
  · refine c_learn_keep cb w rfl hn h2 (fun k hk => ?_) hQ
    exact (hf (yR S + k) (Nat.le_add_right _ _) (Nat.add_lt_add_left hk _)).trans nj
  · refine c_learn_tell h1 cb w rfl hn (fun k hk => ?_) hQ
    exact (hf (yR S + k) (Nat.le_add_right _ _) (Nat.add_lt_add_left hk _)).trans nj
  · refine c_learn_unt h1 cb w rfl hn (fun k hk => ?_) hQ
    exact (hf (yR S + k) (Nat.le_add_right _ _) (Nat.add_lt_add_left hk _)).trans nj
  · have e : S'.1 = addJ S 22 (recB 4 16 (keyB a v)) := by rcases h1 with ⟨k, -, -, rfl⟩ | ⟨-, -, rfl⟩ <;> rfl
    have eR : yR S' = yR S + 22 := by show S'.1.1 = _; rw [e]; rfl
    refine c_learn_rem h1 g.2.1 g.1.2.2.2.1 cb w (by omega) (fun k hk => ?_) hQ
    refine (hf (yR S + k) (Nat.le_add_right _ _) (by omega)).trans ?_
    show S'.1.2.1 _ = _
    rw [e]; exact nj
end CKEY
