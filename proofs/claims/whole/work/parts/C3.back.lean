/-! COMING BACK, the class's: the loop, the whole -/
section CBL
variable {sx : Nat × (Nat → Int32)} {h h0 : px_H} {Y N lim z : Nat} {s more sp : Int32} {hs : Nat → yS} {f : Nat → Int32} {Q : px_O → px_H → Prop}
set_option maxRecDepth 16384 in
theorem CYb_frm {h' : px_H} {S : yS} (c : CYb h Y s S) (e : ∀ r, (r = Y ∨ Y + 3 ≤ r ∧ r ≤ Y + 10) → h'.2[r]? = h.2[r]?) : CYb h' Y s S := by
  obtain ⟨b, ⟨D, c1, c2⟩, ⟨st, d1, d2⟩, ⟨ln, e1, e2⟩, ⟨mk, f1⟩, ⟨ky, g1, g2⟩, ⟨kl, h1, h2⟩, ⟨G, i1, i2⟩, T, j1, j2⟩ := c
  exact ⟨by rw [e _ (by omega)]; exact b, ⟨D, by rw [e _ (by omega)]; exact c1, c2⟩, ⟨st, by rw [e _ (by omega)]; exact d1, d2⟩, ⟨ln, by rw [e _ (by omega)]; exact e1, e2⟩, ⟨mk, by rw [e _ (by omega)]; exact f1⟩, ⟨ky, by rw [e _ (by omega)]; exact g1, g2⟩, ⟨kl, by rw [e _ (by omega)]; exact h1, h2⟩, ⟨G, by rw [e _ (by omega)]; exact i1, i2⟩, T, by rw [e _ (by omega)]; exact j1, j2⟩
set_option maxRecDepth 16384 in
theorem CYb_set {s' : Int32} {S : yS} (c : CYb h Y s S) : CYb (px_wr h Y (.inl (7, yrdF Y s' (nI (yB S)) (nI (yK S))))) Y s' S ∧ (shape h → shape (px_wr h Y (.inl (7, yrdF Y s' (nI (yB S)) (nI (yK S)))))) := by
  obtain ⟨b, ⟨D, c1, c2⟩, ⟨st, d1, d2⟩, ⟨ln, e1, e2⟩, ⟨mk, f1⟩, ⟨ky, g1, g2⟩, ⟨kl, h1, h2⟩, ⟨G, i1, i2⟩, T, j1, j2⟩ := c
  have hl10 : Y + 10 < h.2.length := (List.getElem?_eq_some_iff.mp j1).1
  have z : ∀ {r : Nat} {x : px_C}, h.2[r]? = some x → Y ≠ r → (px_wr h Y (.inl (7, yrdF Y s' (nI (yB S)) (nI (yK S))))).2[r]? = some x := fun ee p => by rw [wr_at, if_neg p]; exact ee
  refine ⟨⟨by rw [wr_at, if_pos rfl, if_pos (by omega)], ⟨D, z c1 (by omega), c2⟩, ⟨st, z d1 (by omega), d2⟩, ⟨ln, z e1 (by omega), e2⟩, ⟨mk, z f1 (by omega)⟩, ⟨ky, z g1 (by omega), g2⟩, ⟨kl, z h1 (by omega), h2⟩, ⟨G, z i1 (by omega), i2⟩, T, z j1 (by omega), j2⟩, fun hS => ?_⟩
  exact shape_int (k := 1) (y := s') hS (r := Y) (c := 7) (fs := yrdF Y s (nI (yB S)) (nI (yK S))) b rfl
set_option maxRecDepth 16384 in
theorem cb_exit {i : Nat} {l4 : Option Value} (hh : hist hs N) (hs0 : stopR hs N lim z i) (hf : ∀ j, j < lim → f j &&& 255 = nI (trn (jN (hs N)) z j)) (cb : CYb h Y s (hs i)) (w : rowAt h (Y + 1) 40000 (yR (hs i)) f)
    (hQ : ∀ h', CY h' Y (sC (hs i) (yR (hs i))) → frm (cyA Y) h h' → (shape h → shape h') → Q (.inl none) h') :
    px_Wp sx 103 74 [some (.ref Y), some (.int more), some (.int sp), some (.int (nI (yR (hs i)))), l4] [] h Q := by
  have b0 := cb.1
  unfold yrdF at b0
  have w1 := w.1
  have t := CYb_set (s' := nI (yR (hs i))) cb
  unfold yrdF at t
  have ol := ok_le hh i hs0.1 hs0.2.1
  have le := hist_le hh (N - i) i (by have := hs0.1; omega)
  rw [show i + (N - i) = N by have := hs0.1; omega] at le
  simp only [pc103_74, pc103_75, pc103_75n, pc103_76, pc103_79, pc103_82, pc103_120, pc103_120n, pc103_121, pc103_121n, pc103_122, pc103_125, pc103_128, pc103_131, px_op_some, px_kv_ap, px_ki_ap, px_kl_ap, px_kn_ap, px_kh_ap, px_op_none, px_K_some, px_K_none, px_K_thr, px_kill, ↓reduceIte, if_true, if_false, true_and, and_true, px_gf, px_pf, px_ai, px_aj, px_aa, px_wi, px_wj, px_wa, px_an, px_cls, b0, w1, List.getElem?_cons_zero, List.getElem?_cons_succ, if_pos (Int32.le_refl (nI (yR (hs i)))), List.length_cons, List.length_nil, px_fit, Nat.reduceAdd, Nat.reduceLT, and_self, List.set_cons_succ, List.set_cons_zero]
  refine hQ _ ⟨⟨f, ⟨?_, ?_, w.2.2⟩, fun j hj => ?_⟩, t.1⟩ (frm_wr (frm_refl _ _) ⟨by omega, by omega⟩) t.2
  · rw [wr_at, if_neg (by omega)]; exact w.1
  · rw [wr_at, if_neg (by omega)]; exact w.2.1
  · have hj' : j < yR (hs i) := hj
    rw [hf j (by omega), trn_ne (by omega)]
    show nI (jN (hs N) j) = yJ (hs i) j
    rw [← le.2 j hj', ← (jN_ok (hist_good hh N (Nat.le_refl _)).1 (j := j) (by omega)).1]
set_option maxRecDepth 16384 in
theorem cb_loop (hh : hist hs N) (hlim : lim ≤ yR (hs N)) (hf : ∀ j, j < lim → f j &&& 255 = nI (trn (jN (hs N)) z j))
    (hQ : ∀ i h', stopR hs N lim z i → CY h' Y (sC (hs i) (yR (hs i))) → frm (cyA Y) h0 h' → (shape h0 → shape h') → Q (.inl none) h') :
    ∀ n i, i + n = N → (∀ k, k < i → okR hs lim z k) → ∀ h, CYb h Y s (hs i) → rowAt h (Y + 1) 40000 lim f → frm (cyA Y) h0 h → (shape h0 → shape h) → ∀ l4, px_Wp sx 103 74 [some (.ref Y), some (.int more), some (.int sp), some (.int (nI (yR (hs i)))), l4] [] h Q := by
  intro n
  induction n with
  | zero =>
    intro i hi hk h cb w fr sh l4
    have hi : i = N := by omega
    subst hi
    have ol := ok_le hh i (Nat.le_refl _) hk
    have : lim = yR (hs i) := by omega
    subst this
    exact cb_exit hh ⟨Nat.le_refl _, hk, .inl rfl⟩ hf cb w (fun h' c' f' s' => hQ i h' ⟨Nat.le_refl _, hk, .inl rfl⟩ c' (frm_trans fr f') (fun x => s' (sh x)))
  | succ n ih =>
    intro i hi hk h cb w fr sh l4
    have ol := ok_le hh i (by omega) hk
    by_cases e : yR (hs i) = lim
    · have nk : ¬ okR hs lim z i := fun o => by
        obtain ⟨kd, m, d, w⟩ := stp_wr (hh.2 i (by omega))
        have := w.1
        have := o.1
        omega
      have st : stopR hs N lim z i := ⟨by omega, hk, .inr nk⟩
      exact cb_exit hh st hf cb (by rw [e]; exact w) (fun h' c' f' s' => hQ i h' st c' (frm_trans fr f') (fun x => s' (sh x)))
    · have b0 := cb.1
      unfold yrdF at b0
      have w1 := w.1
      have hn := w.2.2
      have hlt : yR (hs i) < lim := by omega
      have hge : ¬ nI lim ≤ nI (yR (hs i)) := nI_ge (by omega) (by omega)
      have hcY : px_cls h Y = some 7 := by unfold px_cls; rw [cb.1]
      have bvk : ∀ j, j < lim → f j &&& 255 = nI (trn (jN (hs N)) z j) ∧ trn (jN (hs N)) z j < 256 := fun j hj => ⟨hf j hj, by
        have := (jN_ok (hist_good hh N (Nat.le_refl _)).1 (j := j) (by omega)).2
        unfold trn; split <;> omega⟩
      have oi := okR_iff (bv := trn (jN (hs N)) z) (lim := lim) (z := z) hh (i := i) (by omega) hlim (fun _ _ => rfl)
      rw [pc103_74]
      simp only [pc103_75, pc103_75n, pc103_76, pc103_79, pc103_82, pc103_85, pc103_85n, pc103_86, pc103_87, px_op_some, px_kv_ap, px_ki_ap, px_kl_ap, px_kn_ap, px_kh_ap, px_op_none, px_K_some, px_K_none, px_K_thr, px_kill, ↓reduceIte, if_true, if_false, true_and, and_true, px_gf, px_pf, px_ai, px_aj, px_aa, px_wi, px_wj, px_wa, px_an, px_cls, b0, w1, List.getElem?_cons_zero, List.getElem?_cons_succ, if_neg hge, hcY]
      refine c_endOfRecord cb.1 w bvk hlt (fun c ok => ?_) (fun no => ?_)
      · obtain ⟨o1, o2⟩ := oi.1 c ok
        have hge2 : ¬ nI (yR (hs i) + 6 + c) ≤ nI (yR (hs i)) := nI_ge (by omega) (by have := o1.1; omega)
        simp only [px_K_some, pc103_90, pc103_92, pc103_94, pc103_95, pc103_98, pc103_98n, pc103_99, pc103_100, px_kill, if_neg hge2, hcY, true_and]
        have le := hist_le hh (N - (i + 1)) (i + 1) (by omega)
        rw [show i + 1 + (N - (i + 1)) = N by omega] at le
        refine c_learn (hh.2 i (by omega)) (hist_good hh i (by omega)) cb w o1.1 (fun j hj1 hj2 => ?_) (fun h' cb' fr' sh' => ?_)
        · have oj := o1.1
          have oz := o1.2
          rw [hf j (by omega), trn_ne (by omega), ← le.2 j hj2, ← (jN_ok (hist_good hh N (Nat.le_refl _)).1 (j := j) (by omega)).1]
        · simp only [px_K_none, pc103_103, pc103_105, pc103_106, pc103_117, px_kill]
          rw [o2]
          refine ih (i + 1) (by omega) (fun k hk' => ?_) h' cb' (frm_rowAt fr' (by unfold cbA; omega) (by unfold cbA; omega) w) (frm_trans fr (frm_mono fr' (fun r hr => by rcases hr with hr | hr <;> exact ⟨by omega, by omega⟩))) (fun x => sh' (sh x)) _
          by_cases e : k = i
          · subst e; exact o1
          · exact hk k (by omega)
      · have nk : ¬ okR hs lim z i := fun o => by
          obtain ⟨c, o1, -⟩ := oi.2 o
          exact no c o1
        have st : stopR hs N lim z i := ⟨by omega, hk, .inr nk⟩
        have hm1 : (-1 : Int32) ≤ nI (yR (hs i)) := by
          have a1 : (-1 : Int32) ≤ 0 := by decide
          exact Int32.le_trans a1 (nI_le (a := 0) (by omega) (by omega))
        simp only [px_K_some, pc103_90, pc103_92, pc103_94, pc103_95, pc103_109, pc103_109n, pc103_110, pc103_113, pc103_114, pc103_117, px_op_some, px_kv_ap, px_ki_ap, px_kl_ap, px_kn_ap, px_kh_ap, px_op_none, px_K_some, px_K_none, px_K_thr, px_kill, ↓reduceIte, if_true, if_false, true_and, and_true, px_gf, px_pf, px_ai, px_aj, px_aa, px_wi, px_wj, px_wa, px_an, px_cls, px_kill, if_pos hm1, b0, w1, List.getElem?_cons_zero, List.getElem?_cons_succ, List.length_cons, List.length_nil, px_fit, Nat.reduceAdd, Nat.reduceLT, and_self, List.set_cons_succ, List.set_cons_zero]
        have er : px_wr h (Y + 1) (.inl (1, [.ref (Y + 1 + 1), .int (nI (yR (hs i)))])) = rowH h (Y + 1) 40000 (yR (hs i)) f := by
          unfold rowH; rw [wr_id w.2.1]
        have hl := rowAt_lt w
        rw [er]
        have cb2 : CYb (rowH h (Y + 1) 40000 (yR (hs i)) f) Y s (hs i) := CYb_frm cb (fun r hr => rowH_at (by omega) (by omega))
        have w2 : rowAt (rowH h (Y + 1) 40000 (yR (hs i)) f) (Y + 1) 40000 (yR (hs i)) f := rowAt_rowH hl (by omega) (by decide)
        refine cb_exit hh st hf cb2 w2 (fun h' c' f' s' => hQ i h' st c' (frm_trans (frm_row fr ⟨by omega, by omega⟩ ⟨by omega, by omega⟩) f') (fun x => s' (shape_row (sh x) w)))
end CBL
