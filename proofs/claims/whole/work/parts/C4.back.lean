/-! COMING BACK, the class's: from the first instruction on -/
set_option maxRecDepth 16384 in
theorem not_255 (x : Int32) {b : Nat} (e : x &&& 255 = nI b) (hb : b < 256) : (x ^^^ -1) &&& 255 = nI (255 - b) := by
  have h1 : (x ^^^ -1) &&& 255 = (x &&& 255) ^^^ 255 := by
    apply Int32.toBitVec_inj.mp
    rw [Int32.toBitVec_and, Int32.toBitVec_xor, Int32.toBitVec_xor, Int32.toBitVec_and]
    apply BitVec.eq_of_getLsbD_eq
    intro i hi
    have a : (Int32.toBitVec (-1)).getLsbD i = true := by
      have : ∀ i, i < 32 → (Int32.toBitVec (-1)).getLsbD i = true := by decide
      exact this i hi
    rw [BitVec.getLsbD_and, BitVec.getLsbD_xor, BitVec.getLsbD_xor, BitVec.getLsbD_and, a]
    cases x.toBitVec.getLsbD i <;> cases (Int32.toBitVec 255).getLsbD i <;> rfl
  have h2 : ∀ b : Fin 256, nI b.1 ^^^ 255 = nI (255 - b.1) := by decide
  rw [h1, e]; exact h2 ⟨b, hb⟩
/-- where the spoilt byte stands; far behind if there is none -/
def zOf (c n : Nat) (sp : Int32) : Nat := if 0 ≤ sp ∧ sp < nI n then c + sp.toNatClampNeg else 50000
section CBS
variable {sx : Nat × (Nat → Int32)} {h h0 : px_H} {Y N : Nat} {s more sp : Int32} {hs : Nat → yS} {f : Nat → Int32} {Q : px_O → px_H → Prop}
set_option maxRecDepth 16384 in
theorem cb_tags (hY : h0.2[Y]? = some (.inl (7, yrdF Y s 0 0))) (hQ : ∀ T G, (∀ j, j < 8 → T j = 0) → px_Wp sx 103 74 [some (.ref Y), some (.int more), some (.int sp), some (.int 0), none] [] (tagH h0 Y T G) Q) (hl : Y + 10 < h0.2.length) :
    ∀ n t, t + n = 8 → ∀ T G, (∀ j, j < t → T j = 0) → px_Wp sx 103 53 [some (.ref Y), some (.int more), some (.int sp), some (.int (nI t)), none] [] (tagH h0 Y T G) Q := by
  have hY' : ∀ T G, (tagH h0 Y T G).2[Y]? = some (.inl (7, yrdF Y s 0 0)) := fun T G => by rw [tagH_at (by omega) (by omega)]; exact hY
  have hcY : ∀ T G, px_cls (tagH h0 Y T G) Y = some 7 := fun T G => by unfold px_cls; rw [hY']
  intro n
  induction n with
  | zero =>
    intro t ht T G hT
    have ht : t = 8 := by omega
    subst ht
    simp only [pc103_53, pc103_54, pc103_56, pc103_72, pc103_73, px_kill, show nI 8 = 8 from rfl, if_pos (Int32.le_refl (8 : Int32))]
    exact hQ T G hT
  | succ n ih =>
    intro t ht T G hT
    have hge : ¬ (8 : Int32) ≤ nI t := nI_ge (b := 8) (by omega) (by decide)
    rw [pc103_53]
    simp only [pc103_54, pc103_56, pc103_59, pc103_59n, pc103_60, pc103_61, pc103_62, pc103_63, if_neg hge, hcY, true_and]
    refine c_learnTag (T := T) (G := G) (.inl rfl) (hY' T G) ?_ ?_ (by omega) ?_
    · unfold tagH; rw [wr_at, if_neg (by omega), wr_at, if_pos rfl, if_pos hl]
    · unfold tagH; rw [wr_at, if_pos rfl, if_pos (by rw [px_wr_len]; omega)]
    · simp only [px_K_none, pc103_66, pc103_69, px_kill, nI_1]
      have e : tagH (tagH h0 Y T G) Y (px_up T t 0) (px_up G t 0) = tagH h0 Y (px_up T t 0) (px_up G t 0) := by
        unfold tagH
        rw [px_wr_comm (r := Y + 9) (r' := Y + 10) (by omega), px_wr_wr, px_wr_wr]
      rw [e]
      refine ih (t + 1) (by omega) _ _ (fun j hj => ?_)
      by_cases e : j = t
      · subst e; exact up_same _ _ _
      · rw [up_ne e]; exact hT j (by omega)
set_option maxRecDepth 16384 in
theorem CY_0 {S : yS} {T : Nat → Int32} {G : Nat → Int64} {s' : Int32} (cb : CYb h Y s S) (hT : ∀ j, j < 8 → T j = 0) :
    CYb (tagH (px_wr h Y (.inl (7, yrdF Y s' 0 0))) Y T G) Y s' y0 ∧ frm (cyA Y) h (tagH (px_wr h Y (.inl (7, yrdF Y s' 0 0))) Y T G) ∧ (shape h → shape (tagH (px_wr h Y (.inl (7, yrdF Y s' 0 0))) Y T G)) := by
  obtain ⟨b, ⟨D, c1, c2⟩, ⟨st, d1, d2⟩, ⟨ln, e1, e2⟩, ⟨mk, f1⟩, ⟨ky, g1, g2⟩, ⟨kl, h1, h2⟩, ⟨G0, i1, i2⟩, T0, j1, j2⟩ := cb
  have hl10 : Y + 10 < h.2.length := (List.getElem?_eq_some_iff.mp j1).1
  have z : ∀ {r : Nat} {x : px_C}, h.2[r]? = some x → Y ≠ r → Y + 9 ≠ r → Y + 10 ≠ r → (tagH (px_wr h Y (.inl (7, yrdF Y s' 0 0))) Y T G).2[r]? = some x := fun ee p q t => by rw [tagH_at t q, wr_at, if_neg p]; exact ee
  refine ⟨⟨?_, ⟨D, z c1 (by omega) (by omega) (by omega), fun k hk => absurd hk (Nat.not_lt_zero k)⟩, ⟨st, z d1 (by omega) (by omega) (by omega), fun k hk => absurd hk (Nat.not_lt_zero k)⟩, ⟨ln, z e1 (by omega) (by omega) (by omega), fun k hk => absurd hk (Nat.not_lt_zero k)⟩, ⟨mk, z f1 (by omega) (by omega) (by omega)⟩, ⟨ky, z g1 (by omega) (by omega) (by omega), fun k hk => absurd hk (Nat.not_lt_zero k)⟩, ⟨kl, z h1 (by omega) (by omega) (by omega), fun k hk => absurd hk (Nat.not_lt_zero k)⟩, ⟨G, ?_, fun j _ t => Bool.noConfusion (show false = true from t)⟩, T, ?_, fun j hj => hT j hj⟩, ?_, fun hS => ?_⟩
  · rw [tagH_at (by omega) (by omega), wr_at, if_pos rfl, if_pos (by omega)]; rfl
  · unfold tagH; rw [wr_at, if_pos rfl, if_pos (by simp only [px_wr_len]; omega)]
  · unfold tagH; rw [wr_at, if_neg (by omega), wr_at, if_pos rfl, if_pos (by simp only [px_wr_len]; omega)]
  · exact frm_wr (frm_wr (frm_wr (frm_refl _ _) ⟨by omega, by omega⟩) ⟨by omega, by omega⟩) ⟨by omega, by omega⟩
  · have s1 := shape_int (k := 1) (y := s') hS (r := Y) (c := 7) (fs := yrdF Y s (nI (yB S)) (nI (yK S))) b rfl
    have s2 := shape_int (k := 6) (y := 0) s1 (r := Y) (c := 7) (fs := yrdF Y s' (nI (yB S)) (nI (yK S))) (by rw [wr_at, if_pos rfl, if_pos (by omega)]; rfl) rfl
    have s3 := shape_int (k := 9) (y := 0) s2 (r := Y) (c := 7) (fs := yrdF Y s' 0 (nI (yK S))) (by rw [wr_at, if_pos rfl, if_pos (by rw [px_wr_len]; omega)]; rfl) rfl
    rw [px_wr_wr, px_wr_wr] at s3
    unfold tagH
    have s4 := shape_ia (g := T) s3 (r := Y + 10) (t := 3) (n := 8) (f := T0) (by rw [wr_at, if_neg (by omega)]; exact j1)
    exact shape_la (g := G) s4 (r := Y + 9) (t := 2) (n := 8) (f := G0) (by rw [wr_at, if_neg (by omega), wr_at, if_neg (by omega)]; exact i1)
set_option maxRecDepth 16384 in
theorem cb_41 {lim z : Nat} {S : yS} (hh : hist hs N) (hlim : lim ≤ yR (hs N)) (hf : ∀ j, j < lim → f j &&& 255 = nI (trn (jN (hs N)) z j)) (cb : CYb h Y s S) (w : rowAt h (Y + 1) 40000 lim f)
    (hQ : ∀ i h', stopR hs N lim z i → CY h' Y (sC (hs i) (yR (hs i))) → frm (cyA Y) h h' → (shape h → shape h') → Q (.inl none) h') :
    px_Wp sx 103 41 [some (.ref Y), some (.int more), some (.int sp), none, none] [] h Q := by
  have b0 := cb.1
  unfold yrdF at b0
  have hl : Y + 10 < h.2.length := (List.getElem?_eq_some_iff.mp cb.2.2.2.2.2.2.2.2.choose_spec.1).1
  simp only [pc103_41, pc103_41n, pc103_42, pc103_43, pc103_46, pc103_46n, pc103_47, pc103_48, pc103_51, pc103_52, px_op_some, px_kv_ap, px_ki_ap, px_kl_ap, px_kn_ap, px_kh_ap, px_op_none, px_K_some, px_K_none, px_K_thr, px_kill, ↓reduceIte, if_true, if_false, true_and, and_true, px_gf, px_pf, px_ai, px_aj, px_aa, px_wi, px_wj, px_wa, px_an, px_cls, b0, px_kill, wr_at, hl, show Y < h.2.length by omega, List.length_cons, List.length_nil, px_fit, Nat.reduceAdd, Nat.reduceLT, and_self, List.set_cons_succ, List.set_cons_zero, px_wr_wr]
  have e1 : tagH (px_wr h Y (.inl (7, yrdF Y s 0 0))) Y (cb.2.2.2.2.2.2.2.2.choose) (cb.2.2.2.2.2.2.2.1.choose) = px_wr h Y (.inl (7, yrdF Y s 0 0)) := by
    unfold tagH
    rw [wr_id (by rw [wr_at, if_neg (by omega), wr_at, if_neg (by omega)]; exact cb.2.2.2.2.2.2.2.1.choose_spec.1), wr_id (by rw [wr_at, if_neg (by omega)]; exact cb.2.2.2.2.2.2.2.2.choose_spec.1)]
  unfold yrdF at e1
  rw [← e1]
  refine cb_tags (s := s) (h0 := px_wr h Y (.inl (7, yrdF Y s 0 0))) (by rw [wr_at, if_pos rfl, if_pos (by omega)]) (fun T G hT => ?_) (by rw [px_wr_len]; exact hl) 8 0 (by omega) _ _ (fun j hj => absurd hj (Nat.not_lt_zero j))
  have t := CY_0 (s' := s) (G := G) cb hT
  have e0 : yR (hs 0) = 0 := by rw [hh.1]; rfl
  have fin := cb_loop (sx := sx) (more := more) (sp := sp) (h0 := h) hh hlim hf hQ N 0 (by omega) (fun k hk => absurd hk (Nat.not_lt_zero k)) _ (by rw [hh.1]; exact t.1) (by
    have w1 := w.1
    have w2 := w.2.1
    refine ⟨?_, ?_, w.2.2⟩
    · rw [tagH_at (by omega) (by omega), wr_at, if_neg (by omega)]; exact w1
    · rw [tagH_at (by omega) (by omega), wr_at, if_neg (by omega)]; exact w2) t.2.1 t.2.2 none
  rw [e0] at fin
  exact fin
set_option maxRecDepth 16384 in
theorem c_comeBack {S : yS} {n k : Nat} (hh : hist hs N) (hS : S = sC (hs N) (yR (hs k))) (cy : CY h Y S) (hw : WFy S) (hn : yC S + n ≤ yR S)
    (hQ : ∀ i h', stopR hs N (yC S + n) (zOf (yC S) n sp) i → CY h' Y (sC (hs i) (yR (hs i))) → frm (cyA Y) h h' → (shape h → shape h') → Q (.inl none) h') :
    px_Wp sx 103 0 [some (.ref Y), some (.int (nI n)), some (.int sp), none, none] [] h Q := by
  obtain ⟨⟨f, w, hf⟩, cb⟩ := cy
  have b0 := cb.1
  unfold yrdF at b0
  have w1 := w.1
  have w2 := w.2.1
  have h4 := w.2.2
  have hl := rowAt_lt w
  have hRe : yR (hs N) = yR S := by rw [hS]; rfl
  have hJe : yJ (hs N) = yJ S := by rw [hS]; rfl
  have er : ∀ x, px_wr h (Y + 1) (.inl (1, [.ref (Y + 1 + 1), .int (nI x)])) = rowH h (Y + 1) 40000 x f := fun x => by
    unfold rowH; rw [wr_id w.2.1]
  have gN := (hist_good hh N (Nat.le_refl _)).1
  have hf' : ∀ j, j < yR S → f j &&& 255 = nI (jN (hs N) j) := fun j hj => by
    rw [hf j hj, ← (jN_ok gN (j := j) (by omega)).1, hJe]
  by_cases c1 : sp < 0
  · have ez : zOf (yC S) n sp = 50000 := by
      unfold zOf; rw [if_neg (fun q => by
        have := q.1
        exact Int32.lt_irrefl (Int32.lt_of_lt_of_le c1 this))]
    rw [ez] at hQ
    simp only [pc103_0, pc103_0n, pc103_1, pc103_4, pc103_4n, pc103_5, pc103_8, pc103_9, pc103_10, pc103_13, pc103_14, px_op_some, px_kv_ap, px_ki_ap, px_kl_ap, px_kn_ap, px_kh_ap, px_op_none, px_K_some, px_K_none, px_K_thr, px_kill, ↓reduceIte, if_true, if_false, true_and, and_true, px_gf, px_pf, px_ai, px_aj, px_aa, px_wi, px_wj, px_wa, px_an, px_cls, b0, w1, if_pos c1, nI_add, List.getElem?_cons_zero, List.getElem?_cons_succ, List.length_cons, List.length_nil, px_fit, Nat.reduceAdd, Nat.reduceLT, and_self, List.set_cons_succ, List.set_cons_zero, er]
    exact cb_41 (lim := yC S + n) (z := 50000) hh (by omega) (fun j hj => by rw [trn_ne (by omega)]; exact hf' j (by omega)) (CYb_frm cb (fun r hr => rowH_at (by omega) (by omega))) (rowAt_rowH hl (by omega) (by decide)) (fun i h' st c' f' s' => hQ i h' st c' (frm_trans (frm_row (frm_refl _ _) ⟨by omega, by omega⟩ ⟨by omega, by omega⟩) f') (fun x => s' (shape_row x w)))
  · by_cases c2 : nI n ≤ sp
    · have ez : zOf (yC S) n sp = 50000 := by
        unfold zOf; rw [if_neg (fun q => by
          have := q.2
          exact Int32.lt_irrefl (Int32.lt_of_lt_of_le this c2))]
      rw [ez] at hQ
      simp only [pc103_0, pc103_0n, pc103_1, pc103_4, pc103_4n, pc103_5, pc103_8, pc103_9, pc103_10, pc103_13, pc103_14, pc103_17, pc103_18, pc103_19, px_op_some, px_kv_ap, px_ki_ap, px_kl_ap, px_kn_ap, px_kh_ap, px_op_none, px_K_some, px_K_none, px_K_thr, px_kill, ↓reduceIte, if_true, if_false, true_and, and_true, px_gf, px_pf, px_ai, px_aj, px_aa, px_wi, px_wj, px_wa, px_an, px_cls, b0, w1, if_neg c1, if_pos c2, nI_add, List.getElem?_cons_zero, List.getElem?_cons_succ, List.length_cons, List.length_nil, px_fit, Nat.reduceAdd, Nat.reduceLT, and_self, List.set_cons_succ, List.set_cons_zero, er]
      exact cb_41 (lim := yC S + n) (z := 50000) hh (by omega) (fun j hj => by rw [trn_ne (by omega)]; exact hf' j (by omega)) (CYb_frm cb (fun r hr => rowH_at (by omega) (by omega))) (rowAt_rowH hl (by omega) (by decide)) (fun i h' st c' f' s' => hQ i h' st c' (frm_trans (frm_row (frm_refl _ _) ⟨by omega, by omega⟩ ⟨by omega, by omega⟩) f') (fun x => s' (shape_row x w)))
    · obtain ⟨q, hq, rfl⟩ : ∃ q, q < n ∧ sp = nI q := by
        obtain ⟨q, hq, e⟩ := nI_of2 (n := n) (M := nI n) (nI_toInt (by omega)) c1 (Int32.le_of_lt (Int32.not_le.mp c2))
        refine ⟨q, ?_, e⟩
        rcases Nat.lt_or_eq_of_le hq with a | a
        · exact a
        · exact absurd (by rw [e, a]; exact Int32.le_refl _) c2
      have ez : zOf (yC S) n (nI q) = yC S + q := by
        unfold zOf; rw [if_pos ⟨nI_le (a := 0) (by omega) (by omega), nI_lt hq (by omega)⟩, nI_clamp (by omega)]
      rw [ez] at hQ
      have iz : px_in (nI (yC S + q)) 40000 = true := px_inb (by omega) (by decide)
      have cz : (nI (yC S + q)).toNatClampNeg = yC S + q := nI_clamp (by omega)
      have ew : ∀ F, px_wr (rowH h (Y + 1) 40000 (yC S + n) f) (Y + 1 + 1) (.inr (0, 40000, .inl F)) = rowH h (Y + 1) 40000 (yC S + n) F := fun F => by
        unfold rowH; rw [px_wr_comm (r := Y + 1) (r' := Y + 1 + 1) (by omega), px_wr_wr]
      have rr : (rowH h (Y + 1) 40000 (yC S + n) f).2[Y + 1]? = _ := rowH_r hl
      have rc : (rowH h (Y + 1) 40000 (yC S + n) f).2[Y + 1 + 1]? = _ := rowH_c hl
      have rY : (rowH h (Y + 1) 40000 (yC S + n) f).2[Y]? = _ := (rowH_at (by omega) (by omega)).trans b0
      simp only [pc103_0, pc103_0n, pc103_1, pc103_4, pc103_4n, pc103_5, pc103_8, pc103_9, pc103_10, pc103_13, pc103_14, pc103_17, pc103_18, pc103_19, pc103_22, pc103_22n, pc103_23, pc103_26, pc103_29, pc103_29n, pc103_30, pc103_33, pc103_34, pc103_35, pc103_36, pc103_37, pc103_38, pc103_39, pc103_40, px_op_some, px_kv_ap, px_ki_ap, px_kl_ap, px_kn_ap, px_kh_ap, px_op_none, px_K_some, px_K_none, px_K_thr, px_kill, ↓reduceIte, if_true, if_false, true_and, and_true, px_gf, px_pf, px_ai, px_aj, px_aa, px_wi, px_wj, px_wa, px_an, px_cls, b0, w1, if_neg c1, if_neg c2, nI_add, List.getElem?_cons_zero, List.getElem?_cons_succ, List.length_cons, List.length_nil, px_fit, Nat.reduceAdd, Nat.reduceLT, and_self, List.set_cons_succ, List.set_cons_zero, er, rr, rc, rY, tg_b0, iz, cz, nar_by, ew]
      refine cb_41 (lim := yC S + n) (z := yC S + q) hh (by omega) (fun j hj => ?_) (CYb_frm cb (fun r hr => rowH_at (by omega) (by omega))) (rowAt_rowH hl (by omega) (by decide)) (fun i h' st c' f' s' => hQ i h' st c' (frm_trans (frm_row (frm_refl _ _) ⟨by omega, by omega⟩ ⟨by omega, by omega⟩) f') (fun x => s' (shape_row x w)))
      by_cases e : j = yC S + q
      · subst e
        rw [up_same, by_255, trn_eq]
        exact not_255 _ (hf' _ (by omega)) (jN_ok gN (by omega)).2
      · rw [up_ne e, trn_ne e]; exact hf' j (by omega)
end CBS
