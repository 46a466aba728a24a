/-! COLLECT: the class's sweep -/
section SWEEP
variable {sx : Nat × (Nat → Int32)} {h h0 : px_H} {Y : Nat} {S : yS} {mk hd : Nat → Bool} {Q : px_O → px_H → Prop}
/-- the first i blobs are swept -/
def swp (h0 h : px_H) (Y : Nat) (S : yS) (mk : Nat → Bool) (i : Nat) : Prop :=
  (∃ f, rowAt h (Y + 1) 40000 (yR (bsS S mk i)) f ∧ (∀ j, j < yR (bsS S mk i) → f j &&& 255 = yJ (bsS S mk i) j) ∧ ∀ k, i ≤ k → k < yB S → ∀ m, m < 6 + yL S k → f (yP S k - 5 + m) &&& 255 = yJ S (yP S k - 5 + m)) ∧
  h.2[Y]? = some (.inl (7, yrdF Y (nI (yC S)) (nI (yB (bsS S mk i))) (nI (yK S)))) ∧
  (∃ D, h.2[Y + 3]? = some (.inr (2, 60, .inr (.inl D))) ∧ (∀ j, j < yB (bsS S mk i) → D j = yD (bsS S mk i) j) ∧ ∀ k, i ≤ k → k < yB S → D k = yD S k) ∧
  (∃ st, h.2[Y + 4]? = some (.inr (1, 60, .inl st)) ∧ (∀ j, j < yB (bsS S mk i) → st j = nI (yP (bsS S mk i) j)) ∧ ∀ k, i ≤ k → k < yB S → st k = nI (yP S k)) ∧
  (∃ ln, h.2[Y + 5]? = some (.inr (1, 60, .inl ln)) ∧ (∀ j, j < yB (bsS S mk i) → ln j = nI (yL (bsS S mk i) j)) ∧ ∀ k, i ≤ k → k < yB S → ln k = nI (yL S k)) ∧
  (∀ r, Y + 6 ≤ r → r ≤ Y + 10 → h.2[r]? = h0.2[r]?) ∧ frm (cyA Y) h0 h ∧ (shape h0 → shape h)
set_option maxRecDepth 16384 in
theorem c_move {i : Nat} (g : goodC S) (bk : blk S) (hc : cst S ≤ yR S) (hi : i < yB S) (em : mk i = true) (w : swp h0 h Y S mk i) (hQ : ∀ h', swp h0 h' Y S mk (i + 1) → Q (.inl none) h') :
    px_Wp sx 110 0 [some (.ref Y), some (.int (nI i)), none, none] [] h Q := by
  obtain ⟨a1, a2, a3, a4, a5, a6, a7, a8, a9⟩ := bs_all (mk := mk) g bk hc i (by omega)
  obtain ⟨⟨f, f1, f2, f3⟩, b, ⟨D, d1, d2, d3⟩, ⟨st, s1, s2, s3⟩, ⟨ln, l1, l2, l3⟩, r1, r2, r3⟩ := w
  have hP := a4 i (Nat.le_refl _) hi
  obtain ⟨p1, p2, p3⟩ := bk.1 i hi
  have en := bs_yes (S := S) em
  have h4 := g.1.1
  have h60 := g.1.2.2.1
  have gk := g.2.2.1 i hi
  have hl : Y + 10 < h.2.length ∨ True := .inr trivial
  obtain ⟨w1, w2, w3⟩ := f1
  have lY : Y < h.2.length := (List.getElem?_eq_some_iff.mp b).1
  have l1' : Y + 1 < h.2.length := (List.getElem?_eq_some_iff.mp w1).1
  have l2' : Y + 2 < h.2.length := (List.getElem?_eq_some_iff.mp w2).1
  have l3' : Y + 3 < h.2.length := (List.getElem?_eq_some_iff.mp d1).1
  have l4' : Y + 4 < h.2.length := (List.getElem?_eq_some_iff.mp s1).1
  have l5' : Y + 5 < h.2.length := (List.getElem?_eq_some_iff.mp l1).1
  have ii : px_in (nI i) 60 = true := px_inb (by omega) (by decide)
  have ci : (nI i).toNatClampNeg = i := nI_clamp (by omega)
  have ib : px_in (nI (yB (bsS S mk i))) 60 = true := px_inb (by omega) (by decide)
  have cb : (nI (yB (bsS S mk i))).toNatClampNeg = yB (bsS S mk i) := nI_clamp (by omega)
  have si := s3 i (Nat.le_refl _) hi
  have li := l3 i (Nat.le_refl _) hi
  have di := d3 i (Nat.le_refl _) hi
  have e5 : nI (yP S i) - 5 = nI (yP S i - 5) := nI_sub (a := yP S i) (b := 5) p1
  have e6 : (5 : Int32) + nI (yL S i) + 1 = nI (6 + yL S i) := by
    rw [show (5 : Int32) = nI 5 from rfl, show (1 : Int32) = nI 1 from rfl, nI_add, nI_add]; congr 1; omega
  have eR : nI (yR (bsS S mk i)) + 5 = nI (yR (bsS S mk i) + 5) := by rw [show (5 : Int32) = nI 5 from rfl, nI_add]
  have n1 : ∀ x : Int32, px_nar 1 x = x := fun _ => rfl
  have hp : px_cp h (Y + 2) (Y + 2) (nI (yP S i - 5)) (nI (yR (bsS S mk i))) (nI (6 + yL S i)) = some (px_wr h (Y + 2) (.inr (0, 40000, .inl (va_cpy f f (yP S i - 5) (yR (bsS S mk i)) (6 + yL S i))))) := by
    unfold px_cp
    rw [w2]
    simp only [nI_clamp (show yP S i - 5 < 2147483648 by omega), nI_clamp (show yR (bsS S mk i) < 2147483648 by omega), nI_clamp (show 6 + yL S i < 2147483648 by omega)]
    rw [if_pos ⟨⟨nI_pos (by omega), nI_pos (by omega), nI_pos (by omega)⟩, by omega, by omega⟩]
    rfl
  have b' := b
  unfold yrdF at b'
  have x1 : (Y + 2 = Y) = False := eq_false (by omega)
  have x2 : (Y + 3 = Y) = False := eq_false (by omega)
  have x3 : (Y + 4 = Y) = False := eq_false (by omega)
  have x4 : (Y + 5 = Y) = False := eq_false (by omega)
  have x5 : (Y = Y + 1) = False := eq_false (by omega)
  have x6 : ∀ {a b : Nat}, (Y + a = Y + b) = (a = b) := fun {a b} => propext ⟨fun e => by omega, fun e => by omega⟩
  simp only [pc110_0, pc110_0n, pc110_1, pc110_4, pc110_5, pc110_6, pc110_7, pc110_8, pc110_9, pc110_10, pc110_10n, pc110_11, pc110_14, pc110_15, pc110_16, pc110_17, pc110_18, pc110_19, pc110_20, pc110_20n, pc110_21, pc110_24, pc110_27, pc110_28, pc110_28n, pc110_29, pc110_32, pc110_35, pc110_35n, pc110_36, pc110_39, pc110_42, pc110_43, pc110_46, pc110_46n, pc110_47, pc110_50, pc110_50n, pc110_51, pc110_54, pc110_54n, pc110_55, pc110_58, pc110_59, pc110_60, pc110_61, pc110_61n, pc110_62, pc110_65, pc110_65n, pc110_66, pc110_69, pc110_69n, pc110_70, pc110_73, pc110_76, pc110_77, pc110_78, pc110_79, pc110_79n, pc110_80, pc110_83, pc110_83n, pc110_84, pc110_87, pc110_87n, pc110_88, pc110_91, pc110_92, pc110_93, pc110_94, pc110_94n, pc110_95, pc110_95r, pc110_96, pc110_99, pc110_100, pc110_101, pc110_104, pc110_104n, pc110_105, pc110_108, pc110_108r, pc110_109, pc110_112, pc110_113, pc110_114, pc110_117, px_op_some, px_kv_ap, px_ki_ap, px_kl_ap, px_kn_ap, px_kh_ap, px_op_none, px_K_some, px_K_none, px_K_thr, px_kill, ↓reduceIte, if_true, if_false, true_and, and_true, px_gf, px_pf, px_ai, px_aj, px_aa, px_wi, px_wj, px_wa, px_an, px_cls, yr_0, yr_1, tr_0, tr_1, tr_2, tr_3, px_rf, of_2, of_4, in_02, in_12, in_04, in_14, in_24, in_34, Nat.reduceLeDiff, in_01, lgc_self, Int32.reduceToNatClampNeg, wr_at, al_at, px_wr_len, px_al_len, px_wr_1, px_al_1, tg_0, tg_1, tg_2, tg_3, tg_12, tg_15, tg_17, tg_18, tg_i1, tg_b0, tg_b3, px_fit, Nat.reduceEqDiff, Nat.reduceLT, Nat.reduceAdd, Option.some.injEq, up_at, px_wr_wr, i32_le, Int32.reduceLE, Int32.reduceLT, mf_len, nar_0, nar_1, px_KH_some, px_KH_none, px_KH_thr, List.length_cons, List.length_nil, List.getElem?_cons_zero, List.getElem?_cons_succ, List.set_cons_zero, List.set_cons_succ, ↓reduceIte, Nat.lt_irrefl, ne_0_1, ne_0_2, ne_0_3, ne_0_4, ne_0_5, ne_1_0, ne_1_2, ne_1_3, ne_1_4, ne_1_5, ne_2_0, ne_2_1, ne_2_3, ne_2_4, ne_2_5, ne_3_0, ne_3_1, ne_3_2, ne_3_4, ne_3_5, ne_4_0, ne_4_1, ne_4_2, ne_4_3, ne_4_5, ne_5_0, ne_5_1, ne_5_2, ne_5_3, ne_5_4, hd_256_12, hd_256_16, hd_257_12, hd_258_12, hd_259_12, hd_260_12, hd_261_12, hd_261_13, hd_261_16, hd_262_12, hd_262_13, hd_262_16, hd_263_12, hd_263_13, hd_264_12, hd_264_13, hd_264_14, hd_265_12, hd_265_13, hd_265_14, hd_266_12, hd_267_12, hd_267_13, hd_267_14, hd_268_12, hd_269_12, hd_269_14, hd_270_12, hd_271_12, hd_272_12, hd_273_12, hd_273_13, hd_273_15, hd_274_12, hd_274_15, hd_275_12, hd_275_15, hd_276_12, nI_p1, nI_p2, nI_p3, nI_p4, nI_p5, not_true_eq_false, not_false_eq_true, and_self, mf_0, mf_1, mf_2, mf_3, mf_4, mf_5, mf_6, mf_7, mf_8, mf_9, mf_10, mf_11, mf_12, mf_13, mf_14, mf_15, mf_16, mf_17, mf_18, mf_19, mf_20, mf_21, mf_22, mf_23, mf_24, mf_25, mf_26, mf_27, mf_28, mf_29, mf_30, mf_31, mf_32, mf_33, mf_34, mf_35, mf_36, mf_37, mf_38, mf_39, mf_40, mf_41, mf_42, mf_43, mf_44, mf_45, mf_46, mf_47, mf_48, mf_49, mf_50, mf_51, mf_52, mf_53, mf_54, mf_55, mf_56, mf_57, mf_58, mf_59, mf_60, mf_61, mfs_0, mfs_2, mfs_17, mfs_20, mfs_26, mfs_32, mfs_34, mfs_36, mfs_38, mfs_43, mfs_44, mfs_45, mfs_46, mfs_47, iy_0, iy_1, iy_2, iy_3, iy_4, iy_5, iy_6, b', w1, d1, s1, l1, si, li, di, ii, ci, ib, cb, e5, e6, eR, n1, hp, tg_2, tg_i1, x1, x2, x3, x4, x5, x6, Nat.reduceEqDiff, px_kill, wr_at, nI_1, nI_add, l2', l3', l4', l5', lY, l1']
  generalize hH : px_wr (px_wr (px_wr (px_wr (px_wr (px_wr h (Y + 2) (.inr (0, 40000, .inl (va_cpy f f (yP S i - 5) (yR (bsS S mk i)) (6 + yL S i))))) (Y + 3) (.inr (2, 60, .inr (.inl (px_up D (yB (bsS S mk i)) (yD S i)))))) (Y + 4) (.inr (1, 60, .inl (px_up st (yB (bsS S mk i)) (nI (yR (bsS S mk i) + 5)))))) (Y + 5) (.inr (1, 60, .inl (px_up ln (yB (bsS S mk i)) (nI (yL S i)))))) Y (.inl (7, [.ref (Y + 1), .int (nI (yC S)), .ref (Y + 3), .ref (Y + 4), .ref (Y + 5), .ref (Y + 6), .int (nI (yB (bsS S mk i) + 1)), .ref (Y + 7), .ref (Y + 8), .int (nI (yK S)), .ref (Y + 9), .ref (Y + 10)]))) (Y + 1) (.inl (1, [.ref (Y + 1 + 1), .int (nI (yR (bsS S mk i) + (6 + yL S i)))])) = H
  have z1 : H.2[Y + 1]? = some (.inl (1, [.ref (Y + 1 + 1), .int (nI (yR (bsS S mk i) + (6 + yL S i)))])) := by rw [← hH, wr_at, if_pos rfl, if_pos (by simp only [px_wr_len]; omega)]
  have z0 : H.2[Y]? = some (.inl (7, yrdF Y (nI (yC S)) (nI (yB (bsS S mk i) + 1)) (nI (yK S)))) := by rw [← hH, wr_at, if_neg (by omega), wr_at, if_pos rfl, if_pos (by simp only [px_wr_len]; omega)]; rfl
  have z5 : H.2[Y + 5]? = some (.inr (1, 60, .inl (px_up ln (yB (bsS S mk i)) (nI (yL S i))))) := by rw [← hH, wr_at, if_neg (by omega), wr_at, if_neg (by omega), wr_at, if_pos rfl, if_pos (by simp only [px_wr_len]; omega)]
  have z4 : H.2[Y + 4]? = some (.inr (1, 60, .inl (px_up st (yB (bsS S mk i)) (nI (yR (bsS S mk i) + 5))))) := by rw [← hH, wr_at, if_neg (by omega), wr_at, if_neg (by omega), wr_at, if_neg (by omega), wr_at, if_pos rfl, if_pos (by simp only [px_wr_len]; omega)]
  have z3 : H.2[Y + 3]? = some (.inr (2, 60, .inr (.inl (px_up D (yB (bsS S mk i)) (yD S i))))) := by rw [← hH, wr_at, if_neg (by omega), wr_at, if_neg (by omega), wr_at, if_neg (by omega), wr_at, if_neg (by omega), wr_at, if_pos rfl, if_pos (by simp only [px_wr_len]; omega)]
  have z2 : H.2[Y + 1 + 1]? = some (.inr (0, 40000, .inl (va_cpy f f (yP S i - 5) (yR (bsS S mk i)) (6 + yL S i)))) := by rw [← hH, wr_at, if_neg (by omega), wr_at, if_neg (by omega), wr_at, if_neg (by omega), wr_at, if_neg (by omega), wr_at, if_neg (by omega), wr_at, if_pos rfl, if_pos (by omega)]
  have zr : ∀ r, ¬ (Y ≤ r ∧ r ≤ Y + 5) → H.2[r]? = h.2[r]? := fun r hr => by rw [← hH, wr_at, if_neg (by omega), wr_at, if_neg (by omega), wr_at, if_neg (by omega), wr_at, if_neg (by omega), wr_at, if_neg (by omega), wr_at, if_neg (by omega)]
  have fH : frm (cyA Y) h H := by
    rw [← hH]
    exact frm_wr (frm_wr (frm_wr (frm_wr (frm_wr (frm_wr (frm_refl _ _) ⟨by omega, by omega⟩) ⟨by omega, by omega⟩) ⟨by omega, by omega⟩) ⟨by omega, by omega⟩) ⟨by omega, by omega⟩) ⟨by omega, by omega⟩
  have nB : yB (bsS S mk (i + 1)) = yB (bsS S mk i) + 1 := by rw [en]; rfl
  have nR : yR (bsS S mk (i + 1)) = yR (bsS S mk i) + (6 + yL S i) := by rw [en]; rfl
  have nD : ∀ j, yD (bsS S mk (i + 1)) j = px_up (yD (bsS S mk i)) (yB (bsS S mk i)) (yD S i) j := fun j => by rw [en, gk.2]; rfl
  have nP : ∀ j, yP (bsS S mk (i + 1)) j = px_up (yP (bsS S mk i)) (yB (bsS S mk i)) (yR (bsS S mk i) + 5) j := fun j => by rw [en]; rfl
  have nL : ∀ j, yL (bsS S mk (i + 1)) j = px_up (yL (bsS S mk i)) (yB (bsS S mk i)) (yL S i) j := fun j => by rw [en]; rfl
  have nJ : ∀ j, yJ (bsS S mk (i + 1)) j = (addJ (bsS S mk i) (6 + yL S i) (recB 1 (yL S i) (blB S i))).2.1 j := fun j => by rw [en]; rfl
  have cpo : ∀ j, j < yR (bsS S mk i) ∨ yR (bsS S mk i) + (6 + yL S i) ≤ j → va_cpy f f (yP S i - 5) (yR (bsS S mk i)) (6 + yL S i) j = f j := fun j hj => by unfold va_cpy; rw [if_neg (by omega)]
  have cpn : ∀ j, j < 6 + yL S i → va_cpy f f (yP S i - 5) (yR (bsS S mk i)) (6 + yL S i) (yR (bsS S mk i) + j) = f (yP S i - 5 + j) := fun j hj => by unfold va_cpy; rw [if_pos ⟨by omega, by omega⟩, Nat.add_sub_cancel_left]
  refine hQ H ⟨⟨_, ⟨by rw [nR]; exact z1, z2, by omega, Nat.le_refl _⟩, fun j hj => ?_, fun k hk1 hk2 m hm => ?_⟩, by rw [nB]; exact z0, ⟨_, z3, fun j hj => ?_, fun k hk1 hk2 => ?_⟩, ⟨_, z4, fun j hj => ?_, fun k hk1 hk2 => ?_⟩, ⟨_, z5, fun j hj => ?_, fun k hk1 hk2 => ?_⟩, fun r x y => (zr r (by omega)).trans (r1 r x y), frm_trans r2 fH, fun s => ?_⟩
  · rw [nJ]
    by_cases e : j < yR (bsS S mk i)
    · rw [cpo j (.inl e), addJ_old e]; exact f2 j e
    · obtain ⟨j', rfl⟩ : ∃ j', j = yR (bsS S mk i) + j' := ⟨j - yR (bsS S mk i), by omega⟩
      rw [cpn j' (by omega), addJ_new (Nat.le_add_right _ _), Nat.add_sub_cancel_left, f3 i (Nat.le_refl _) hi j' (by omega)]
      exact p3 j' (by omega)
  · have := bk.2 i k (by omega) hk2
    rw [cpo _ (.inr (by omega))]; exact f3 k (by omega) hk2 m hm
  · rw [nD]
    by_cases e : j = yB (bsS S mk i)
    · rw [e, up_same, up_same]
    · rw [up_ne e, up_ne e]; exact d2 j (by omega)
  · rw [up_ne (by omega)]; exact d3 k (by omega) hk2
  · rw [nP]
    by_cases e : j = yB (bsS S mk i)
    · rw [e, up_same, up_same]
    · rw [up_ne e, up_ne e]; exact s2 j (by omega)
  · rw [up_ne (by omega)]; exact s3 k (by omega) hk2
  · rw [nL]
    by_cases e : j = yB (bsS S mk i)
    · rw [e, up_same, up_same]
    · rw [up_ne e, up_ne e]; exact l2 j (by omega)
  · rw [up_ne (by omega)]; exact l3 k (by omega) hk2
  · have q0 := r3 s
    rw [← hH]
    have q1 := shape_ia (g := va_cpy f f (yP S i - 5) (yR (bsS S mk i)) (6 + yL S i)) q0 w2
    have q2 := shape_la (r := Y + 3) (t := 2) (n := 60) (f := D) (g := px_up D (yB (bsS S mk i)) (yD S i)) q1 (by rw [wr_at, if_neg (by omega)]; exact d1)
    have q3 := shape_ia (r := Y + 4) (t := 1) (n := 60) (f := st) (g := px_up st (yB (bsS S mk i)) (nI (yR (bsS S mk i) + 5))) q2 (by rw [wr_at, if_neg (by omega), wr_at, if_neg (by omega)]; exact s1)
    have q4 := shape_ia (r := Y + 5) (t := 1) (n := 60) (f := ln) (g := px_up ln (yB (bsS S mk i)) (nI (yL S i))) q3 (by rw [wr_at, if_neg (by omega), wr_at, if_neg (by omega), wr_at, if_neg (by omega)]; exact l1)
    have q5 := shape_int (r := Y) (c := 7) (k := 6) (x := nI (yB (bsS S mk i))) (y := nI (yB (bsS S mk i) + 1)) q4 (by rw [wr_at, if_neg (by omega), wr_at, if_neg (by omega), wr_at, if_neg (by omega), wr_at, if_neg (by omega)]; exact b') rfl
    exact shape_int (r := Y + 1) (c := 1) (k := 1) (x := nI (yR (bsS S mk i))) (y := nI (yR (bsS S mk i) + (6 + yL S i))) q5 (by rw [wr_at, if_neg (by omega), wr_at, if_neg (by omega), wr_at, if_neg (by omega), wr_at, if_neg (by omega), wr_at, if_neg (by omega)]; exact w1) rfl
end SWEEP
