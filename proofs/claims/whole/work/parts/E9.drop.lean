/-! COLLECT, the reference's: blobs dropped -/
set_option maxRecDepth 16384 in
theorem sumY_le {L : Nat → Nat} {j n : Nat} (h : j < n) : sumY L j + L j ≤ sumY L n := by
  obtain ⟨d, rfl⟩ : ∃ d, n = j + 1 + d := ⟨n - (j + 1), by omega⟩
  induction d with
  | zero => exact Nat.le_refl _
  | succ d ih => exact Nat.le_trans (ih (by omega)) (Nat.le_add_right _ _)
section DROP
variable {sx : Nat × (Nat → Int32)} {h : px_H} {q : Nat} {S : yS} {V : Nat → Int32} {mk : Nat → Bool} {Q : px_O → px_H → Prop}
def lkn (h h1 : px_H) (q : Nat) (S : yS) (V : Nat → Int32) (k : Nat) : Prop := frm (fun r => mtA r ∨ r = 635) h h1 ∧ shape h1 ∧ (∃ V1, h1.2[619]? = some (.inl (11, modF V1)) ∧ vIm V V1) ∧ ∃ nds, h1.2[635]? = some (.inr (3, 61, .inl nds)) ∧ ∀ j, j < k → says (nds j) (nd h q S (yD S j))
set_option maxRecDepth 16384 in
theorem nd_frm {h h1 : px_H} {x : Int64} (e : ∀ r, 655 ≤ r → r ≤ 667 → h1.2[r]? = h.2[r]?) : nd h1 q S x ↔ nd h q S x := by
  unfold nd ndX
  rw [iA_q (e 655 (by decide) (by decide)), iA_q (e 662 (by decide) (by decide)), iA_q (e 656 (by decide) (by decide)), iA_q (e 664 (by decide) (by decide))]
set_option maxRecDepth 16384 in
theorem m_db1_l (hq : q < 2) (g : goodC S) (ry : RY h q S) (iX : ∀ t, t < 4 → invX h t)
    (hQ : ∀ h1, lkn h h1 q S V (yB S) → px_Wp sx 243 48 [some (.ref 619), some (.int (nI q)), some (.int 0), some (.int (nI (yB S))), some (.int (nI (yB S))), none, none, none, none] [] h1 Q) :
    ∀ n k, k + n = yB S → ∀ h1, lkn h h1 q S V k → px_Wp sx 243 12 [some (.ref 619), some (.int (nI q)), some (.int 0), some (.int (nI (yB S))), some (.int (nI k)), none, none, none, none] [] h1 Q := by
  have hB := g.1.2.2.1
  intro n
  induction n with
  | zero =>
    intro k hk h1 w
    have hk : k = yB S := by omega
    subst hk
    simp only [pc243_12, pc243_14, pc243_15, if_pos (Int32.le_refl _)]
    exact hQ h1 w
  | succ n ih =>
    intro k hk h1 w
    obtain ⟨fr, sh, ⟨V1, h6, vi⟩, nds, n1, n2⟩ := w
    have ry1 : RY h1 q S := RY_frm ry (fun r a b => fr.2.2 r (by unfold mtA; omega))
    have iX1 : ∀ t, t < 4 → invX h1 t := fun t ht => invX_frm (iX t ht) (fun r a b => fr.2.2 r (by unfold mtA; omega)) (fun r a b => fr.2.2 r (by unfold mtA; omega))
    have ndE : ∀ x, nd h1 q S x ↔ nd h q S x := fun x => nd_frm (fun r a b => fr.2.2 r (by unfold mtA; omega))
    have ry2 := ry1
    obtain ⟨-, -, -, -, ⟨D, e1, e2⟩, -⟩ := ry2
    have ge : ¬ nI (yB S) ≤ nI k := nI_ge (by omega) (by omega)
    have i61 : px_in (nI k) 61 = true := px_inb (by omega) (by decide)
    have c61 : (nI k).toNatClampNeg = k := nI_clamp (by omega)
    have i22 : px_in (nI (61 * q + k)) 122 = true := px_inb (by omega) (by decide)
    have c22 : (nI (61 * q + k)).toNatClampNeg = 61 * q + k := nI_clamp (by omega)
    rw [pc243_12]
    simp only [pc243_14, pc243_15, pc243_18, pc243_18n, pc243_19, pc243_22, pc243_24, pc243_24n, pc243_25, pc243_26, pc243_26n, pc243_27, pc243_30, pc243_32, pc243_33, pc243_34, pc243_36, pc243_37, pc243_38, px_op_some, px_kv_ap, px_ki_ap, px_kl_ap, px_kn_ap, px_kh_ap, px_op_none, px_K_some, px_K_none, px_K_thr, px_kill, ↓reduceIte, if_true, if_false, true_and, and_true, px_gf, px_pf, px_ai, px_aj, px_aa, px_wi, px_wj, px_wa, px_an, px_cls, yr_0, yr_1, tr_0, tr_1, tr_2, tr_3, px_rf, of_2, of_4, in_02, in_12, in_04, in_14, in_24, in_34, Nat.reduceLeDiff, in_01, lgc_self, Int32.reduceToNatClampNeg, wr_at, al_at, px_wr_len, px_al_len, px_wr_1, px_al_1, tg_0, tg_1, tg_2, tg_3, tg_12, tg_15, tg_17, tg_18, tg_i1, tg_b0, tg_b3, px_fit, Nat.reduceEqDiff, Nat.reduceLT, Nat.reduceAdd, Option.some.injEq, up_at, px_wr_wr, i32_le, Int32.reduceLE, Int32.reduceLT, mf_len, nar_0, nar_1, px_KH_some, px_KH_none, px_KH_thr, List.length_cons, List.length_nil, List.getElem?_cons_zero, List.getElem?_cons_succ, List.set_cons_zero, List.set_cons_succ, ↓reduceIte, Nat.lt_irrefl, ne_0_1, ne_0_2, ne_0_3, ne_0_4, ne_0_5, ne_1_0, ne_1_2, ne_1_3, ne_1_4, ne_1_5, ne_2_0, ne_2_1, ne_2_3, ne_2_4, ne_2_5, ne_3_0, ne_3_1, ne_3_2, ne_3_4, ne_3_5, ne_4_0, ne_4_1, ne_4_2, ne_4_3, ne_4_5, ne_5_0, ne_5_1, ne_5_2, ne_5_3, ne_5_4, hd_256_12, hd_256_16, hd_257_12, hd_258_12, hd_259_12, hd_260_12, hd_261_12, hd_261_13, hd_261_16, hd_262_12, hd_262_13, hd_262_16, hd_263_12, hd_263_13, hd_264_12, hd_264_13, hd_264_14, hd_265_12, hd_265_13, hd_265_14, hd_266_12, hd_267_12, hd_267_13, hd_267_14, hd_268_12, hd_269_12, hd_269_14, hd_270_12, hd_271_12, hd_272_12, hd_273_12, hd_273_13, hd_273_15, hd_274_12, hd_274_15, hd_275_12, hd_275_15, hd_276_12, nI_p1, nI_p2, nI_p3, nI_p4, nI_p5, not_true_eq_false, not_false_eq_true, and_self, mf_0, mf_1, mf_2, mf_3, mf_4, mf_5, mf_6, mf_7, mf_8, mf_9, mf_10, mf_11, mf_12, mf_13, mf_14, mf_15, mf_16, mf_17, mf_18, mf_19, mf_20, mf_21, mf_22, mf_23, mf_24, mf_25, mf_26, mf_27, mf_28, mf_29, mf_30, mf_31, mf_32, mf_33, mf_34, mf_35, mf_36, mf_37, mf_38, mf_39, mf_40, mf_41, mf_42, mf_43, mf_44, mf_45, mf_46, mf_47, mf_48, mf_49, mf_50, mf_51, mf_52, mf_53, mf_54, mf_55, mf_56, mf_57, mf_58, mf_59, mf_60, mf_61, mfs_0, mfs_2, mfs_17, mfs_20, mfs_26, mfs_32, mfs_34, mfs_36, mfs_38, mfs_43, mfs_44, mfs_45, mfs_46, mfs_47, iy_0, iy_1, iy_2, iy_3, iy_4, iy_5, iy_6, h6, mf_4, mf_18, ge, mul_61 hq, nI_add, e1, i22, c22, e2 k (by omega), tg_2, px_kill]
    refine m_isNeeded sh h6 hq g ry1 iX1 (fun h2 x l2 sy => ?_)
    obtain ⟨fr2, sh2, V2, h62, vi2⟩ := l2
    have n1' := (fr2.2.2 635 (by unfold mtA; omega)).trans n1
    have nx : px_nar 3 x = x := by rcases sy with ⟨rfl, -⟩ | ⟨rfl, -⟩ <;> decide
    simp only [px_K_some, pc243_41, pc243_42, pc243_45, px_op_some, px_kv_ap, px_ki_ap, px_kl_ap, px_kn_ap, px_kh_ap, px_op_none, px_K_some, px_K_none, px_K_thr, px_kill, ↓reduceIte, if_true, if_false, true_and, and_true, px_gf, px_pf, px_ai, px_aj, px_aa, px_wi, px_wj, px_wa, px_an, px_cls, yr_0, yr_1, tr_0, tr_1, tr_2, tr_3, px_rf, of_2, of_4, in_02, in_12, in_04, in_14, in_24, in_34, Nat.reduceLeDiff, in_01, lgc_self, Int32.reduceToNatClampNeg, wr_at, al_at, px_wr_len, px_al_len, px_wr_1, px_al_1, tg_0, tg_1, tg_2, tg_3, tg_12, tg_15, tg_17, tg_18, tg_i1, tg_b0, tg_b3, px_fit, Nat.reduceEqDiff, Nat.reduceLT, Nat.reduceAdd, Option.some.injEq, up_at, px_wr_wr, i32_le, Int32.reduceLE, Int32.reduceLT, mf_len, nar_0, nar_1, px_KH_some, px_KH_none, px_KH_thr, List.length_cons, List.length_nil, List.getElem?_cons_zero, List.getElem?_cons_succ, List.set_cons_zero, List.set_cons_succ, ↓reduceIte, Nat.lt_irrefl, ne_0_1, ne_0_2, ne_0_3, ne_0_4, ne_0_5, ne_1_0, ne_1_2, ne_1_3, ne_1_4, ne_1_5, ne_2_0, ne_2_1, ne_2_3, ne_2_4, ne_2_5, ne_3_0, ne_3_1, ne_3_2, ne_3_4, ne_3_5, ne_4_0, ne_4_1, ne_4_2, ne_4_3, ne_4_5, ne_5_0, ne_5_1, ne_5_2, ne_5_3, ne_5_4, hd_256_12, hd_256_16, hd_257_12, hd_258_12, hd_259_12, hd_260_12, hd_261_12, hd_261_13, hd_261_16, hd_262_12, hd_262_13, hd_262_16, hd_263_12, hd_263_13, hd_264_12, hd_264_13, hd_264_14, hd_265_12, hd_265_13, hd_265_14, hd_266_12, hd_267_12, hd_267_13, hd_267_14, hd_268_12, hd_269_12, hd_269_14, hd_270_12, hd_271_12, hd_272_12, hd_273_12, hd_273_13, hd_273_15, hd_274_12, hd_274_15, hd_275_12, hd_275_15, hd_276_12, nI_p1, nI_p2, nI_p3, nI_p4, nI_p5, not_true_eq_false, not_false_eq_true, and_self, mf_0, mf_1, mf_2, mf_3, mf_4, mf_5, mf_6, mf_7, mf_8, mf_9, mf_10, mf_11, mf_12, mf_13, mf_14, mf_15, mf_16, mf_17, mf_18, mf_19, mf_20, mf_21, mf_22, mf_23, mf_24, mf_25, mf_26, mf_27, mf_28, mf_29, mf_30, mf_31, mf_32, mf_33, mf_34, mf_35, mf_36, mf_37, mf_38, mf_39, mf_40, mf_41, mf_42, mf_43, mf_44, mf_45, mf_46, mf_47, mf_48, mf_49, mf_50, mf_51, mf_52, mf_53, mf_54, mf_55, mf_56, mf_57, mf_58, mf_59, mf_60, mf_61, mfs_0, mfs_2, mfs_17, mfs_20, mfs_26, mfs_32, mfs_34, mfs_36, mfs_38, mfs_43, mfs_44, mfs_45, mfs_46, mfs_47, iy_0, iy_1, iy_2, iy_3, iy_4, iy_5, iy_6, n1', i61, c61, nx, tg_b3, px_kill, nI_1]
    have hl : 635 < h2.2.length := (List.getElem?_eq_some_iff.mp n1').1
    refine ih (k + 1) (by omega) _ ⟨frm_wr (frm_trans fr (frm_mono fr2 (fun r => .inl))) (.inr rfl), shape_ia sh2 n1', ⟨V2, by rw [wr_at, if_neg (by decide)]; exact h62, fun j a b => (vi2 j a b).trans (vi j a b)⟩, _, by rw [wr_at, if_pos rfl, if_pos hl], fun j hj => ?_⟩
    by_cases e : j = k
    · subst e; rw [up_same]; exact says_congr sy (ndE _)
    · rw [up_ne e]; exact n2 j (by omega)
set_option maxRecDepth 16384 in
theorem m_cp_l {to fm n : Nat} {l2 l3 l5 : Int32} {bt : Nat → Int32} (hq : q < 2) (hl : 625 < h.2.length) (h6 : h.2[619]? = some (.inl (11, modF V))) (h1 : to ≤ fm) (h2 : fm + n ≤ 40000)
    (hQ : ∀ bt', (∀ m, m < n → bt' (40000 * q + to + m) = bt (40000 * q + fm + m)) → (∀ i, i < 40000 * q + to ∨ 40000 * q + to + n ≤ i → bt' i = bt i) → px_Wp sx 243 147 [some (.ref 619), some (.int (nI q)), some (.int l2), some (.int l3), some (.int (nI to)), some (.int l5), some (.int (nI fm)), some (.int (nI n)), some (.int (nI n))] [] (px_wr h 625 (.inr (1, 80000, .inl bt'))) Q) :
    ∀ d j, j + d = n → ∀ bj, (∀ m, m < j → bj (40000 * q + to + m) = bt (40000 * q + fm + m)) → (∀ i, i < 40000 * q + to ∨ 40000 * q + to + j ≤ i → bj i = bt i) → px_Wp sx 243 104 [some (.ref 619), some (.int (nI q)), some (.int l2), some (.int l3), some (.int (nI to)), some (.int l5), some (.int (nI fm)), some (.int (nI n)), some (.int (nI j))] [] (px_wr h 625 (.inr (1, 80000, .inl bj))) Q := by
  intro d
  induction d with
  | zero =>
    intro j hj bj w1 w2
    have hj : j = n := by omega
    subst hj
    simp only [pc243_104, pc243_106, pc243_108, if_pos (Int32.le_refl _)]
    exact hQ bj w1 w2
  | succ d ih =>
    intro j hj bj w1 w2
    have ge : ¬ nI n ≤ nI j := nI_ge (by omega) (by omega)
    have z5 : ∀ x : px_C, (px_wr h 625 x).2[625]? = some x := fun x => by rw [wr_at, if_pos rfl, if_pos hl]
    have z6 : ∀ x : px_C, (px_wr h 625 x).2[619]? = some (.inl (11, modF V)) := fun x => by rw [wr_at, if_neg (by decide)]; exact h6
    have it : px_in (nI (40000 * q + to + j)) 80000 = true := px_inb (by omega) (by decide)
    have ct : (nI (40000 * q + to + j)).toNatClampNeg = 40000 * q + to + j := nI_clamp (by omega)
    have if_ : px_in (nI (40000 * q + fm + j)) 80000 = true := px_inb (by omega) (by decide)
    have cf : (nI (40000 * q + fm + j)).toNatClampNeg = 40000 * q + fm + j := nI_clamp (by omega)
    have n1 : ∀ x : Int32, px_nar 1 x = x := fun _ => rfl
    have rd : bj (40000 * q + fm + j) = bt (40000 * q + fm + j) := w2 _ (.inr (by omega))
    rw [pc243_104]
    simp only [pc243_106, pc243_108, pc243_111, pc243_111n, pc243_112, pc243_115, pc243_117, pc243_118, pc243_119, pc243_121, pc243_122, pc243_124, pc243_125, pc243_125n, pc243_126, pc243_129, pc243_131, pc243_132, pc243_133, pc243_135, pc243_136, pc243_138, pc243_139, pc243_140, pc243_141, pc243_144, px_op_some, px_kv_ap, px_ki_ap, px_kl_ap, px_kn_ap, px_kh_ap, px_op_none, px_K_some, px_K_none, px_K_thr, px_kill, ↓reduceIte, if_true, if_false, true_and, and_true, px_gf, px_ai, px_wi, yr_0, yr_1, tr_0, tr_1, tr_2, tr_3, px_rf, of_2, of_4, in_02, in_12, in_04, in_14, in_24, in_34, Nat.reduceLeDiff, in_01, lgc_self, Int32.reduceToNatClampNeg, wr_at, al_at, px_wr_len, px_al_len, px_wr_1, px_al_1, tg_0, tg_1, tg_2, tg_3, tg_12, tg_15, tg_17, tg_18, tg_i1, tg_b0, tg_b3, px_fit, Nat.reduceEqDiff, Nat.reduceLT, Nat.reduceAdd, Option.some.injEq, up_at, px_wr_wr, i32_le, Int32.reduceLE, Int32.reduceLT, mf_len, nar_0, nar_1, px_KH_some, px_KH_none, px_KH_thr, List.length_cons, List.length_nil, List.getElem?_cons_zero, List.getElem?_cons_succ, List.set_cons_zero, List.set_cons_succ, ↓reduceIte, Nat.lt_irrefl, ne_0_1, ne_0_2, ne_0_3, ne_0_4, ne_0_5, ne_1_0, ne_1_2, ne_1_3, ne_1_4, ne_1_5, ne_2_0, ne_2_1, ne_2_3, ne_2_4, ne_2_5, ne_3_0, ne_3_1, ne_3_2, ne_3_4, ne_3_5, ne_4_0, ne_4_1, ne_4_2, ne_4_3, ne_4_5, ne_5_0, ne_5_1, ne_5_2, ne_5_3, ne_5_4, hd_256_12, hd_256_16, hd_257_12, hd_258_12, hd_259_12, hd_260_12, hd_261_12, hd_261_13, hd_261_16, hd_262_12, hd_262_13, hd_262_16, hd_263_12, hd_263_13, hd_264_12, hd_264_13, hd_264_14, hd_265_12, hd_265_13, hd_265_14, hd_266_12, hd_267_12, hd_267_13, hd_267_14, hd_268_12, hd_269_12, hd_269_14, hd_270_12, hd_271_12, hd_272_12, hd_273_12, hd_273_13, hd_273_15, hd_274_12, hd_274_15, hd_275_12, hd_275_15, hd_276_12, nI_p1, nI_p2, nI_p3, nI_p4, nI_p5, not_true_eq_false, not_false_eq_true, and_self, mf_0, mf_1, mf_2, mf_3, mf_4, mf_5, mf_6, mf_7, mf_8, mf_9, mf_10, mf_11, mf_12, mf_13, mf_14, mf_15, mf_16, mf_17, mf_18, mf_19, mf_20, mf_21, mf_22, mf_23, mf_24, mf_25, mf_26, mf_27, mf_28, mf_29, mf_30, mf_31, mf_32, mf_33, mf_34, mf_35, mf_36, mf_37, mf_38, mf_39, mf_40, mf_41, mf_42, mf_43, mf_44, mf_45, mf_46, mf_47, mf_48, mf_49, mf_50, mf_51, mf_52, mf_53, mf_54, mf_55, mf_56, mf_57, mf_58, mf_59, mf_60, mf_61, mfs_0, mfs_2, mfs_17, mfs_20, mfs_26, mfs_32, mfs_34, mfs_36, mfs_38, mfs_43, mfs_44, mfs_45, mfs_46, mfs_47, iy_0, iy_1, iy_2, iy_3, iy_4, iy_5, iy_6, z5, z6, mf_7, ge, mul_40000 hq, nI_add, it, ct, if_, cf, n1, tg_i1, px_kill, nI_1, px_wr_wr, rd]
    refine ih (j + 1) (by omega) _ (fun m hm => ?_) (fun i hi => ?_)
    · by_cases e : m = j
      · subst e; exact up_same _ _ _
      · rw [up_ne (by omega)]; exact w1 m (by omega)
    · rw [up_ne (by omega)]; exact w2 i (by omega)
end DROP
