/-! COLLECT: what the class marks -/
def mkd (h : px_H) (Y : Nat) (S : yS) (P : Int64 → Prop) : Prop := ∃ m6, h.2[Y + 6]? = some (.inr (3, 60, .inl m6)) ∧ ∀ k, k < yB S → (m6 k = 1 ∧ P (yD S k)) ∨ (m6 k = 0 ∧ ¬ P (yD S k))
set_option maxRecDepth 16384 in
theorem mkd_congr {h : px_H} {Y : Nat} {S : yS} {P P' : Int64 → Prop} (m : mkd h Y S P) (e : ∀ x, P x ↔ P' x) : mkd h Y S P' := by
  obtain ⟨m6, a, b⟩ := m
  exact ⟨m6, a, fun k hk => by rw [← e]; exact b k hk⟩
set_option maxRecDepth 16384 in
theorem mkd_frm {h h' : px_H} {Y : Nat} {S : yS} {P : Int64 → Prop} (m : mkd h Y S P) (e : h'.2[Y + 6]? = h.2[Y + 6]?) : mkd h' Y S P := by
  obtain ⟨m6, a, b⟩ := m
  exact ⟨m6, e.trans a, b⟩
set_option maxRecDepth 16384 in
theorem CY_m6 {h : px_H} {Y : Nat} {S : yS} {g : Nat → Int32} (c : CY h Y S) : CY (px_wr h (Y + 6) (.inr (3, 60, .inl g))) Y S := by
  obtain ⟨⟨f, a1, a2⟩, b, ⟨D, c1, c2⟩, ⟨st, d1, d2⟩, ⟨ln, e1, e2⟩, ⟨mk, f1⟩, ⟨ky, g1, g2⟩, ⟨kl, h1, h2⟩, ⟨G, i1, i2⟩, T, j1, j2⟩ := c
  have z : ∀ {r : Nat} {x : px_C}, h.2[r]? = some x → r ≠ Y + 6 → (px_wr h (Y + 6) (.inr (3, 60, .inl g))).2[r]? = some x := fun ee a => by rw [wr_at, if_neg (fun q => a q.symm)]; exact ee
  exact ⟨⟨f, ⟨z a1.1 (by omega), z a1.2.1 (by omega), a1.2.2⟩, a2⟩, z b (by omega), ⟨D, z c1 (by omega), c2⟩, ⟨st, z d1 (by omega), d2⟩, ⟨ln, z e1 (by omega), e2⟩, ⟨g, by rw [wr_at, if_pos rfl, if_pos (List.getElem?_eq_some_iff.mp f1).1]⟩, ⟨ky, z g1 (by omega), g2⟩, ⟨kl, z h1 (by omega), h2⟩, ⟨G, z i1 (by omega), i2⟩, T, z j1 (by omega), j2⟩
/-- an image's object, whatever it holds -/
def imX (h : px_H) (I : Nat) : Prop := ∃ x y L, h.2[I]? = some (.inl (6, [.ref (I + 1), .int x, .ref (I + 2), .int y])) ∧ h.2[I + 1]? = some (.inr (2, 12, .inr (.inl L)))
set_option maxRecDepth 16384 in
theorem imX_of {h : px_H} {I lc sc : Nat} {L : Nat → Int64} (o : imO h I lc sc L) : imX h I := ⟨_, _, L, o.1, o.2⟩
set_option maxRecDepth 16384 in
theorem imX_frm {h h' : px_H} {I : Nat} (o : imX h I) (e0 : h'.2[I]? = h.2[I]?) (e1 : h'.2[I + 1]? = h.2[I + 1]?) : imX h' I := by
  obtain ⟨x, y, L, a, b⟩ := o
  exact ⟨x, y, L, e0.trans a, e1.trans b⟩
/-- the layers of the image that v names -/
def isLay (S : yS) (v x : Int64) : Prop := ∃ k, k < yB S ∧ yD S k = v ∧ ∃ nl ns pos na nv, imgOK (blB S k) (yL S k) nl ns pos na nv ∧ ∃ i, i < nl ∧ x = layB (blB S k) i
set_option maxRecDepth 16384 in
theorem img_nl {b : Nat → Int32} {l l' nl nl' ns ns' : Nat} {pos na nv pos' na' nv' : Nat → Nat} (h : imgOK b l nl ns pos na nv) (h' : imgOK b l' nl' ns' pos' na' nv') : nl = nl' := by
  have a := h.2.2.2.1
  have b' := h'.2.2.2.1
  have c := h.1
  have d := h'.1
  exact (nI_inj (by omega) (by omega)).mp (a.symm.trans b')
section MARK
variable {sx : Nat × (Nat → Int32)} {h : px_H} {Y : Nat} {S : yS} {Q : px_O → px_H → Prop} {P : Int64 → Prop}
set_option maxRecDepth 16384 in
theorem c_mark {d : Int64} (cy : CY h Y S) (hw : WFy S) (m : mkd h Y S P) (hQ : ∀ h', CY h' Y S → mkd h' Y S (fun x => P x ∨ x = d) → frm (fun r => r = Y + 6) h h' → (shape h → shape h') → Q (.inl none) h') :
    px_Wp sx 107 0 [some (.ref Y), some (.long d), none, none] [] h Q := by
  have cy' := cy
  obtain ⟨⟨f, a1, a2⟩, b, ⟨D, c1, c2⟩, -⟩ := cy
  obtain ⟨m6, m1, m2⟩ := m
  have hcY : px_cls h Y = some 7 := by unfold px_cls; rw [b]
  have b' := b
  unfold yrdF at b'
  simp only [pc107_0, pc107_0n, pc107_1, pc107_2, px_op_some, px_kv_ap, px_ki_ap, px_kl_ap, px_kn_ap, px_kh_ap, px_op_none, px_K_some, px_K_none, px_K_thr, px_kill, ↓reduceIte, if_true, if_false, true_and, and_true, hcY]
  refine c_find hw.2.2.1 b c1 (fun v hv => ?_)
  rcases hv with ⟨rfl, hn⟩ | ⟨j, hj, rfl, hp, -⟩
  · simp only [px_K_some, pc107_5, pc107_6, pc107_7, pc107_8, pc107_11, pc107_11n, pc107_12, pc107_15, pc107_16, pc107_17, pc107_18, px_op_some, px_kv_ap, px_ki_ap, px_kl_ap, px_kn_ap, px_kh_ap, px_op_none, px_K_some, px_K_none, px_K_thr, px_kill, ↓reduceIte, if_true, if_false, true_and, and_true, px_gf, px_pf, px_ai, px_aj, px_aa, px_wi, px_wj, px_wa, px_an, px_cls, yr_0, yr_1, tr_0, tr_1, tr_2, tr_3, px_rf, of_2, of_4, in_02, in_12, in_04, in_14, in_24, in_34, Nat.reduceLeDiff, in_01, lgc_self, Int32.reduceToNatClampNeg, wr_at, al_at, px_wr_len, px_al_len, px_wr_1, px_al_1, tg_0, tg_1, tg_2, tg_3, tg_12, tg_15, tg_17, tg_18, tg_i1, tg_b0, tg_b3, px_fit, Nat.reduceEqDiff, Nat.reduceLT, Nat.reduceAdd, Option.some.injEq, up_at, px_wr_wr, i32_le, Int32.reduceLE, Int32.reduceLT, mf_len, nar_0, nar_1, px_KH_some, px_KH_none, px_KH_thr, List.length_cons, List.length_nil, List.getElem?_cons_zero, List.getElem?_cons_succ, List.set_cons_zero, List.set_cons_succ, ↓reduceIte, Nat.lt_irrefl, ne_0_1, ne_0_2, ne_0_3, ne_0_4, ne_0_5, ne_1_0, ne_1_2, ne_1_3, ne_1_4, ne_1_5, ne_2_0, ne_2_1, ne_2_3, ne_2_4, ne_2_5, ne_3_0, ne_3_1, ne_3_2, ne_3_4, ne_3_5, ne_4_0, ne_4_1, ne_4_2, ne_4_3, ne_4_5, ne_5_0, ne_5_1, ne_5_2, ne_5_3, ne_5_4, hd_256_12, hd_256_16, hd_257_12, hd_258_12, hd_259_12, hd_260_12, hd_261_12, hd_261_13, hd_261_16, hd_262_12, hd_262_13, hd_262_16, hd_263_12, hd_263_13, hd_264_12, hd_264_13, hd_264_14, hd_265_12, hd_265_13, hd_265_14, hd_266_12, hd_267_12, hd_267_13, hd_267_14, hd_268_12, hd_269_12, hd_269_14, hd_270_12, hd_271_12, hd_272_12, hd_273_12, hd_273_13, hd_273_15, hd_274_12, hd_274_15, hd_275_12, hd_275_15, hd_276_12, nI_p1, nI_p2, nI_p3, nI_p4, nI_p5, not_true_eq_false, not_false_eq_true, and_self, mf_0, mf_1, mf_2, mf_3, mf_4, mf_5, mf_6, mf_7, mf_8, mf_9, mf_10, mf_11, mf_12, mf_13, mf_14, mf_15, mf_16, mf_17, mf_18, mf_19, mf_20, mf_21, mf_22, mf_23, mf_24, mf_25, mf_26, mf_27, mf_28, mf_29, mf_30, mf_31, mf_32, mf_33, mf_34, mf_35, mf_36, mf_37, mf_38, mf_39, mf_40, mf_41, mf_42, mf_43, mf_44, mf_45, mf_46, mf_47, mf_48, mf_49, mf_50, mf_51, mf_52, mf_53, mf_54, mf_55, mf_56, mf_57, mf_58, mf_59, mf_60, mf_61, mfs_0, mfs_2, mfs_17, mfs_20, mfs_26, mfs_32, mfs_34, mfs_36, mfs_38, mfs_43, mfs_44, mfs_45, mfs_46, mfs_47, iy_0, iy_1, iy_2, iy_3, iy_4, iy_5, iy_6, px_kill]
    refine hQ h cy' ⟨m6, m1, fun k hk => ?_⟩ (frm_refl _ _) (fun s => s)
    have : ¬ D k = d := hn k hk
    rw [c2 k hk] at this
    rcases m2 k hk with ⟨x, y⟩ | ⟨x, y⟩
    · exact .inl ⟨x, .inl y⟩
    · exact .inr ⟨x, fun z => z.elim y this⟩
  · have h60 := hw.2.2.1
    have ij : px_in (nI j) 60 = true := px_inb (by omega) (by decide)
    have cj : (nI j).toNatClampNeg = j := nI_clamp (by omega)
    have p0 : ¬ nI j < 0 := nI_pos (by omega)
    have nj : (nI j = -1) = False := eq_false (fun w => p0 (by rw [w]; decide))
    have n3 : px_nar 3 1 = 1 := by decide
    have hl : Y + 6 < h.2.length := (List.getElem?_eq_some_iff.mp m1).1
    simp only [px_K_some, pc107_5, pc107_6, pc107_7, pc107_8, pc107_11, pc107_11n, pc107_12, pc107_15, pc107_16, pc107_17, pc107_18, px_op_some, px_kv_ap, px_ki_ap, px_kl_ap, px_kn_ap, px_kh_ap, px_op_none, px_K_some, px_K_none, px_K_thr, px_kill, ↓reduceIte, if_true, if_false, true_and, and_true, px_gf, px_pf, px_ai, px_aj, px_aa, px_wi, px_wj, px_wa, px_an, px_cls, yr_0, yr_1, tr_0, tr_1, tr_2, tr_3, px_rf, of_2, of_4, in_02, in_12, in_04, in_14, in_24, in_34, Nat.reduceLeDiff, in_01, lgc_self, Int32.reduceToNatClampNeg, wr_at, al_at, px_wr_len, px_al_len, px_wr_1, px_al_1, tg_0, tg_1, tg_2, tg_3, tg_12, tg_15, tg_17, tg_18, tg_i1, tg_b0, tg_b3, px_fit, Nat.reduceEqDiff, Nat.reduceLT, Nat.reduceAdd, Option.some.injEq, up_at, px_wr_wr, i32_le, Int32.reduceLE, Int32.reduceLT, mf_len, nar_0, nar_1, px_KH_some, px_KH_none, px_KH_thr, List.length_cons, List.length_nil, List.getElem?_cons_zero, List.getElem?_cons_succ, List.set_cons_zero, List.set_cons_succ, ↓reduceIte, Nat.lt_irrefl, ne_0_1, ne_0_2, ne_0_3, ne_0_4, ne_0_5, ne_1_0, ne_1_2, ne_1_3, ne_1_4, ne_1_5, ne_2_0, ne_2_1, ne_2_3, ne_2_4, ne_2_5, ne_3_0, ne_3_1, ne_3_2, ne_3_4, ne_3_5, ne_4_0, ne_4_1, ne_4_2, ne_4_3, ne_4_5, ne_5_0, ne_5_1, ne_5_2, ne_5_3, ne_5_4, hd_256_12, hd_256_16, hd_257_12, hd_258_12, hd_259_12, hd_260_12, hd_261_12, hd_261_13, hd_261_16, hd_262_12, hd_262_13, hd_262_16, hd_263_12, hd_263_13, hd_264_12, hd_264_13, hd_264_14, hd_265_12, hd_265_13, hd_265_14, hd_266_12, hd_267_12, hd_267_13, hd_267_14, hd_268_12, hd_269_12, hd_269_14, hd_270_12, hd_271_12, hd_272_12, hd_273_12, hd_273_13, hd_273_15, hd_274_12, hd_274_15, hd_275_12, hd_275_15, hd_276_12, nI_p1, nI_p2, nI_p3, nI_p4, nI_p5, not_true_eq_false, not_false_eq_true, and_self, mf_0, mf_1, mf_2, mf_3, mf_4, mf_5, mf_6, mf_7, mf_8, mf_9, mf_10, mf_11, mf_12, mf_13, mf_14, mf_15, mf_16, mf_17, mf_18, mf_19, mf_20, mf_21, mf_22, mf_23, mf_24, mf_25, mf_26, mf_27, mf_28, mf_29, mf_30, mf_31, mf_32, mf_33, mf_34, mf_35, mf_36, mf_37, mf_38, mf_39, mf_40, mf_41, mf_42, mf_43, mf_44, mf_45, mf_46, mf_47, mf_48, mf_49, mf_50, mf_51, mf_52, mf_53, mf_54, mf_55, mf_56, mf_57, mf_58, mf_59, mf_60, mf_61, mfs_0, mfs_2, mfs_17, mfs_20, mfs_26, mfs_32, mfs_34, mfs_36, mfs_38, mfs_43, mfs_44, mfs_45, mfs_46, mfs_47, iy_0, iy_1, iy_2, iy_3, iy_4, iy_5, iy_6, px_kill, nj, b', m1, tg_b3, ij, cj, n3]
    refine hQ _ (CY_m6 cy') ⟨_, by rw [wr_at, if_pos rfl, if_pos hl], fun k hk => ?_⟩ (frm_wr (frm_refl _ _) rfl) (fun s => shape_ia s m1)
    have hp : D j = d := hp
    rw [c2 j hj] at hp
    by_cases e : k = j
    · subst e; rw [up_same]; exact .inl ⟨rfl, .inr hp⟩
    · rw [up_ne e]
      rcases m2 k hk with ⟨x, y⟩ | ⟨x, y⟩
      · exact .inl ⟨x, .inl y⟩
      · exact .inr ⟨x, fun z => z.elim y (fun q => e (hw.2.2.2.2.1 k j hk hj (q.trans hp.symm)))⟩
set_option maxRecDepth 16384 in
theorem c_mlay_l {I nl sc : Nat} {L : Nat → Int64} (hYI : Y + 11 ≤ I) (hw : WFy S) (hnl : nl ≤ 12)
    (hQ : ∀ h', CY h' Y S → mkd h' Y S (fun x => P x ∨ ∃ i, i < nl ∧ x = L i) → frm (fun r => r = Y + 6) h h' → (shape h → shape h') → Q (.inl none) h') (o : imO h I nl sc L) :
    ∀ n i, i + n = nl → ∀ h1, CY h1 Y S → mkd h1 Y S (fun x => P x ∨ ∃ j, j < i ∧ x = L j) → frm (fun r => r = Y + 6) h h1 → (shape h → shape h1) → px_Wp sx 108 2 [some (.ref Y), some (.ref I), some (.int (nI i))] [] h1 Q := by
  intro n
  induction n with
  | zero =>
    intro i hi h1 cy m fr sh
    have hi : i = nl := by omega
    subst hi
    have o1 := (fr.2.2 I (by omega)).trans o.1
    simp only [pc108_2, pc108_3, pc108_3n, pc108_4, pc108_7, pc108_26, px_op_some, px_kv_ap, px_ki_ap, px_kl_ap, px_kn_ap, px_kh_ap, px_op_none, px_K_some, px_K_none, px_K_thr, px_kill, ↓reduceIte, if_true, if_false, true_and, and_true, px_gf, px_pf, px_ai, px_aj, px_aa, px_wi, px_wj, px_wa, px_an, px_cls, yr_0, yr_1, tr_0, tr_1, tr_2, tr_3, px_rf, of_2, of_4, in_02, in_12, in_04, in_14, in_24, in_34, Nat.reduceLeDiff, in_01, lgc_self, Int32.reduceToNatClampNeg, wr_at, al_at, px_wr_len, px_al_len, px_wr_1, px_al_1, tg_0, tg_1, tg_2, tg_3, tg_12, tg_15, tg_17, tg_18, tg_i1, tg_b0, tg_b3, px_fit, Nat.reduceEqDiff, Nat.reduceLT, Nat.reduceAdd, Option.some.injEq, up_at, px_wr_wr, i32_le, Int32.reduceLE, Int32.reduceLT, mf_len, nar_0, nar_1, px_KH_some, px_KH_none, px_KH_thr, List.length_cons, List.length_nil, List.getElem?_cons_zero, List.getElem?_cons_succ, List.set_cons_zero, List.set_cons_succ, ↓reduceIte, Nat.lt_irrefl, ne_0_1, ne_0_2, ne_0_3, ne_0_4, ne_0_5, ne_1_0, ne_1_2, ne_1_3, ne_1_4, ne_1_5, ne_2_0, ne_2_1, ne_2_3, ne_2_4, ne_2_5, ne_3_0, ne_3_1, ne_3_2, ne_3_4, ne_3_5, ne_4_0, ne_4_1, ne_4_2, ne_4_3, ne_4_5, ne_5_0, ne_5_1, ne_5_2, ne_5_3, ne_5_4, hd_256_12, hd_256_16, hd_257_12, hd_258_12, hd_259_12, hd_260_12, hd_261_12, hd_261_13, hd_261_16, hd_262_12, hd_262_13, hd_262_16, hd_263_12, hd_263_13, hd_264_12, hd_264_13, hd_264_14, hd_265_12, hd_265_13, hd_265_14, hd_266_12, hd_267_12, hd_267_13, hd_267_14, hd_268_12, hd_269_12, hd_269_14, hd_270_12, hd_271_12, hd_272_12, hd_273_12, hd_273_13, hd_273_15, hd_274_12, hd_274_15, hd_275_12, hd_275_15, hd_276_12, nI_p1, nI_p2, nI_p3, nI_p4, nI_p5, not_true_eq_false, not_false_eq_true, and_self, mf_0, mf_1, mf_2, mf_3, mf_4, mf_5, mf_6, mf_7, mf_8, mf_9, mf_10, mf_11, mf_12, mf_13, mf_14, mf_15, mf_16, mf_17, mf_18, mf_19, mf_20, mf_21, mf_22, mf_23, mf_24, mf_25, mf_26, mf_27, mf_28, mf_29, mf_30, mf_31, mf_32, mf_33, mf_34, mf_35, mf_36, mf_37, mf_38, mf_39, mf_40, mf_41, mf_42, mf_43, mf_44, mf_45, mf_46, mf_47, mf_48, mf_49, mf_50, mf_51, mf_52, mf_53, mf_54, mf_55, mf_56, mf_57, mf_58, mf_59, mf_60, mf_61, mfs_0, mfs_2, mfs_17, mfs_20, mfs_26, mfs_32, mfs_34, mfs_36, mfs_38, mfs_43, mfs_44, mfs_45, mfs_46, mfs_47, iy_0, iy_1, iy_2, iy_3, iy_4, iy_5, iy_6, o1, Int32.lt_irrefl, not_false_eq_true, if_true]
    exact hQ h1 cy m fr sh
  | succ n ih =>
    intro i hi h1 cy m fr sh
    have o1 := (fr.2.2 I (by omega)).trans o.1
    have o2 := (fr.2.2 (I + 1) (by omega)).trans o.2
    have b' := cy.2.1
    unfold yrdF at b'
    have ge : ¬ nI nl ≤ nI i := nI_ge (by omega) (by omega)
    have ii : px_in (nI i) 12 = true := px_inb (by omega) (by decide)
    have ci : (nI i).toNatClampNeg = i := nI_clamp (by omega)
    rw [pc108_2]
    simp only [pc108_3, pc108_3n, pc108_4, pc108_7, pc108_10, pc108_10n, pc108_11, pc108_11n, pc108_12, pc108_15, pc108_16, pc108_17, px_op_some, px_kv_ap, px_ki_ap, px_kl_ap, px_kn_ap, px_kh_ap, px_op_none, px_K_some, px_K_none, px_K_thr, px_kill, ↓reduceIte, if_true, if_false, true_and, and_true, px_gf, px_pf, px_ai, px_aj, px_aa, px_wi, px_wj, px_wa, px_an, px_cls, yr_0, yr_1, tr_0, tr_1, tr_2, tr_3, px_rf, of_2, of_4, in_02, in_12, in_04, in_14, in_24, in_34, Nat.reduceLeDiff, in_01, lgc_self, Int32.reduceToNatClampNeg, wr_at, al_at, px_wr_len, px_al_len, px_wr_1, px_al_1, tg_0, tg_1, tg_2, tg_3, tg_12, tg_15, tg_17, tg_18, tg_i1, tg_b0, tg_b3, px_fit, Nat.reduceEqDiff, Nat.reduceLT, Nat.reduceAdd, Option.some.injEq, up_at, px_wr_wr, i32_le, Int32.reduceLE, Int32.reduceLT, mf_len, nar_0, nar_1, px_KH_some, px_KH_none, px_KH_thr, List.length_cons, List.length_nil, List.getElem?_cons_zero, List.getElem?_cons_succ, List.set_cons_zero, List.set_cons_succ, ↓reduceIte, Nat.lt_irrefl, ne_0_1, ne_0_2, ne_0_3, ne_0_4, ne_0_5, ne_1_0, ne_1_2, ne_1_3, ne_1_4, ne_1_5, ne_2_0, ne_2_1, ne_2_3, ne_2_4, ne_2_5, ne_3_0, ne_3_1, ne_3_2, ne_3_4, ne_3_5, ne_4_0, ne_4_1, ne_4_2, ne_4_3, ne_4_5, ne_5_0, ne_5_1, ne_5_2, ne_5_3, ne_5_4, hd_256_12, hd_256_16, hd_257_12, hd_258_12, hd_259_12, hd_260_12, hd_261_12, hd_261_13, hd_261_16, hd_262_12, hd_262_13, hd_262_16, hd_263_12, hd_263_13, hd_264_12, hd_264_13, hd_264_14, hd_265_12, hd_265_13, hd_265_14, hd_266_12, hd_267_12, hd_267_13, hd_267_14, hd_268_12, hd_269_12, hd_269_14, hd_270_12, hd_271_12, hd_272_12, hd_273_12, hd_273_13, hd_273_15, hd_274_12, hd_274_15, hd_275_12, hd_275_15, hd_276_12, nI_p1, nI_p2, nI_p3, nI_p4, nI_p5, not_true_eq_false, not_false_eq_true, and_self, mf_0, mf_1, mf_2, mf_3, mf_4, mf_5, mf_6, mf_7, mf_8, mf_9, mf_10, mf_11, mf_12, mf_13, mf_14, mf_15, mf_16, mf_17, mf_18, mf_19, mf_20, mf_21, mf_22, mf_23, mf_24, mf_25, mf_26, mf_27, mf_28, mf_29, mf_30, mf_31, mf_32, mf_33, mf_34, mf_35, mf_36, mf_37, mf_38, mf_39, mf_40, mf_41, mf_42, mf_43, mf_44, mf_45, mf_46, mf_47, mf_48, mf_49, mf_50, mf_51, mf_52, mf_53, mf_54, mf_55, mf_56, mf_57, mf_58, mf_59, mf_60, mf_61, mfs_0, mfs_2, mfs_17, mfs_20, mfs_26, mfs_32, mfs_34, mfs_36, mfs_38, mfs_43, mfs_44, mfs_45, mfs_46, mfs_47, iy_0, iy_1, iy_2, iy_3, iy_4, iy_5, iy_6, o1, o2, ge, ii, ci, tg_2, b', px_kill]
    refine c_mark cy hw m (fun h2 cy2 m2 fr2 sh2 => ?_)
    simp only [px_K_none, pc108_20, pc108_23, px_kill, nI_1]
    refine ih (i + 1) (by omega) h2 cy2 (mkd_congr m2 (fun x => ?_)) (frm_trans fr fr2) (fun s => sh2 (sh s))
    constructor
    · rintro ((a | ⟨j, b, c⟩) | rfl)
      · exact .inl a
      · exact .inr ⟨j, by omega, c⟩
      · exact .inr ⟨i, by omega, rfl⟩
    · rintro (a | ⟨j, b, c⟩)
      · exact .inl (.inl a)
      · by_cases e : j = i
        · subst e; exact .inr c
        · exact .inl (.inr ⟨j, by omega, c⟩)
set_option maxRecDepth 16384 in
theorem c_mlay {I nl sc : Nat} {L : Nat → Int64} (hYI : Y + 11 ≤ I) (hw : WFy S) (hnl : nl ≤ 12) (o : imO h I nl sc L) (cy : CY h Y S) (m : mkd h Y S P)
    (hQ : ∀ h', CY h' Y S → mkd h' Y S (fun x => P x ∨ ∃ i, i < nl ∧ x = L i) → frm (fun r => r = Y + 6) h h' → (shape h → shape h') → Q (.inl none) h') :
    px_Wp sx 108 0 [some (.ref Y), some (.ref I), none] [] h Q := by
  simp only [pc108_0, pc108_1, px_kill]
  exact c_mlay_l hYI hw hnl hQ o nl 0 (by omega) h cy (mkd_congr m (fun x => ⟨.inl, fun z => z.elim (fun a => a) (fun ⟨j, b, _⟩ => absurd b (Nat.not_lt_zero j))⟩)) (frm_refl _ _) (fun s => s)
set_option maxRecDepth 16384 in
theorem c_m0_l {I : Nat} (cy : CY h Y S) (hQ : ∀ m6, (∀ k, k < 60 → m6 k = 0) → px_Wp sx 106 21 [some (.ref Y), some (.ref I), some (.int 60)] [] (px_wr h (Y + 6) (.inr (3, 60, .inl m6))) Q) :
    ∀ n i, i + n = 60 → ∀ m6, (∀ k, k < i → m6 k = 0) → px_Wp sx 106 2 [some (.ref Y), some (.ref I), some (.int (nI i))] [] (px_wr h (Y + 6) (.inr (3, 60, .inl m6))) Q := by
  obtain ⟨-, b, -, -, -, ⟨mk, f1⟩, -⟩ := cy
  have hl : Y + 6 < h.2.length := (List.getElem?_eq_some_iff.mp f1).1
  unfold yrdF at b
  intro n
  induction n with
  | zero =>
    intro i hi m6 hm
    have hi : i = 60 := by omega
    subst hi
    simp only [pc106_2, pc106_3, pc106_5, show nI 60 = 60 from rfl, if_pos (Int32.le_refl _)]
    exact hQ m6 hm
  | succ n ih =>
    intro i hi m6 hm
    have ge : ¬ (60 : Int32) ≤ nI i := nI_ge (b := 60) (by omega) (by decide)
    have ii : px_in (nI i) 60 = true := px_inb (by omega) (by decide)
    have ci : (nI i).toNatClampNeg = i := nI_clamp (by omega)
    have n3 : px_nar 3 0 = 0 := by decide
    have y0 : (Y + 6 = Y) = False := eq_false (by omega)
    rw [pc106_2]
    simp only [pc106_3, pc106_5, pc106_8, pc106_8n, pc106_9, pc106_12, pc106_13, pc106_14, pc106_15, pc106_18, px_op_some, px_kv_ap, px_ki_ap, px_kl_ap, px_kn_ap, px_kh_ap, px_op_none, px_K_some, px_K_none, px_K_thr, px_kill, ↓reduceIte, if_true, if_false, true_and, and_true, px_gf, px_pf, px_ai, px_aj, px_aa, px_wi, px_wj, px_wa, px_an, px_cls, yr_0, yr_1, tr_0, tr_1, tr_2, tr_3, px_rf, of_2, of_4, in_02, in_12, in_04, in_14, in_24, in_34, Nat.reduceLeDiff, in_01, lgc_self, Int32.reduceToNatClampNeg, wr_at, al_at, px_wr_len, px_al_len, px_wr_1, px_al_1, tg_0, tg_1, tg_2, tg_3, tg_12, tg_15, tg_17, tg_18, tg_i1, tg_b0, tg_b3, px_fit, Nat.reduceEqDiff, Nat.reduceLT, Nat.reduceAdd, Option.some.injEq, up_at, px_wr_wr, i32_le, Int32.reduceLE, Int32.reduceLT, mf_len, nar_0, nar_1, px_KH_some, px_KH_none, px_KH_thr, List.length_cons, List.length_nil, List.getElem?_cons_zero, List.getElem?_cons_succ, List.set_cons_zero, List.set_cons_succ, ↓reduceIte, Nat.lt_irrefl, ne_0_1, ne_0_2, ne_0_3, ne_0_4, ne_0_5, ne_1_0, ne_1_2, ne_1_3, ne_1_4, ne_1_5, ne_2_0, ne_2_1, ne_2_3, ne_2_4, ne_2_5, ne_3_0, ne_3_1, ne_3_2, ne_3_4, ne_3_5, ne_4_0, ne_4_1, ne_4_2, ne_4_3, ne_4_5, ne_5_0, ne_5_1, ne_5_2, ne_5_3, ne_5_4, hd_256_12, hd_256_16, hd_257_12, hd_258_12, hd_259_12, hd_260_12, hd_261_12, hd_261_13, hd_261_16, hd_262_12, hd_262_13, hd_262_16, hd_263_12, hd_263_13, hd_264_12, hd_264_13, hd_264_14, hd_265_12, hd_265_13, hd_265_14, hd_266_12, hd_267_12, hd_267_13, hd_267_14, hd_268_12, hd_269_12, hd_269_14, hd_270_12, hd_271_12, hd_272_12, hd_273_12, hd_273_13, hd_273_15, hd_274_12, hd_274_15, hd_275_12, hd_275_15, hd_276_12, nI_p1, nI_p2, nI_p3, nI_p4, nI_p5, not_true_eq_false, not_false_eq_true, and_self, mf_0, mf_1, mf_2, mf_3, mf_4, mf_5, mf_6, mf_7, mf_8, mf_9, mf_10, mf_11, mf_12, mf_13, mf_14, mf_15, mf_16, mf_17, mf_18, mf_19, mf_20, mf_21, mf_22, mf_23, mf_24, mf_25, mf_26, mf_27, mf_28, mf_29, mf_30, mf_31, mf_32, mf_33, mf_34, mf_35, mf_36, mf_37, mf_38, mf_39, mf_40, mf_41, mf_42, mf_43, mf_44, mf_45, mf_46, mf_47, mf_48, mf_49, mf_50, mf_51, mf_52, mf_53, mf_54, mf_55, mf_56, mf_57, mf_58, mf_59, mf_60, mf_61, mfs_0, mfs_2, mfs_17, mfs_20, mfs_26, mfs_32, mfs_34, mfs_36, mfs_38, mfs_43, mfs_44, mfs_45, mfs_46, mfs_47, iy_0, iy_1, iy_2, iy_3, iy_4, iy_5, iy_6, ge, ii, ci, b, wr_at, y0, hl, n3, tg_b3, px_kill, nI_1, px_wr_wr]
    refine ih (i + 1) (by omega) _ (fun k hk => ?_)
    by_cases e : k = i
    · subst e; exact up_same _ _ _
    · rw [up_ne e]; exact hm k (by omega)
/-- what the first t tags need -/
def ndT (S : yS) (t : Nat) (x : Int64) : Prop := ∃ j, j < t ∧ yT S j = true ∧ (x = yG S j ∨ isLay S (yG S j) x)
set_option maxRecDepth 16384 in
theorem c_mt_l {I : Nat} {Pi : Nat → Nat} (hP : ∀ a b, a < 6 → b < 6 → Pi a = Pi b → a = b) (hYI : Y + 11 ≤ I) (g : goodC S)
    (hQ : ∀ h', CY h' Y S → mkd h' Y S (ndT S 8) → frm (fun r => r = Y + 6 ∨ imA I r) h h' → (shape h → shape h') → imS h' I Pi → imX h' I → Q (.inl none) h') :
    ∀ n t, t + n = 8 → ∀ h1, CY h1 Y S → mkd h1 Y S (ndT S t) → frm (fun r => r = Y + 6 ∨ imA I r) h h1 → (shape h → shape h1) → imS h1 I Pi → imX h1 I → px_Wp sx 106 23 [some (.ref Y), some (.ref I), some (.int (nI t))] [] h1 Q := by
  intro n
  induction n with
  | zero =>
    intro t ht h1 cy m fr sh im io
    have ht : t = 8 := by omega
    subst ht
    simp only [pc106_23, pc106_24, pc106_26, pc106_65, show nI 8 = 8 from rfl, if_pos (Int32.le_refl _)]
    exact hQ h1 cy m fr sh im io
  | succ n ih =>
    intro t ht h1 cy m fr sh im io
    have cy' := cy
    obtain ⟨⟨f, a1, a2⟩, b, ⟨D, c1, c2⟩, ⟨st, d1, d2⟩, ⟨ln, e1, e2⟩, -, -, -, ⟨G, i1, i2⟩, T, j1, j2⟩ := cy
    have hcY : px_cls h1 Y = some 7 := by unfold px_cls; rw [b]
    have b' := b
    unfold yrdF at b'
    have ge : ¬ (8 : Int32) ≤ nI t := nI_ge (b := 8) (by omega) (by decide)
    have ii : px_in (nI t) 8 = true := px_inb (by omega) (by decide)
    have ci : (nI t).toNatClampNeg = t := nI_clamp (by omega)
    have jt := j2 t (by omega)
    rw [pc106_23]
    by_cases e : yT S t = true
    · rw [if_pos e] at jt
      have gt := i2 t (by omega) e
      simp only [pc106_24, pc106_26, pc106_29, pc106_29n, pc106_30, pc106_33, pc106_34, pc106_35, pc106_38, pc106_38n, pc106_39, pc106_39n, pc106_40, pc106_43, pc106_44, pc106_45, px_op_some, px_kv_ap, px_ki_ap, px_kl_ap, px_kn_ap, px_kh_ap, px_op_none, px_K_some, px_K_none, px_K_thr, px_kill, ↓reduceIte, if_true, if_false, true_and, and_true, px_gf, px_pf, px_ai, px_aj, px_aa, px_wi, px_wj, px_wa, px_an, px_cls, yr_0, yr_1, tr_0, tr_1, tr_2, tr_3, px_rf, of_2, of_4, in_02, in_12, in_04, in_14, in_24, in_34, Nat.reduceLeDiff, in_01, lgc_self, Int32.reduceToNatClampNeg, wr_at, al_at, px_wr_len, px_al_len, px_wr_1, px_al_1, tg_0, tg_1, tg_2, tg_3, tg_12, tg_15, tg_17, tg_18, tg_i1, tg_b0, tg_b3, px_fit, Nat.reduceEqDiff, Nat.reduceLT, Nat.reduceAdd, Option.some.injEq, up_at, px_wr_wr, i32_le, Int32.reduceLE, Int32.reduceLT, mf_len, nar_0, nar_1, px_KH_some, px_KH_none, px_KH_thr, List.length_cons, List.length_nil, List.getElem?_cons_zero, List.getElem?_cons_succ, List.set_cons_zero, List.set_cons_succ, ↓reduceIte, Nat.lt_irrefl, ne_0_1, ne_0_2, ne_0_3, ne_0_4, ne_0_5, ne_1_0, ne_1_2, ne_1_3, ne_1_4, ne_1_5, ne_2_0, ne_2_1, ne_2_3, ne_2_4, ne_2_5, ne_3_0, ne_3_1, ne_3_2, ne_3_4, ne_3_5, ne_4_0, ne_4_1, ne_4_2, ne_4_3, ne_4_5, ne_5_0, ne_5_1, ne_5_2, ne_5_3, ne_5_4, hd_256_12, hd_256_16, hd_257_12, hd_258_12, hd_259_12, hd_260_12, hd_261_12, hd_261_13, hd_261_16, hd_262_12, hd_262_13, hd_262_16, hd_263_12, hd_263_13, hd_264_12, hd_264_13, hd_264_14, hd_265_12, hd_265_13, hd_265_14, hd_266_12, hd_267_12, hd_267_13, hd_267_14, hd_268_12, hd_269_12, hd_269_14, hd_270_12, hd_271_12, hd_272_12, hd_273_12, hd_273_13, hd_273_15, hd_274_12, hd_274_15, hd_275_12, hd_275_15, hd_276_12, nI_p1, nI_p2, nI_p3, nI_p4, nI_p5, not_true_eq_false, not_false_eq_true, and_self, mf_0, mf_1, mf_2, mf_3, mf_4, mf_5, mf_6, mf_7, mf_8, mf_9, mf_10, mf_11, mf_12, mf_13, mf_14, mf_15, mf_16, mf_17, mf_18, mf_19, mf_20, mf_21, mf_22, mf_23, mf_24, mf_25, mf_26, mf_27, mf_28, mf_29, mf_30, mf_31, mf_32, mf_33, mf_34, mf_35, mf_36, mf_37, mf_38, mf_39, mf_40, mf_41, mf_42, mf_43, mf_44, mf_45, mf_46, mf_47, mf_48, mf_49, mf_50, mf_51, mf_52, mf_53, mf_54, mf_55, mf_56, mf_57, mf_58, mf_59, mf_60, mf_61, mfs_0, mfs_2, mfs_17, mfs_20, mfs_26, mfs_32, mfs_34, mfs_36, mfs_38, mfs_43, mfs_44, mfs_45, mfs_46, mfs_47, iy_0, iy_1, iy_2, iy_3, iy_4, iy_5, iy_6, ge, ii, ci, b', i1, j1, jt, gt, tg_b3, tg_2, px_kill]
      refine c_mark cy' g.1 m (fun h2 cy2 m2 fr2 sh2 => ?_)
      have cy2' := cy2
      obtain ⟨⟨f', a1, a2⟩, b, ⟨D', c1, c2⟩, ⟨st', d1, d2⟩, ⟨ln', e1, e2⟩, -, -, -, ⟨G', i1, i2⟩, T', j1, j2⟩ := cy2
      have hcY : px_cls h2 Y = some 7 := by unfold px_cls; rw [b]
      obtain ⟨k, k1, k2, nl, ns, pos, na, nv, k3, k4⟩ := g.2.2.2 t (by omega) e
      obtain ⟨x0, y0, L, o1, o2⟩ := imX_frm io (fr2.2.2 I (by omega)) (fr2.2.2 (I + 1) (by omega))
      have hPk := g.1.2.2.2.2.2.1 k k1
      simp only [px_K_none, pc106_48, pc106_48n, pc106_49, pc106_50, pc106_50n, pc106_51, px_op_some, px_kv_ap, px_ki_ap, px_kl_ap, px_kn_ap, px_kh_ap, px_op_none, px_K_some, px_K_none, px_K_thr, px_kill, ↓reduceIte, if_true, if_false, true_and, and_true, hcY, px_kill]
      refine c_readImage (k := k) (bb := blB S k) (l := yL S k) hP hYI b a1 c1 d1 i1 (by omega) g.1.2.2.1 k1 (by rw [c2 k k1, i2 t (by omega) e]; exact k2) (fun x y hx hy exy => g.1.2.2.2.2.1 x y hx hy (by rw [← c2 x hx, ← c2 y hy]; exact exy)) (d2 k k1) k3 (fun m hm => a2 _ (by omega)) (by omega) o1 o2 (imS_up im (fun r x y => fr2.2.2 r (by omega))) (fun h3 tk => ?_)
      obtain ⟨t1, t2, t3, ⟨L3, t4, t5⟩, -⟩ := tk
      have cy3 := CY_frm cy2' (fun r x y => t1.2.2 r (by unfold imA; omega))
      have hcY3 : px_cls h3 Y = some 7 := by unfold px_cls; rw [cy3.2.1]
      have m3 := mkd_frm m2 (t1.2.2 (Y + 6) (by unfold imA; omega))
      simp only [px_K_none, pc106_54, pc106_54n, pc106_55, pc106_55n, pc106_56, px_op_some, px_kv_ap, px_ki_ap, px_kl_ap, px_kn_ap, px_kh_ap, px_op_none, px_K_some, px_K_none, px_K_thr, px_kill, ↓reduceIte, if_true, if_false, true_and, and_true, hcY3, px_kill]
      refine c_mlay hYI g.1 (by have := k3.1; omega) t4 cy3 m3 (fun h4 cy4 m4 fr4 sh4 => ?_)
      simp only [px_K_none, pc106_59, pc106_62, px_kill, nI_1]
      refine ih (t + 1) (by omega) h4 cy4 (mkd_congr m4 (fun x => ?_)) (frm_trans fr (frm_trans (frm_mono fr2 (fun r => .inl)) (frm_trans (frm_mono t1 (fun r => .inr)) (frm_mono fr4 (fun r => .inl))))) (fun s => sh4 (t2 (sh2 (sh s)))) (imS_up t3 (fun r x y => fr4.2.2 r (by omega))) (imX_frm (imX_of t4) (fr4.2.2 I (by omega)) (fr4.2.2 (I + 1) (by omega)))
      constructor
      · rintro (((⟨j, q1, q2⟩) | rfl) | ⟨i, q1, q2⟩)
        · exact ⟨j, by omega, q2⟩
        · exact ⟨t, by omega, e, .inl rfl⟩
        · exact ⟨t, by omega, e, .inr ⟨k, k1, k2, nl, ns, pos, na, nv, k3, i, q1, by rw [q2, t5 i q1]⟩⟩
      · rintro ⟨j, q1, q2, q3⟩
        by_cases ej : j = t
        · subst ej
          rcases q3 with q3 | ⟨k', q4, q5, nl', ns', pos', na', nv', q6, i, q7, q8⟩
          · exact .inl (.inr q3)
          · have : k' = k := g.1.2.2.2.2.1 k' k q4 k1 (q5.trans k2.symm)
            subst this
            have := img_nl q6 k3
            subst this
            exact .inr ⟨i, q7, by rw [q8, t5 i q7]⟩
        · exact .inl (.inl ⟨j, by omega, q2, q3⟩)
    · rw [if_neg e] at jt
      simp only [pc106_24, pc106_26, pc106_29, pc106_29n, pc106_30, pc106_33, pc106_34, pc106_35, pc106_59, pc106_62, px_op_some, px_kv_ap, px_ki_ap, px_kl_ap, px_kn_ap, px_kh_ap, px_op_none, px_K_some, px_K_none, px_K_thr, px_kill, ↓reduceIte, if_true, if_false, true_and, and_true, px_gf, px_pf, px_ai, px_aj, px_aa, px_wi, px_wj, px_wa, px_an, px_cls, yr_0, yr_1, tr_0, tr_1, tr_2, tr_3, px_rf, of_2, of_4, in_02, in_12, in_04, in_14, in_24, in_34, Nat.reduceLeDiff, in_01, lgc_self, Int32.reduceToNatClampNeg, wr_at, al_at, px_wr_len, px_al_len, px_wr_1, px_al_1, tg_0, tg_1, tg_2, tg_3, tg_12, tg_15, tg_17, tg_18, tg_i1, tg_b0, tg_b3, px_fit, Nat.reduceEqDiff, Nat.reduceLT, Nat.reduceAdd, Option.some.injEq, up_at, px_wr_wr, i32_le, Int32.reduceLE, Int32.reduceLT, mf_len, nar_0, nar_1, px_KH_some, px_KH_none, px_KH_thr, List.length_cons, List.length_nil, List.getElem?_cons_zero, List.getElem?_cons_succ, List.set_cons_zero, List.set_cons_succ, ↓reduceIte, Nat.lt_irrefl, ne_0_1, ne_0_2, ne_0_3, ne_0_4, ne_0_5, ne_1_0, ne_1_2, ne_1_3, ne_1_4, ne_1_5, ne_2_0, ne_2_1, ne_2_3, ne_2_4, ne_2_5, ne_3_0, ne_3_1, ne_3_2, ne_3_4, ne_3_5, ne_4_0, ne_4_1, ne_4_2, ne_4_3, ne_4_5, ne_5_0, ne_5_1, ne_5_2, ne_5_3, ne_5_4, hd_256_12, hd_256_16, hd_257_12, hd_258_12, hd_259_12, hd_260_12, hd_261_12, hd_261_13, hd_261_16, hd_262_12, hd_262_13, hd_262_16, hd_263_12, hd_263_13, hd_264_12, hd_264_13, hd_264_14, hd_265_12, hd_265_13, hd_265_14, hd_266_12, hd_267_12, hd_267_13, hd_267_14, hd_268_12, hd_269_12, hd_269_14, hd_270_12, hd_271_12, hd_272_12, hd_273_12, hd_273_13, hd_273_15, hd_274_12, hd_274_15, hd_275_12, hd_275_15, hd_276_12, nI_p1, nI_p2, nI_p3, nI_p4, nI_p5, not_true_eq_false, not_false_eq_true, and_self, mf_0, mf_1, mf_2, mf_3, mf_4, mf_5, mf_6, mf_7, mf_8, mf_9, mf_10, mf_11, mf_12, mf_13, mf_14, mf_15, mf_16, mf_17, mf_18, mf_19, mf_20, mf_21, mf_22, mf_23, mf_24, mf_25, mf_26, mf_27, mf_28, mf_29, mf_30, mf_31, mf_32, mf_33, mf_34, mf_35, mf_36, mf_37, mf_38, mf_39, mf_40, mf_41, mf_42, mf_43, mf_44, mf_45, mf_46, mf_47, mf_48, mf_49, mf_50, mf_51, mf_52, mf_53, mf_54, mf_55, mf_56, mf_57, mf_58, mf_59, mf_60, mf_61, mfs_0, mfs_2, mfs_17, mfs_20, mfs_26, mfs_32, mfs_34, mfs_36, mfs_38, mfs_43, mfs_44, mfs_45, mfs_46, mfs_47, iy_0, iy_1, iy_2, iy_3, iy_4, iy_5, iy_6, ge, ii, ci, b', j1, jt, tg_b3, px_kill, nI_1]
      refine ih (t + 1) (by omega) h1 cy' (mkd_congr m (fun x => ?_)) fr sh im io
      constructor
      · rintro ⟨j, q1, q2⟩; exact ⟨j, by omega, q2⟩
      · rintro ⟨j, q1, q2, q3⟩
        by_cases ej : j = t
        · subst ej; exact absurd q2 e
        · exact ⟨j, by omega, q2, q3⟩
set_option maxRecDepth 16384 in
theorem c_markTold {I : Nat} {Pi : Nat → Nat} (hP : ∀ a b, a < 6 → b < 6 → Pi a = Pi b → a = b) (hYI : Y + 11 ≤ I) (g : goodC S) (cy : CY h Y S) (im : imS h I Pi) (io : imX h I)
    (hQ : ∀ h', CY h' Y S → mkd h' Y S (ndT S 8) → frm (fun r => r = Y + 6 ∨ imA I r) h h' → (shape h → shape h') → imS h' I Pi → imX h' I → Q (.inl none) h') :
    px_Wp sx 106 0 [some (.ref Y), some (.ref I), none] [] h Q := by
  have cy' := cy
  obtain ⟨-, b, -, -, -, ⟨mk, f1⟩, -⟩ := cy
  have hl : Y + 6 < h.2.length := (List.getElem?_eq_some_iff.mp f1).1
  simp only [pc106_0, pc106_1, px_kill]
  have e0 : h = px_wr h (Y + 6) (.inr (3, 60, .inl mk)) := (wr_id f1).symm
  rw [e0]
  refine c_m0_l cy' (fun m6 hm => ?_) 60 0 rfl mk (fun k hk => absurd hk (Nat.not_lt_zero k))
  simp only [pc106_21, pc106_22, px_kill]
  refine c_mt_l (h := px_wr h (Y + 6) (.inr (3, 60, .inl m6))) hP hYI g (fun h' q1 q2 q3 q4 q5 q6 => hQ h' q1 q2 (frm_trans (frm_wr (frm_refl _ _) (.inl rfl)) q3) (fun s => q4 (shape_ia s f1)) q5 q6) 8 0 rfl _ (CY_m6 cy') ⟨m6, by rw [wr_at, if_pos rfl, if_pos hl], fun k hk => .inr ⟨hm k (by have := g.1.2.2.1; omega), fun ⟨j, q, _⟩ => absurd q (Nat.not_lt_zero j)⟩⟩ (frm_refl _ _) (fun s => s) (imS_up im (fun r x y => by rw [wr_at, if_neg (by omega)])) (imX_frm io (by rw [wr_at, if_neg (by omega)]) (by rw [wr_at, if_neg (by omega)]))
end MARK
