/-! ENTRIES, the class's: a path taken -/
set_option maxRecDepth 16384 in
theorem by8_small : ∀ c, c < 128 → by8 (nI c) = nI c := by decide +kernel
def enF (O : Nat) (l kd : Int32) (src : Value) (st cn : Int32) : List Value := [.ref (O + 1), .int l, .int kd, src, .int st, .int cn]
/-- the heap with another path in the entry at O -/
def tpH (h : px_H) (O j : Nat) (kd : Int32) (src : Value) (st cn : Int32) (g : Nat → Int32) : px_H := px_wr (px_wr h (O + 1) (.inr (0, 35, .inl g))) O (.inl (2, enF O (nI j) kd src st cn))
set_option maxRecDepth 16384 in
theorem tpH_at {h : px_H} {O j r : Nat} {kd st cn : Int32} {src : Value} {g : Nat → Int32} (h1 : r ≠ O) (h2 : r ≠ O + 1) : (tpH h O j kd src st cn g).2[r]? = h.2[r]? := by
  unfold tpH; rw [wr_at, if_neg (fun z => h1 z.symm), wr_at, if_neg (fun z => h2 z.symm)]
set_option maxRecDepth 16384 in
theorem tpH_o {h : px_H} {O j : Nat} {kd st cn : Int32} {src : Value} {g : Nat → Int32} (hl : O + 1 < h.2.length) : (tpH h O j kd src st cn g).2[O]? = some (.inl (2, enF O (nI j) kd src st cn)) := by
  unfold tpH; rw [wr_at, if_pos rfl, if_pos (by rw [px_wr_len]; omega)]
set_option maxRecDepth 16384 in
theorem tpH_p {h : px_H} {O j : Nat} {kd st cn : Int32} {src : Value} {g : Nat → Int32} (hl : O + 1 < h.2.length) : (tpH h O j kd src st cn g).2[O + 1]? = some (.inr (0, 35, .inl g)) := by
  unfold tpH; rw [wr_at, if_neg (by omega), wr_at, if_pos rfl, if_pos hl]
set_option maxRecDepth 16384 in
theorem tpH_row {h : px_H} {O j r N n : Nat} {kd st cn : Int32} {src : Value} {g f : Nat → Int32} (w : rowAt h r N n f) (h1 : r ≠ O) (h2 : r ≠ O + 1) (h3 : r + 1 ≠ O) : rowAt (tpH h O j kd src st cn g) r N n f :=
  ⟨by rw [tpH_at h1 h2]; exact w.1, by rw [tpH_at h3 (by omega)]; exact w.2.1, w.2.2⟩
set_option maxRecDepth 16384 in
theorem tpH_frm {h : px_H} {O j : Nat} {kd st cn : Int32} {src : Value} {g : Nat → Int32} : frm (fun r => r = O ∨ r = O + 1) h (tpH h O j kd src st cn g) := by
  unfold tpH; exact frm_wr (frm_wr (frm_refl _ _) (.inr rfl)) (.inl rfl)
set_option maxRecDepth 16384 in
theorem tpH_shape {h : px_H} {O j : Nat} {l kd st cn : Int32} {src : Value} {g g0 : Nat → Int32} (hs : shape h) (h1 : h.2[O]? = some (.inl (2, enF O l kd src st cn))) (h2 : h.2[O + 1]? = some (.inr (0, 35, .inl g0))) : shape (tpH h O j kd src st cn g) := by
  unfold tpH
  exact shape_int (r := O) (c := 2) (fs := enF O l kd src st cn) (k := 1) (x := l) (y := nI j) (shape_ia hs h2) (by rw [wr_at, if_neg (by omega)]; exact h1) rfl
set_option maxRecDepth 16384 in
theorem scn_cnt {B : Nat → Nat} {f : Nat} : ∀ j, 1 ≤ (scn B f j).1 ∧ (scn B f j).1 ≤ j + 1 ∧ (scn B f j).2 ≤ j
  | 0 => ⟨Nat.le_refl _, Nat.le_refl _, Nat.le_refl _⟩
  | j + 1 => by
    obtain ⟨a, b, c⟩ := scn_cnt (B := B) (f := f) j
    by_cases e : B (f + j) = 47
    · have : scn B f (j + 1) = ((scn B f j).1 + 1, 0) := if_pos e
      rw [this]; show 1 ≤ (scn B f j).1 + 1 ∧ (scn B f j).1 + 1 ≤ j + 1 + 1 ∧ 0 ≤ j + 1; omega
    · have : scn B f (j + 1) = ((scn B f j).1, (scn B f j).2 + 1) := if_neg e
      rw [this]; show 1 ≤ (scn B f j).1 ∧ (scn B f j).1 ≤ j + 1 + 1 ∧ (scn B f j).2 + 1 ≤ j + 1; omega
section CITEM
variable {sx : Nat × (Nat → Int32)} {h : px_H} {O r N n : Nat} {f : Nat → Int32} {B : Nat → Nat} {kd st cn l0 : Int32} {src : Value} {g0 : Nat → Int32} {Q : px_O → px_H → Prop}
set_option maxRecDepth 16384 in
theorem c_nameSign {c : Nat} (hc : c < 256) (hQ : ∀ x, says x (nmS c) → Q (.inl (some (.int x))) h) : px_Wp sx 42 0 [some (.int (nI c))] [] h Q := by
  have e97 : (nI c < 97) ↔ c < 97 := nI_ltI (b := 97) (by omega) (by decide)
  have e122 : (nI c ≤ 122) ↔ c ≤ 122 := nI_leI (b := 122) (by omega) (by decide)
  have e48 : (nI c < 48) ↔ c < 48 := nI_ltI (b := 48) (by omega) (by decide)
  have e57 : (57 < nI c) ↔ 57 < c := nI_ltI (a := 57) (by decide) (by omega)
  unfold nmS at hQ
  simp only [pc42_0, pc42_1, pc42_3, pc42_6, pc42_7, pc42_9, pc42_12, pc42_13, pc42_15, pc42_18, pc42_19, pc42_21, pc42_24, pc42_25, pc42_28, pc42_29, e97, e122, e48, e57, nar_0, nar_1]
  by_cases a1 : c < 97
  · rw [if_pos a1]
    by_cases a2 : c < 48
    · rw [if_pos a2]; exact hQ 0 (.inr ⟨rfl, by omega⟩)
    · rw [if_neg a2]
      by_cases a3 : 57 < c
      · rw [if_pos a3]; exact hQ 0 (.inr ⟨rfl, by omega⟩)
      · rw [if_neg a3]; exact hQ 1 (.inl ⟨rfl, by omega⟩)
  · rw [if_neg a1]
    by_cases a4 : c ≤ 122
    · rw [if_pos a4]; exact hQ 1 (.inl ⟨rfl, by omega⟩)
    · rw [if_neg a4]
      by_cases a2 : c < 48
      · omega
      · rw [if_neg a2]
        rw [if_pos (by omega : 57 < c)]; exact hQ 0 (.inr ⟨rfl, by omega⟩)
set_option maxRecDepth 16384 in
theorem c_tp_l {fm l : Nat} (hl : O + 1 < h.2.length) (w : rowAt h r N n f) (h1 : r ≠ O) (h2 : r ≠ O + 1) (h3 : r + 1 ≠ O) (hn : fm + l ≤ n) (hB : ∀ j, j < l → f (fm + j) &&& 255 = nI (B (fm + j)) ∧ B (fm + j) < 256) (l35 : l ≤ 35)
    (hQ1 : ∀ g, pathAt B fm l → (∀ j, j < l → g j = nI (B (fm + j))) → Q (.inl (some (.int 1))) (tpH h O l kd src st cn g)) (hQ0 : ∀ g j, ¬ pathAt B fm l → Q (.inl (some (.int 0))) (tpH h O j kd src st cn g)) :
    ∀ d j, j + d = l → ∀ g l7 l8, (∀ i, i < j → sgOK B fm i) → (∀ i, i < j → g i = nI (B (fm + i))) → px_Wp sx 41 24 [some (.ref O), some (.ref r), some (.int (nI fm)), some (.int (nI (fm + l))), some (.int (nI (scn B fm j).1)), some (.int (nI (scn B fm j).2)), some (.int (nI (fm + j))), l7, l8] [] (tpH h O j kd src st cn g) Q := by
  have hN := w.2.2
  intro d
  induction d with
  | zero =>
    intro j hj g l7 l8 ok hg
    have hj : j = l := by omega
    subst hj
    obtain ⟨s1, s2⟩ := scn_len j ok
    rw [pc41_24]
    simp only [pc41_26, pc41_27, if_pos (Int32.le_refl _)]
    by_cases a1 : (scn B fm j).2 = 0
    · have e1 : nI (scn B fm j).2 ≤ 0 := by rw [a1]; exact Int32.le_refl _
      simp only [pc41_140, pc41_142, pc41_155, pc41_156, if_pos e1, nar_0]
      exact hQ0 g j (fun z => by have := z.2.1; omega)
    · have e1 : ¬ nI (scn B fm j).2 ≤ 0 := fun z => absurd ((nI_leI (b := 0) (by omega) (by omega)).mp z) (by omega)
      have c35 := (scn_cnt (B := B) (f := fm) j).2.1
      by_cases a2 : (scn B fm j).1 ≤ 4
      · have e2 : ¬ (4 : Int32) < nI (scn B fm j).1 := fun z => absurd ((nI_ltI (a := 4) (by decide) (by omega)).mp z) (by omega)
        simp only [pc41_140, pc41_142, pc41_145, pc41_147, pc41_148, pc41_151, pc41_152, pc41_155, pc41_156, if_neg e1, if_neg e2, nar_1]
        exact hQ1 g ⟨ok, by omega, a2⟩ hg
      · have e2 : (4 : Int32) < nI (scn B fm j).1 := nI_lt (a := 4) (by omega) (by omega)
        simp only [pc41_140, pc41_142, pc41_145, pc41_147, pc41_148, pc41_151, pc41_152, pc41_155, pc41_156, if_neg e1, if_pos e2, nar_0]
        exact hQ0 g j (fun z => a2 z.2.2)
  | succ d ih =>
    intro j hj g l7 l8 ok hg
    obtain ⟨s1, s2⟩ := scn_len j ok
    obtain ⟨k1, k2, k3⟩ := scn_cnt (B := B) (f := fm) j
    obtain ⟨b1, b2⟩ := hB j (by omega)
    have ge : ¬ nI (fm + l) ≤ nI (fm + j) := nI_ge (by omega) (by omega)
    have p0 : ¬ nI (fm + j) < 0 := nI_pos (by omega)
    have pn : ¬ nI n ≤ nI (fm + j) := nI_ge (by omega) (by omega)
    have cj : (nI (fm + j)).toNatClampNeg = fm + j := nI_clamp (by omega)
    have wH := tpH_row (j := j) (kd := kd) (src := src) (st := st) (cn := cn) (g := g) w h1 h2 h3
    have hcR : px_cls (tpH h O j kd src st cn g) r = some 1 := by unfold px_cls; rw [wH.1]
    have ij : px_in (nI j) 35 = true := px_inb (by omega) (by decide)
    have cjj : (nI j).toNatClampNeg = j := nI_clamp (by omega)
    have no : ¬ sgOK B fm j → ¬ pathAt B fm l := fun z y => z (y.1 j (by omega))
    rw [pc41_24]
    simp only [pc41_26, pc41_27, pc41_30, pc41_30n, pc41_31, pc41_33, if_neg ge, hcR, true_and]
    rw [r_at wH, if_neg p0, if_neg pn, cj, b1]
    have oo : (tpH h O j kd src st cn g).2[O]? = some (.inl (2, [.ref (O + 1), .int (nI j), .int kd, src, .int st, .int cn])) := tpH_o hl
    have op := tpH_p (j := j) (kd := kd) (src := src) (st := st) (cn := cn) (g := g) hl
    have nxt : ∀ c, B (fm + j) = c → c < 128 → sgOK B fm j → px_Wp sx 41 112 [some (.ref O), some (.ref r), some (.int (nI fm)), some (.int (nI (fm + l))), some (.int (nI (scn B fm (j + 1)).1)), some (.int (nI (scn B fm (j + 1)).2)), some (.int (nI (fm + j))), some (.int (nI c)), some (.int (if c = 47 then 1 else 0))] [] (tpH h O j kd src st cn g) Q := fun c ec hc sk => by
      have e1 : px_wr (tpH h O j kd src st cn g) (O + 1) (.inr (0, 35, .inl (px_up g j (nI c)))) = tpH h O j kd src st cn (px_up g j (nI c)) := by
        unfold tpH; rw [px_wr_comm (r := O) (r' := O + 1) (by omega), px_wr_wr]
      have e2 : px_wr (tpH h O j kd src st cn (px_up g j (nI c))) O (.inl (2, [.ref (O + 1), .int (nI (j + 1)), .int kd, src, .int st, .int cn])) = tpH h O (j + 1) kd src st cn (px_up g j (nI c)) := by
        unfold tpH; rw [px_wr_wr]; rfl
      have oo2 : (tpH h O j kd src st cn (px_up g j (nI c))).2[O]? = some (.inl (2, [.ref (O + 1), .int (nI j), .int kd, src, .int st, .int cn])) := tpH_o hl
      have nb : px_nar 0 (nI c).toInt8.toInt32 = nI c := by rw [nar_by, by8_small c hc]
      simp only [pc41_112, pc41_112n, pc41_113, pc41_116, pc41_116n, pc41_117, pc41_120, pc41_122, pc41_123, pc41_124, pc41_124n, pc41_125, pc41_125r, pc41_126, pc41_129, pc41_130, pc41_131, pc41_134, pc41_137, px_op_some, px_kv_ap, px_ki_ap, px_kl_ap, px_kn_ap, px_kh_ap, px_op_none, px_K_some, px_K_none, px_K_thr, px_kill, ↓reduceIte, if_true, if_false, true_and, and_true, px_gf, px_pf, px_wi, yr_0, yr_1, tr_0, tr_1, tr_2, tr_3, px_rf, of_2, of_4, in_02, in_12, in_04, in_14, in_24, in_34, Nat.reduceLeDiff, in_01, lgc_self, Int32.reduceToNatClampNeg, wr_at, al_at, px_wr_len, px_al_len, px_wr_1, px_al_1, tg_0, tg_1, tg_2, tg_3, tg_12, tg_15, tg_17, tg_18, tg_i1, tg_b0, tg_b3, px_fit, Nat.reduceEqDiff, Nat.reduceLT, Nat.reduceAdd, Option.some.injEq, up_at, px_wr_wr, i32_le, Int32.reduceLE, Int32.reduceLT, mf_len, nar_0, nar_1, px_KH_some, px_KH_none, px_KH_thr, List.length_cons, List.length_nil, List.getElem?_cons_zero, List.getElem?_cons_succ, List.set_cons_zero, List.set_cons_succ, ↓reduceIte, Nat.lt_irrefl, ne_0_1, ne_0_2, ne_0_3, ne_0_4, ne_0_5, ne_1_0, ne_1_2, ne_1_3, ne_1_4, ne_1_5, ne_2_0, ne_2_1, ne_2_3, ne_2_4, ne_2_5, ne_3_0, ne_3_1, ne_3_2, ne_3_4, ne_3_5, ne_4_0, ne_4_1, ne_4_2, ne_4_3, ne_4_5, ne_5_0, ne_5_1, ne_5_2, ne_5_3, ne_5_4, hd_256_12, hd_256_16, hd_257_12, hd_258_12, hd_259_12, hd_260_12, hd_261_12, hd_261_13, hd_261_16, hd_262_12, hd_262_13, hd_262_16, hd_263_12, hd_263_13, hd_264_12, hd_264_13, hd_264_14, hd_265_12, hd_265_13, hd_265_14, hd_266_12, hd_267_12, hd_267_13, hd_267_14, hd_268_12, hd_269_12, hd_269_14, hd_270_12, hd_271_12, hd_272_12, hd_273_12, hd_273_13, hd_273_15, hd_274_12, hd_274_15, hd_275_12, hd_275_15, hd_276_12, nI_p1, nI_p2, nI_p3, nI_p4, nI_p5, not_true_eq_false, not_false_eq_true, and_self, mf_0, mf_1, mf_2, mf_3, mf_4, mf_5, mf_6, mf_7, mf_8, mf_9, mf_10, mf_11, mf_12, mf_13, mf_14, mf_15, mf_16, mf_17, mf_18, mf_19, mf_20, mf_21, mf_22, mf_23, mf_24, mf_25, mf_26, mf_27, mf_28, mf_29, mf_30, mf_31, mf_32, mf_33, mf_34, mf_35, mf_36, mf_37, mf_38, mf_39, mf_40, mf_41, mf_42, mf_43, mf_44, mf_45, mf_46, mf_47, mf_48, mf_49, mf_50, mf_51, mf_52, mf_53, mf_54, mf_55, mf_56, mf_57, mf_58, mf_59, mf_60, mf_61, mfs_0, mfs_2, mfs_17, mfs_20, mfs_26, mfs_32, mfs_34, mfs_36, mfs_38, mfs_43, mfs_44, mfs_45, mfs_46, mfs_47, iy_0, iy_1, iy_2, iy_3, iy_4, iy_5, iy_6, oo, oo2, op, ij, cjj, tg_b0, nb, e1, e2, px_fit, List.length_cons, List.length_nil, Nat.reduceAdd, Nat.reduceLT, and_self, List.set_cons_succ, List.set_cons_zero, nI_1, px_kill]
      refine ih (j + 1) (by omega) _ _ _ (fun i hi => ?_) (fun i hi => ?_)
      · by_cases e : i = j
        · subst e; exact sk
        · exact ok i (by omega)
      · by_cases e : i = j
        · subst e; rw [up_same, ec]
        · rw [up_ne e]; exact hg i (by omega)
    by_cases e47 : B (fm + j) = 47
    · have es : scn B fm (j + 1) = ((scn B fm j).1 + 1, 0) := if_pos e47
      by_cases z : (scn B fm j).2 = 0
      · simp only [px_K_some, pc41_36, pc41_38, pc41_40, pc41_42, pc41_45, pc41_46, pc41_49, pc41_50, pc41_52, pc41_54, pc41_57, pc41_59, pc41_62, pc41_65, pc41_67, pc41_70, pc41_73, pc41_75, pc41_77, pc41_80, pc41_81, e47, show nI 47 = 47 from rfl, z, show nI 0 = 0 from rfl, yr_0, yr_1, tr_0, tr_1, tr_2, tr_3, px_rf, of_2, of_4, in_02, in_12, in_04, in_14, in_24, in_34, Nat.reduceLeDiff, in_01, lgc_self, Int32.reduceToNatClampNeg, wr_at, al_at, px_wr_len, px_al_len, px_wr_1, px_al_1, tg_0, tg_1, tg_2, tg_3, tg_12, tg_15, tg_17, tg_18, tg_i1, tg_b0, tg_b3, px_fit, Nat.reduceEqDiff, Nat.reduceLT, Nat.reduceAdd, Option.some.injEq, up_at, px_wr_wr, i32_le, Int32.reduceLE, Int32.reduceLT, mf_len, nar_0, nar_1, px_KH_some, px_KH_none, px_KH_thr, List.length_cons, List.length_nil, List.getElem?_cons_zero, List.getElem?_cons_succ, List.set_cons_zero, List.set_cons_succ, ↓reduceIte, Nat.lt_irrefl, ne_0_1, ne_0_2, ne_0_3, ne_0_4, ne_0_5, ne_1_0, ne_1_2, ne_1_3, ne_1_4, ne_1_5, ne_2_0, ne_2_1, ne_2_3, ne_2_4, ne_2_5, ne_3_0, ne_3_1, ne_3_2, ne_3_4, ne_3_5, ne_4_0, ne_4_1, ne_4_2, ne_4_3, ne_4_5, ne_5_0, ne_5_1, ne_5_2, ne_5_3, ne_5_4, hd_256_12, hd_256_16, hd_257_12, hd_258_12, hd_259_12, hd_260_12, hd_261_12, hd_261_13, hd_261_16, hd_262_12, hd_262_13, hd_262_16, hd_263_12, hd_263_13, hd_264_12, hd_264_13, hd_264_14, hd_265_12, hd_265_13, hd_265_14, hd_266_12, hd_267_12, hd_267_13, hd_267_14, hd_268_12, hd_269_12, hd_269_14, hd_270_12, hd_271_12, hd_272_12, hd_273_12, hd_273_13, hd_273_15, hd_274_12, hd_274_15, hd_275_12, hd_275_15, hd_276_12, nI_p1, nI_p2, nI_p3, nI_p4, nI_p5, not_true_eq_false, not_false_eq_true, and_self, mf_0, mf_1, mf_2, mf_3, mf_4, mf_5, mf_6, mf_7, mf_8, mf_9, mf_10, mf_11, mf_12, mf_13, mf_14, mf_15, mf_16, mf_17, mf_18, mf_19, mf_20, mf_21, mf_22, mf_23, mf_24, mf_25, mf_26, mf_27, mf_28, mf_29, mf_30, mf_31, mf_32, mf_33, mf_34, mf_35, mf_36, mf_37, mf_38, mf_39, mf_40, mf_41, mf_42, mf_43, mf_44, mf_45, mf_46, mf_47, mf_48, mf_49, mf_50, mf_51, mf_52, mf_53, mf_54, mf_55, mf_56, mf_57, mf_58, mf_59, mf_60, mf_61, mfs_0, mfs_2, mfs_17, mfs_20, mfs_26, mfs_32, mfs_34, mfs_36, mfs_38, mfs_43, mfs_44, mfs_45, mfs_46, mfs_47, iy_0, iy_1, iy_2, iy_3, iy_4, iy_5, iy_6, px_kill, nar_0]
        exact hQ0 g j (no (fun y => by rcases y with ⟨-, y⟩ | ⟨y, -⟩; omega; exact y e47))
      · have z0 : ¬ nI (scn B fm j).2 = 0 := fun y => z ((nI_inj (b := 0) (by omega) (by decide)).mp y)
        have nx := nxt 47 e47 (by decide) (.inl ⟨e47, by omega⟩)
        rw [es] at nx
        simp only [px_K_some, pc41_36, pc41_38, pc41_40, pc41_42, pc41_45, pc41_46, pc41_49, pc41_50, pc41_52, pc41_54, pc41_57, pc41_59, pc41_62, pc41_82, pc41_84, pc41_86, pc41_89, pc41_90, pc41_93, pc41_94, pc41_95, pc41_97, pc41_99, pc41_102, pc41_103, pc41_106, pc41_108, pc41_109, pc41_110, e47, show nI 47 = 47 from rfl, z0, yr_0, yr_1, tr_0, tr_1, tr_2, tr_3, px_rf, of_2, of_4, in_02, in_12, in_04, in_14, in_24, in_34, Nat.reduceLeDiff, in_01, lgc_self, Int32.reduceToNatClampNeg, wr_at, al_at, px_wr_len, px_al_len, px_wr_1, px_al_1, tg_0, tg_1, tg_2, tg_3, tg_12, tg_15, tg_17, tg_18, tg_i1, tg_b0, tg_b3, px_fit, Nat.reduceEqDiff, Nat.reduceLT, Nat.reduceAdd, Option.some.injEq, up_at, px_wr_wr, i32_le, Int32.reduceLE, Int32.reduceLT, mf_len, nar_0, nar_1, px_KH_some, px_KH_none, px_KH_thr, List.length_cons, List.length_nil, List.getElem?_cons_zero, List.getElem?_cons_succ, List.set_cons_zero, List.set_cons_succ, ↓reduceIte, Nat.lt_irrefl, ne_0_1, ne_0_2, ne_0_3, ne_0_4, ne_0_5, ne_1_0, ne_1_2, ne_1_3, ne_1_4, ne_1_5, ne_2_0, ne_2_1, ne_2_3, ne_2_4, ne_2_5, ne_3_0, ne_3_1, ne_3_2, ne_3_4, ne_3_5, ne_4_0, ne_4_1, ne_4_2, ne_4_3, ne_4_5, ne_5_0, ne_5_1, ne_5_2, ne_5_3, ne_5_4, hd_256_12, hd_256_16, hd_257_12, hd_258_12, hd_259_12, hd_260_12, hd_261_12, hd_261_13, hd_261_16, hd_262_12, hd_262_13, hd_262_16, hd_263_12, hd_263_13, hd_264_12, hd_264_13, hd_264_14, hd_265_12, hd_265_13, hd_265_14, hd_266_12, hd_267_12, hd_267_13, hd_267_14, hd_268_12, hd_269_12, hd_269_14, hd_270_12, hd_271_12, hd_272_12, hd_273_12, hd_273_13, hd_273_15, hd_274_12, hd_274_15, hd_275_12, hd_275_15, hd_276_12, nI_p1, nI_p2, nI_p3, nI_p4, nI_p5, not_true_eq_false, not_false_eq_true, and_self, mf_0, mf_1, mf_2, mf_3, mf_4, mf_5, mf_6, mf_7, mf_8, mf_9, mf_10, mf_11, mf_12, mf_13, mf_14, mf_15, mf_16, mf_17, mf_18, mf_19, mf_20, mf_21, mf_22, mf_23, mf_24, mf_25, mf_26, mf_27, mf_28, mf_29, mf_30, mf_31, mf_32, mf_33, mf_34, mf_35, mf_36, mf_37, mf_38, mf_39, mf_40, mf_41, mf_42, mf_43, mf_44, mf_45, mf_46, mf_47, mf_48, mf_49, mf_50, mf_51, mf_52, mf_53, mf_54, mf_55, mf_56, mf_57, mf_58, mf_59, mf_60, mf_61, mfs_0, mfs_2, mfs_17, mfs_20, mfs_26, mfs_32, mfs_34, mfs_36, mfs_38, mfs_43, mfs_44, mfs_45, mfs_46, mfs_47, iy_0, iy_1, iy_2, iy_3, iy_4, iy_5, iy_6, px_kill, nI_1]
        exact nx
    · have en : (nI (B (fm + j)) = 47) = False := eq_false (fun y => e47 ((nI_inj (b := 47) (by omega) (by decide)).mp y))
      have es : scn B fm (j + 1) = ((scn B fm j).1, (scn B fm j).2 + 1) := if_neg e47
      simp only [px_K_some, pc41_36, pc41_38, pc41_40, pc41_42, pc41_45, pc41_46, pc41_49, pc41_50, pc41_52, pc41_54, pc41_57, pc41_59, pc41_62, pc41_65, pc41_67, en, yr_0, yr_1, tr_0, tr_1, tr_2, tr_3, px_rf, of_2, of_4, in_02, in_12, in_04, in_14, in_24, in_34, Nat.reduceLeDiff, in_01, lgc_self, Int32.reduceToNatClampNeg, wr_at, al_at, px_wr_len, px_al_len, px_wr_1, px_al_1, tg_0, tg_1, tg_2, tg_3, tg_12, tg_15, tg_17, tg_18, tg_i1, tg_b0, tg_b3, px_fit, Nat.reduceEqDiff, Nat.reduceLT, Nat.reduceAdd, Option.some.injEq, up_at, px_wr_wr, i32_le, Int32.reduceLE, Int32.reduceLT, mf_len, nar_0, nar_1, px_KH_some, px_KH_none, px_KH_thr, List.length_cons, List.length_nil, List.getElem?_cons_zero, List.getElem?_cons_succ, List.set_cons_zero, List.set_cons_succ, ↓reduceIte, Nat.lt_irrefl, ne_0_1, ne_0_2, ne_0_3, ne_0_4, ne_0_5, ne_1_0, ne_1_2, ne_1_3, ne_1_4, ne_1_5, ne_2_0, ne_2_1, ne_2_3, ne_2_4, ne_2_5, ne_3_0, ne_3_1, ne_3_2, ne_3_4, ne_3_5, ne_4_0, ne_4_1, ne_4_2, ne_4_3, ne_4_5, ne_5_0, ne_5_1, ne_5_2, ne_5_3, ne_5_4, hd_256_12, hd_256_16, hd_257_12, hd_258_12, hd_259_12, hd_260_12, hd_261_12, hd_261_13, hd_261_16, hd_262_12, hd_262_13, hd_262_16, hd_263_12, hd_263_13, hd_264_12, hd_264_13, hd_264_14, hd_265_12, hd_265_13, hd_265_14, hd_266_12, hd_267_12, hd_267_13, hd_267_14, hd_268_12, hd_269_12, hd_269_14, hd_270_12, hd_271_12, hd_272_12, hd_273_12, hd_273_13, hd_273_15, hd_274_12, hd_274_15, hd_275_12, hd_275_15, hd_276_12, nI_p1, nI_p2, nI_p3, nI_p4, nI_p5, not_true_eq_false, not_false_eq_true, and_self, mf_0, mf_1, mf_2, mf_3, mf_4, mf_5, mf_6, mf_7, mf_8, mf_9, mf_10, mf_11, mf_12, mf_13, mf_14, mf_15, mf_16, mf_17, mf_18, mf_19, mf_20, mf_21, mf_22, mf_23, mf_24, mf_25, mf_26, mf_27, mf_28, mf_29, mf_30, mf_31, mf_32, mf_33, mf_34, mf_35, mf_36, mf_37, mf_38, mf_39, mf_40, mf_41, mf_42, mf_43, mf_44, mf_45, mf_46, mf_47, mf_48, mf_49, mf_50, mf_51, mf_52, mf_53, mf_54, mf_55, mf_56, mf_57, mf_58, mf_59, mf_60, mf_61, mfs_0, mfs_2, mfs_17, mfs_20, mfs_26, mfs_32, mfs_34, mfs_36, mfs_38, mfs_43, mfs_44, mfs_45, mfs_46, mfs_47, iy_0, iy_1, iy_2, iy_3, iy_4, iy_5, iy_6, px_kill]
      refine c_nameSign b2 (fun x sx' => ?_)
      rcases sx' with ⟨rfl, sn⟩ | ⟨rfl, sn⟩
      · by_cases z : (scn B fm j).2 = 8
        · simp only [px_K_some, pc41_70, pc41_73, pc41_75, pc41_77, pc41_80, pc41_81, yr_0, yr_1, tr_0, tr_1, tr_2, tr_3, px_rf, of_2, of_4, in_02, in_12, in_04, in_14, in_24, in_34, Nat.reduceLeDiff, in_01, lgc_self, Int32.reduceToNatClampNeg, wr_at, al_at, px_wr_len, px_al_len, px_wr_1, px_al_1, tg_0, tg_1, tg_2, tg_3, tg_12, tg_15, tg_17, tg_18, tg_i1, tg_b0, tg_b3, px_fit, Nat.reduceEqDiff, Nat.reduceLT, Nat.reduceAdd, Option.some.injEq, up_at, px_wr_wr, i32_le, Int32.reduceLE, Int32.reduceLT, mf_len, nar_0, nar_1, px_KH_some, px_KH_none, px_KH_thr, List.length_cons, List.length_nil, List.getElem?_cons_zero, List.getElem?_cons_succ, List.set_cons_zero, List.set_cons_succ, ↓reduceIte, Nat.lt_irrefl, ne_0_1, ne_0_2, ne_0_3, ne_0_4, ne_0_5, ne_1_0, ne_1_2, ne_1_3, ne_1_4, ne_1_5, ne_2_0, ne_2_1, ne_2_3, ne_2_4, ne_2_5, ne_3_0, ne_3_1, ne_3_2, ne_3_4, ne_3_5, ne_4_0, ne_4_1, ne_4_2, ne_4_3, ne_4_5, ne_5_0, ne_5_1, ne_5_2, ne_5_3, ne_5_4, hd_256_12, hd_256_16, hd_257_12, hd_258_12, hd_259_12, hd_260_12, hd_261_12, hd_261_13, hd_261_16, hd_262_12, hd_262_13, hd_262_16, hd_263_12, hd_263_13, hd_264_12, hd_264_13, hd_264_14, hd_265_12, hd_265_13, hd_265_14, hd_266_12, hd_267_12, hd_267_13, hd_267_14, hd_268_12, hd_269_12, hd_269_14, hd_270_12, hd_271_12, hd_272_12, hd_273_12, hd_273_13, hd_273_15, hd_274_12, hd_274_15, hd_275_12, hd_275_15, hd_276_12, nI_p1, nI_p2, nI_p3, nI_p4, nI_p5, not_true_eq_false, not_false_eq_true, and_self, mf_0, mf_1, mf_2, mf_3, mf_4, mf_5, mf_6, mf_7, mf_8, mf_9, mf_10, mf_11, mf_12, mf_13, mf_14, mf_15, mf_16, mf_17, mf_18, mf_19, mf_20, mf_21, mf_22, mf_23, mf_24, mf_25, mf_26, mf_27, mf_28, mf_29, mf_30, mf_31, mf_32, mf_33, mf_34, mf_35, mf_36, mf_37, mf_38, mf_39, mf_40, mf_41, mf_42, mf_43, mf_44, mf_45, mf_46, mf_47, mf_48, mf_49, mf_50, mf_51, mf_52, mf_53, mf_54, mf_55, mf_56, mf_57, mf_58, mf_59, mf_60, mf_61, mfs_0, mfs_2, mfs_17, mfs_20, mfs_26, mfs_32, mfs_34, mfs_36, mfs_38, mfs_43, mfs_44, mfs_45, mfs_46, mfs_47, iy_0, iy_1, iy_2, iy_3, iy_4, iy_5, iy_6, z, show nI 8 = 8 from rfl, nar_0]
          exact hQ0 g j (no (fun y => by rcases y with ⟨y, -⟩ | ⟨-, -, y⟩; exact e47 y; omega))
        · have z0 : (nI (scn B fm j).2 = 8) = False := eq_false (fun y => z ((nI_inj (b := 8) (by omega) (by decide)).mp y))
          have nx := nxt (B (fm + j)) rfl (by unfold nmS at sn; omega) (.inr ⟨e47, sn, by omega⟩)
          rw [es, if_neg e47] at nx
          have za : nI (scn B fm j).1 + 0 = nI (scn B fm j).1 := nI_add _ 0
          simp only [px_K_some, pc41_70, pc41_73, pc41_75, pc41_77, pc41_82, pc41_84, pc41_86, pc41_89, pc41_90, pc41_93, pc41_94, pc41_95, pc41_97, pc41_99, pc41_102, pc41_103, pc41_106, pc41_108, pc41_109, pc41_110, yr_0, yr_1, tr_0, tr_1, tr_2, tr_3, px_rf, of_2, of_4, in_02, in_12, in_04, in_14, in_24, in_34, Nat.reduceLeDiff, in_01, lgc_self, Int32.reduceToNatClampNeg, wr_at, al_at, px_wr_len, px_al_len, px_wr_1, px_al_1, tg_0, tg_1, tg_2, tg_3, tg_12, tg_15, tg_17, tg_18, tg_i1, tg_b0, tg_b3, px_fit, Nat.reduceEqDiff, Nat.reduceLT, Nat.reduceAdd, Option.some.injEq, up_at, px_wr_wr, i32_le, Int32.reduceLE, Int32.reduceLT, mf_len, nar_0, nar_1, px_KH_some, px_KH_none, px_KH_thr, List.length_cons, List.length_nil, List.getElem?_cons_zero, List.getElem?_cons_succ, List.set_cons_zero, List.set_cons_succ, ↓reduceIte, Nat.lt_irrefl, ne_0_1, ne_0_2, ne_0_3, ne_0_4, ne_0_5, ne_1_0, ne_1_2, ne_1_3, ne_1_4, ne_1_5, ne_2_0, ne_2_1, ne_2_3, ne_2_4, ne_2_5, ne_3_0, ne_3_1, ne_3_2, ne_3_4, ne_3_5, ne_4_0, ne_4_1, ne_4_2, ne_4_3, ne_4_5, ne_5_0, ne_5_1, ne_5_2, ne_5_3, ne_5_4, hd_256_12, hd_256_16, hd_257_12, hd_258_12, hd_259_12, hd_260_12, hd_261_12, hd_261_13, hd_261_16, hd_262_12, hd_262_13, hd_262_16, hd_263_12, hd_263_13, hd_264_12, hd_264_13, hd_264_14, hd_265_12, hd_265_13, hd_265_14, hd_266_12, hd_267_12, hd_267_13, hd_267_14, hd_268_12, hd_269_12, hd_269_14, hd_270_12, hd_271_12, hd_272_12, hd_273_12, hd_273_13, hd_273_15, hd_274_12, hd_274_15, hd_275_12, hd_275_15, hd_276_12, nI_p1, nI_p2, nI_p3, nI_p4, nI_p5, not_true_eq_false, not_false_eq_true, and_self, mf_0, mf_1, mf_2, mf_3, mf_4, mf_5, mf_6, mf_7, mf_8, mf_9, mf_10, mf_11, mf_12, mf_13, mf_14, mf_15, mf_16, mf_17, mf_18, mf_19, mf_20, mf_21, mf_22, mf_23, mf_24, mf_25, mf_26, mf_27, mf_28, mf_29, mf_30, mf_31, mf_32, mf_33, mf_34, mf_35, mf_36, mf_37, mf_38, mf_39, mf_40, mf_41, mf_42, mf_43, mf_44, mf_45, mf_46, mf_47, mf_48, mf_49, mf_50, mf_51, mf_52, mf_53, mf_54, mf_55, mf_56, mf_57, mf_58, mf_59, mf_60, mf_61, mfs_0, mfs_2, mfs_17, mfs_20, mfs_26, mfs_32, mfs_34, mfs_36, mfs_38, mfs_43, mfs_44, mfs_45, mfs_46, mfs_47, iy_0, iy_1, iy_2, iy_3, iy_4, iy_5, iy_6, z0, px_kill, nI_1, za]
          exact nx
      · simp only [px_K_some, pc41_70, pc41_73, pc41_75, pc41_77, pc41_80, pc41_81, yr_0, yr_1, tr_0, tr_1, tr_2, tr_3, px_rf, of_2, of_4, in_02, in_12, in_04, in_14, in_24, in_34, Nat.reduceLeDiff, in_01, lgc_self, Int32.reduceToNatClampNeg, wr_at, al_at, px_wr_len, px_al_len, px_wr_1, px_al_1, tg_0, tg_1, tg_2, tg_3, tg_12, tg_15, tg_17, tg_18, tg_i1, tg_b0, tg_b3, px_fit, Nat.reduceEqDiff, Nat.reduceLT, Nat.reduceAdd, Option.some.injEq, up_at, px_wr_wr, i32_le, Int32.reduceLE, Int32.reduceLT, mf_len, nar_0, nar_1, px_KH_some, px_KH_none, px_KH_thr, List.length_cons, List.length_nil, List.getElem?_cons_zero, List.getElem?_cons_succ, List.set_cons_zero, List.set_cons_succ, ↓reduceIte, Nat.lt_irrefl, ne_0_1, ne_0_2, ne_0_3, ne_0_4, ne_0_5, ne_1_0, ne_1_2, ne_1_3, ne_1_4, ne_1_5, ne_2_0, ne_2_1, ne_2_3, ne_2_4, ne_2_5, ne_3_0, ne_3_1, ne_3_2, ne_3_4, ne_3_5, ne_4_0, ne_4_1, ne_4_2, ne_4_3, ne_4_5, ne_5_0, ne_5_1, ne_5_2, ne_5_3, ne_5_4, hd_256_12, hd_256_16, hd_257_12, hd_258_12, hd_259_12, hd_260_12, hd_261_12, hd_261_13, hd_261_16, hd_262_12, hd_262_13, hd_262_16, hd_263_12, hd_263_13, hd_264_12, hd_264_13, hd_264_14, hd_265_12, hd_265_13, hd_265_14, hd_266_12, hd_267_12, hd_267_13, hd_267_14, hd_268_12, hd_269_12, hd_269_14, hd_270_12, hd_271_12, hd_272_12, hd_273_12, hd_273_13, hd_273_15, hd_274_12, hd_274_15, hd_275_12, hd_275_15, hd_276_12, nI_p1, nI_p2, nI_p3, nI_p4, nI_p5, not_true_eq_false, not_false_eq_true, and_self, mf_0, mf_1, mf_2, mf_3, mf_4, mf_5, mf_6, mf_7, mf_8, mf_9, mf_10, mf_11, mf_12, mf_13, mf_14, mf_15, mf_16, mf_17, mf_18, mf_19, mf_20, mf_21, mf_22, mf_23, mf_24, mf_25, mf_26, mf_27, mf_28, mf_29, mf_30, mf_31, mf_32, mf_33, mf_34, mf_35, mf_36, mf_37, mf_38, mf_39, mf_40, mf_41, mf_42, mf_43, mf_44, mf_45, mf_46, mf_47, mf_48, mf_49, mf_50, mf_51, mf_52, mf_53, mf_54, mf_55, mf_56, mf_57, mf_58, mf_59, mf_60, mf_61, mfs_0, mfs_2, mfs_17, mfs_20, mfs_26, mfs_32, mfs_34, mfs_36, mfs_38, mfs_43, mfs_44, mfs_45, mfs_46, mfs_47, iy_0, iy_1, iy_2, iy_3, iy_4, iy_5, iy_6, nar_0]
        exact hQ0 g j (no (fun y => by rcases y with ⟨y, -⟩ | ⟨-, y, -⟩; exact e47 y; exact sn y))
end CITEM
