/-! COMMANDS, the class's: mkdir, rm, put -/
def inT (n : Nat) (E : Nat → aE) (p : Nat → Nat) : Prop := ∃ i, i < n ∧ eP (E i) = p
section CMD
variable {sx : Nat × (Nat → Int32)} {h : px_H} {T n l : Nat} {E : Nat → aE} {p : Nat → Nat} {x4 : Int32} {Q : px_O → px_H → Prop}
set_option maxRecDepth 16384 in
theorem gap_not {a : Nat} (g : gapE n E p a) : ¬ inT n E p := fun ⟨i, i1, i2⟩ => by
  by_cases x : i < a
  · have := g.2.1 i x; rw [i2] at this; exact plt_irr _ this
  · have := g.2.2 i (by omega) i1; rw [i2] at this; exact plt_irr _ this
set_option maxRecDepth 16384 in
theorem neg_gap {g : Nat} (hg : g ≤ 1000) : -1 - nI g < 0 ∧ ¬ (0 : Int32) ≤ -1 - nI g := by
  have : -1 - nI g < 0 := by
    rw [Int32.lt_iff_toInt_lt, Int32.toInt_sub, nI_toInt (by omega), show (-1 : Int32).toInt = -1 by decide, show (0 : Int32).toInt = 0 from rfl, Int.bmod_eq_of_le (by omega) (by omega)]
    omega
  exact ⟨this, Int32.not_le.mpr this⟩
set_option maxRecDepth 16384 in
theorem c_mkdir (hSh : h.2[414]? = some (.inl (9, [.ref 415, .ref 417, .ref 419, .int x4]))) (a : enP h 417 l p) (hp : pth p l) (t : trR h T n E) (ok : tOK n E) (hT : treT T) (hn : n < 80) (hTd : ¬ trA T 417 ∧ ¬ trA T 418)
    (hQ1 : ∀ g h', ¬ inT n E p → homed n E p l → gapE n E p g → trR h' T (n + 1) (insE E g (dirE l p)) → frm (trA T) h h' → (shape h → shape h') → Q (.inl (some (.int 1))) h') (hQ0 : inT n E p ∨ ¬ homed n E p l → Q (.inl (some (.int 0))) h) :
    px_Wp sx 123 0 [some (.ref 414), some (.ref T), none, none] [] h Q := by
  have cutp := cutP_all hp
  obtain ⟨⟨kd, src, st, cn, o1⟩, -⟩ := id a
  have t1 := t.1
  have hcT : px_cls h T = some 3 := by unfold px_cls; rw [t1]
  simp only [pc123_0, pc123_0n, pc123_1, pc123_1n, pc123_2, pc123_5, pc123_5n, pc123_6, pc123_9, pc123_12, px_op_some, px_kv_ap, px_ki_ap, px_kl_ap, px_kn_ap, px_kh_ap, px_op_none, px_K_some, px_K_none, px_K_thr, px_kill, ↓reduceIte, if_true, if_false, true_and, and_true, px_gf, hSh, o1, List.getElem?_cons_zero, List.getElem?_cons_succ, hcT]
  refine c_search t ok a hp (Nat.le_refl _) hp.1 (fun x hx => ?_)
  rw [cutp] at hx
  rcases hx with ⟨i, i1, rfl, i2⟩ | ⟨g, g1, rfl⟩
  · have ge : (0 : Int32) ≤ nI i := nI_pos' (by omega)
    simp only [px_K_some, pc123_15, pc123_16, pc123_17, pc123_20, pc123_20n, pc123_21, pc123_21n, pc123_22, pc123_25, pc123_28, pc123_31, pc123_32, px_op_some, px_kv_ap, px_ki_ap, px_kl_ap, px_kn_ap, px_kh_ap, px_op_none, px_K_some, px_K_none, px_K_thr, px_kill, ↓reduceIte, if_true, if_false, true_and, and_true, px_kill, ge, nar_0]
    exact hQ0 (.inl ⟨i, i1, i2⟩)
  · have gn := g1.1
    obtain ⟨-, ng⟩ := neg_gap (g := g) (by omega)
    have mm : (-1 : Int32) - (-1 - nI g) = nI g := m1_m1 (by omega)
    simp only [px_K_some, pc123_15, pc123_16, pc123_17, pc123_20, pc123_20n, pc123_21, pc123_21n, pc123_22, pc123_25, px_op_some, px_kv_ap, px_ki_ap, px_kl_ap, px_kn_ap, px_kh_ap, px_op_none, px_K_some, px_K_none, px_K_thr, px_kill, ↓reduceIte, if_true, if_false, true_and, and_true, px_gf, hSh, List.getElem?_cons_zero, List.getElem?_cons_succ, px_kill, ng, hcT]
    refine c_hasHome t ok a hp (fun x hx => ?_)
    rcases hx with ⟨rfl, hx⟩ | ⟨rfl, hx⟩
    · simp only [px_K_some, pc123_28, pc123_31, pc123_32, pc123_33, pc123_33n, pc123_34, pc123_35, pc123_36, pc123_37, pc123_37n, pc123_38, pc123_41, px_op_some, px_kv_ap, px_ki_ap, px_kl_ap, px_kn_ap, px_kh_ap, px_op_none, px_K_some, px_K_none, px_K_thr, px_kill, ↓reduceIte, if_true, if_false, true_and, and_true, px_gf, hSh, List.getElem?_cons_zero, List.getElem?_cons_succ, ne_1_0, not_false_eq_true, mm, hcT]
      refine c_insert (e0 := dirE l p) t hT hn gn a hTd (fun h1 F tx fr sh => ?_)
      have tx' := tx
      obtain ⟨-, -, ⟨kF, sF, stF, cF, gF, oF, pF, qF⟩, ra, x3, x4', x5, -⟩ := tx'
      have hcF : px_cls h1 F = some 2 := by unfold px_cls; rw [oF]
      simp only [px_K_some, pc123_44, pc123_44n, pc123_45, pc123_45n, pc123_46n, pc123_46, pc123_49, pc123_49n, pc123_50, px_op_some, px_kv_ap, px_ki_ap, px_kl_ap, px_kn_ap, px_kh_ap, px_op_none, px_K_some, px_K_none, px_K_thr, px_kill, ↓reduceIte, if_true, if_false, true_and, and_true, px_kill, hcF]
      refine c_becomeDir oF ?_
      obtain ⟨z1, kf, q1, q2⟩ := trX_set (e := dirE l p) (kd := 1) (src := .null) (st := 0) (cn := 0) tx (by omega) (by omega) rfl rfl rfl hT.2.2.2 (.inl ⟨rfl, rfl, rfl, rfl⟩)
      have eu : px_up (insE E g (dirE l p)) g (dirE l p) = insE E g (dirE l p) := up_id (by unfold insE; rw [if_neg (Nat.lt_irrefl _), if_pos rfl])
      rw [eu] at z1
      simp only [px_K_none, pc123_53, pc123_53n, pc123_54n, pc123_54, pc123_57, pc123_58, pc123_61, pc123_62, px_op_some, px_kv_ap, px_ki_ap, px_kl_ap, px_kn_ap, px_kh_ap, px_op_none, px_K_some, px_K_none, px_K_thr, px_kill, ↓reduceIte, if_true, if_false, true_and, and_true, nar_1]
      exact hQ1 g _ (gap_not g1) hx g1 z1 (frm_wr fr (by unfold trA; omega)) (fun s => by rw [q2]; exact ent_shape (hT.2.2.1 kf q1) (sh s))
    · simp only [px_K_some, pc123_28, pc123_31, pc123_32, px_op_some, px_kv_ap, px_ki_ap, px_kl_ap, px_kn_ap, px_kh_ap, px_op_none, px_K_some, px_K_none, px_K_thr, px_kill, ↓reduceIte, if_true, if_false, true_and, and_true, not_true_eq_false, nar_0]
      exact hQ0 (.inr hx)
set_option maxRecDepth 16384 in
theorem c_rm (hSh : h.2[414]? = some (.inl (9, [.ref 415, .ref 417, .ref 419, .int x4]))) (a : enP h 417 l p) (hp : pth p l) (t : trR h T n E) (ok : tOK n E) (hT : treT T)
    (hQ1 : ∀ i b h', i < n → eP (E i) = p → endE n E i b → trR h' T (n - (b - i)) (cutE E i b) → frm (trA T) h h' → (shape h → shape h') → Q (.inl (some (.int 1))) h') (hQ0 : ¬ inT n E p → Q (.inl (some (.int 0))) h) :
    px_Wp sx 124 0 [some (.ref 414), some (.ref T), none] [] h Q := by
  have cutp := cutP_all hp
  have h80 := ok.1
  obtain ⟨⟨kd, src, st, cn, o1⟩, -⟩ := id a
  have t1 := t.1
  have hcT : px_cls h T = some 3 := by unfold px_cls; rw [t1]
  simp only [pc124_0, pc124_0n, pc124_1, pc124_1n, pc124_2, pc124_5, pc124_5n, pc124_6, pc124_9, pc124_12, px_op_some, px_kv_ap, px_ki_ap, px_kl_ap, px_kn_ap, px_kh_ap, px_op_none, px_K_some, px_K_none, px_K_thr, px_kill, ↓reduceIte, if_true, if_false, true_and, and_true, px_gf, hSh, o1, List.getElem?_cons_zero, List.getElem?_cons_succ, hcT]
  refine c_search t ok a hp (Nat.le_refl _) hp.1 (fun x hx => ?_)
  rw [cutp] at hx
  rcases hx with ⟨i, i1, rfl, i2⟩ | ⟨g, g1, rfl⟩
  · have ge : (0 : Int32) ≤ nI i := nI_pos' (by omega)
    simp only [px_K_some, pc124_15, pc124_16, pc124_17, pc124_20, pc124_21, pc124_22, pc124_22n, pc124_23, pc124_24, pc124_24n, pc124_25, pc124_26, px_op_some, px_kv_ap, px_ki_ap, px_kl_ap, px_kn_ap, px_kh_ap, px_op_none, px_K_some, px_K_none, px_K_thr, px_kill, ↓reduceIte, if_true, if_false, true_and, and_true, px_kill, ge, hcT]
    refine c_endOf t ok i1 (fun b hb => ?_)
    simp only [px_K_some, pc124_29, px_op_some, px_kv_ap, px_ki_ap, px_kl_ap, px_kn_ap, px_kh_ap, px_op_none, px_K_some, px_K_none, px_K_thr, px_kill, ↓reduceIte, if_true, if_false, true_and, and_true, hcT]
    refine c_cut t h80 (by have := hb.1; omega) hb.2.1 ⟨hT.1, hT.2.1⟩ (fun r hr => ?_) (fun h2 t2 ra2 fr2 sh2 => ?_)
    · obtain ⟨y1, y2⟩ := hT.2.2.2 r hr
      unfold trA at y1 y2
      omega
    · simp only [px_K_none, pc124_32, pc124_33, px_op_some, px_kv_ap, px_ki_ap, px_kl_ap, px_kn_ap, px_kh_ap, px_op_none, px_K_some, px_K_none, px_K_thr, px_kill, ↓reduceIte, if_true, if_false, true_and, and_true, nar_1]
      exact hQ1 i b h2 i1 i2 hb t2 (frm_mono fr2 (fun r hr => by unfold trA; omega)) sh2
  · have gn := g1.1
    obtain ⟨-, ng⟩ := neg_gap (g := g) (by omega)
    simp only [px_K_some, pc124_15, pc124_16, pc124_17, pc124_20, pc124_21, px_op_some, px_kv_ap, px_ki_ap, px_kl_ap, px_kn_ap, px_kh_ap, px_op_none, px_K_some, px_K_none, px_K_thr, px_kill, ↓reduceIte, if_true, if_false, true_and, and_true, px_kill, ng, nar_0]
    exact hQ0 (gap_not g1)
set_option maxRecDepth 16384 in
theorem c_put {r N nr s m : Nat} {f c : Nat → Int32} (hSh : h.2[414]? = some (.inl (9, [.ref 415, .ref 417, .ref 419, .int x4]))) (a : enP h 417 l p) (hp : pth p l) (t : trR h T n E) (ok : tOK n E) (hT : treT T) (hn : n < 80) (hTd : ¬ trA T 417 ∧ ¬ trA T 418)
    (sr : r + 1 < 85) (w : rowAt h r N nr f) (hs : s + m ≤ nr) (hf : ∀ j, j < m → f (s + j) &&& 255 = c j)
    (hQ1 : ∀ i h', i < n → eP (E i) = p → ¬ eK (E i) = 1 → homed n E p l → trR h' T n (px_up E i (l, p, 2, m, c)) → frm (trA T) h h' → (shape h → shape h') → Q (.inl (some (.int 1))) h')
    (hQ2 : ∀ g h', ¬ inT n E p → homed n E p l → gapE n E p g → trR h' T (n + 1) (insE E g (l, p, 2, m, c)) → frm (trA T) h h' → (shape h → shape h') → Q (.inl (some (.int 1))) h')
    (hQ0 : (∃ i, i < n ∧ eP (E i) = p ∧ eK (E i) = 1) ∨ ¬ homed n E p l → Q (.inl (some (.int 0))) h) :
    px_Wp sx 125 0 [some (.ref 414), some (.ref T), some (.ref r), some (.int (nI s)), some (.int (nI m)), none, none] [] h Q := by
  have cutp := cutP_all hp
  have h80 := ok.1
  obtain ⟨⟨kd, src, st, cn, o1⟩, -⟩ := id a
  have t1 := t.1
  have hcT : px_cls h T = some 3 := by unfold px_cls; rw [t1]
  simp only [pc125_0, pc125_0n, pc125_1, pc125_1n, pc125_2, pc125_5, pc125_5n, pc125_6, pc125_9, pc125_12, px_op_some, px_kv_ap, px_ki_ap, px_kl_ap, px_kn_ap, px_kh_ap, px_op_none, px_K_some, px_K_none, px_K_thr, px_kill, ↓reduceIte, if_true, if_false, true_and, and_true, px_gf, hSh, o1, List.getElem?_cons_zero, List.getElem?_cons_succ, hcT]
  refine c_search t ok a hp (Nat.le_refl _) hp.1 (fun x hx => ?_)
  rw [cutp] at hx
  rcases hx with ⟨i, i1, rfl, i2⟩ | ⟨g, g1, rfl⟩
  · have ge : ¬ nI i < 0 := nI_pos (by omega)
    have li : eL (E i) = l := pth_len (ok.2.1 i i1).1 (by rw [i2]; exact hp)
    simp only [px_K_some, pc125_15, pc125_17, pc125_17n, pc125_18, pc125_20, px_op_some, px_kv_ap, px_ki_ap, px_kl_ap, px_kn_ap, px_kh_ap, px_op_none, px_K_some, px_K_none, px_K_thr, px_kill, ↓reduceIte, if_true, if_false, true_and, and_true, px_kill, hcT]
    refine c_kind_in t ok i1 ?_
    by_cases k1 : eK (E i) = 1
    · have e1 : nI (eK (E i)) = 1 := by rw [k1]; rfl
      simp only [px_K_some, pc125_23, pc125_24, pc125_38, pc125_39, px_op_some, px_kv_ap, px_ki_ap, px_kl_ap, px_kn_ap, px_kh_ap, px_op_none, px_K_some, px_K_none, px_K_thr, px_kill, ↓reduceIte, if_true, if_false, true_and, and_true, e1, nar_0]
      exact hQ0 (.inl ⟨i, i1, i2, k1⟩)
    · have e1 : ¬ nI (eK (E i)) = 1 := fun z => k1 ((nI_eq (b := 1) (by rcases (ok.2.1 i i1).2 with ⟨z, -⟩ | ⟨z, -⟩ <;> omega) (by decide)).mp z)
      simp only [px_K_some, pc125_23, pc125_24, pc125_27, pc125_27n, pc125_28, pc125_28n, pc125_29, pc125_32, px_op_some, px_kv_ap, px_ki_ap, px_kl_ap, px_kn_ap, px_kh_ap, px_op_none, px_K_some, px_K_none, px_K_thr, px_kill, ↓reduceIte, if_true, if_false, true_and, and_true, px_gf, hSh, List.getElem?_cons_zero, List.getElem?_cons_succ, e1, hcT]
      refine c_hasHome t ok a hp (fun x hx => ?_)
      rcases hx with ⟨rfl, hx⟩ | ⟨rfl, hx⟩
      · obtain ⟨F, tx⟩ := trX_of t i1
        rw [li, i2] at tx
        have tx' := tx
        obtain ⟨-, -, ⟨kF, sF, stF, cF, gF, oF, pF, qF⟩, ra, x3, x4', x5, -⟩ := tx'
        have ii : px_in (nI i) 80 = true := px_inb (by omega) (by decide)
        have ci : (nI i).toNatClampNeg = i := nI_clamp (by omega)
        have hcF : px_cls h F = some 2 := by unfold px_cls; rw [oF]
        simp only [px_K_some, pc125_35, pc125_38, pc125_39, pc125_40, pc125_42, pc125_45, pc125_45n, pc125_46, pc125_49, pc125_51, pc125_52, pc125_67, pc125_67n, pc125_69, pc125_69n, pc125_71n, pc125_71, pc125_74, pc125_74n, pc125_76, pc125_76n, pc125_77, pc125_78, pc125_80, px_op_some, px_kv_ap, px_ki_ap, px_kl_ap, px_kn_ap, px_kh_ap, px_op_none, px_K_some, px_K_none, px_K_thr, px_kill, ↓reduceIte, if_true, if_false, true_and, and_true, px_gf, px_aa, t1, x3, List.getElem?_cons_zero, List.getElem?_cons_succ, ne_1_0, not_false_eq_true, ge, ii, ci, x5, px_rf, tg_12, Nat.reduceLeDiff, and_self, px_kill, hcF]
        refine c_becomeFile oF ?_
        obtain ⟨z1, kf, q1, q2⟩ := trX_set (e := (l, p, 2, m, c)) (kd := 2) (src := .ref r) (st := nI s) (cn := nI m) tx h80 (by omega) rfl rfl rfl hT.2.2.2 (.inr ⟨rfl, r, s, N, nr, f, .inl sr, rfl, rfl, rfl, w, hs, hf⟩)
        simp only [px_K_none, pc125_83, pc125_83n, pc125_85n, pc125_85, pc125_88, pc125_89, pc125_92, pc125_93, px_op_some, px_kv_ap, px_ki_ap, px_kl_ap, px_kn_ap, px_kh_ap, px_op_none, px_K_some, px_K_none, px_K_thr, px_kill, ↓reduceIte, if_true, if_false, true_and, and_true, nar_1]
        exact hQ1 i _ i1 i2 k1 hx z1 (frm_wr (frm_refl _ _) (by unfold trA; omega)) (fun s => by rw [q2]; exact ent_shape (hT.2.2.1 kf q1) s)
      · simp only [px_K_some, pc125_35, pc125_38, pc125_39, px_op_some, px_kv_ap, px_ki_ap, px_kl_ap, px_kn_ap, px_kh_ap, px_op_none, px_K_some, px_K_none, px_K_thr, px_kill, ↓reduceIte, if_true, if_false, true_and, and_true, not_true_eq_false, nar_0]
        exact hQ0 (.inr hx)
  · have gn := g1.1
    obtain ⟨ng, -⟩ := neg_gap (g := g) (by omega)
    have mm : (-1 : Int32) - (-1 - nI g) = nI g := m1_m1 (by omega)
    have e1 : ¬ (0 : Int32) = 1 := by decide
    simp only [px_K_some, pc125_15, pc125_17, pc125_17n, pc125_18, pc125_20, px_op_some, px_kv_ap, px_ki_ap, px_kl_ap, px_kn_ap, px_kh_ap, px_op_none, px_K_some, px_K_none, px_K_thr, px_kill, ↓reduceIte, if_true, if_false, true_and, and_true, px_kill, hcT]
    refine c_kind_no t (by omega) ?_
    simp only [px_K_some, pc125_23, pc125_24, pc125_27, pc125_27n, pc125_28, pc125_28n, pc125_29, pc125_32, px_op_some, px_kv_ap, px_ki_ap, px_kl_ap, px_kn_ap, px_kh_ap, px_op_none, px_K_some, px_K_none, px_K_thr, px_kill, ↓reduceIte, if_true, if_false, true_and, and_true, px_gf, hSh, List.getElem?_cons_zero, List.getElem?_cons_succ, e1, hcT]
    refine c_hasHome t ok a hp (fun x hx => ?_)
    rcases hx with ⟨rfl, hx⟩ | ⟨rfl, hx⟩
    · simp only [px_K_some, pc125_35, pc125_38, pc125_39, pc125_40, pc125_42, pc125_55, pc125_55n, pc125_56, pc125_57, pc125_59, pc125_60, pc125_60n, pc125_61, pc125_64, px_op_some, px_kv_ap, px_ki_ap, px_kl_ap, px_kn_ap, px_kh_ap, px_op_none, px_K_some, px_K_none, px_K_thr, px_kill, ↓reduceIte, if_true, if_false, true_and, and_true, px_gf, hSh, List.getElem?_cons_zero, List.getElem?_cons_succ, ne_1_0, not_false_eq_true, ng, mm, hcT]
      refine c_insert (e0 := (l, p, 2, m, c)) t hT hn gn a hTd (fun h1 F tx fr sh => ?_)
      have tx' := tx
      obtain ⟨-, -, ⟨kF, sF, stF, cF, gF, oF, pF, qF⟩, ra, x3, x4', x5, -⟩ := tx'
      have hcF : px_cls h1 F = some 2 := by unfold px_cls; rw [oF]
      have w1 : rowAt h1 r N nr f := frm_rowAt fr (hT.2.2.2 r (.inl sr)).1 (hT.2.2.2 r (.inl sr)).2 w
      simp only [px_K_some, pc125_67, pc125_67n, pc125_69, pc125_69n, pc125_71n, pc125_71, pc125_74, pc125_74n, pc125_76, pc125_76n, pc125_77, pc125_78, pc125_80, px_op_some, px_kv_ap, px_ki_ap, px_kl_ap, px_kn_ap, px_kh_ap, px_op_none, px_K_some, px_K_none, px_K_thr, px_kill, ↓reduceIte, if_true, if_false, true_and, and_true, px_kill, hcF]
      refine c_becomeFile oF ?_
      obtain ⟨z1, kf, q1, q2⟩ := trX_set (e := (l, p, 2, m, c)) (kd := 2) (src := .ref r) (st := nI s) (cn := nI m) tx (by omega) (by omega) rfl rfl rfl hT.2.2.2 (.inr ⟨rfl, r, s, N, nr, f, .inl sr, rfl, rfl, rfl, w1, hs, hf⟩)
      have eu : px_up (insE E g (l, p, 2, m, c)) g (l, p, 2, m, c) = insE E g (l, p, 2, m, c) := up_id (by unfold insE; rw [if_neg (Nat.lt_irrefl _), if_pos rfl])
      rw [eu] at z1
      simp only [px_K_none, pc125_83, pc125_83n, pc125_85n, pc125_85, pc125_88, pc125_89, pc125_92, pc125_93, px_op_some, px_kv_ap, px_ki_ap, px_kl_ap, px_kn_ap, px_kh_ap, px_op_none, px_K_some, px_K_none, px_K_thr, px_kill, ↓reduceIte, if_true, if_false, true_and, and_true, nar_1]
      exact hQ2 g _ (gap_not g1) hx g1 z1 (frm_wr fr (by unfold trA; omega)) (fun s => by rw [q2]; exact ent_shape (hT.2.2.1 kf q1) (sh s))
    · simp only [px_K_some, pc125_35, pc125_38, pc125_39, px_op_some, px_kv_ap, px_ki_ap, px_kl_ap, px_kn_ap, px_kh_ap, px_op_none, px_K_some, px_K_none, px_K_thr, px_kill, ↓reduceIte, if_true, if_false, true_and, and_true, not_true_eq_false, nar_0]
      exact hQ0 (.inr hx)
end CMD
