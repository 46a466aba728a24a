/-! A TRANSFER'S ANSWER, the class's -/
/-- behind the class's part of a delivery: the transfer's object, the taker's state; the image that is read may be another -/
def anP (h h' : px_H) (X Y : Nat) (fs : List Value) (S' : yS) : Prop := frm (fun r => imA 421 r ∨ r = X ∨ cyA Y r) h h' ∧ (shape h → shape h') ∧ h'.2[X]? = some (.inl (8, fs)) ∧ CY h' Y S' ∧ imS h' 421 (fun s => s)
section ANSW
variable {sx : Nat × (Nat → Int32)} {h : px_H} {X Y : Nat} {S : yS} {Q : px_O → px_H → Prop} {a b c d e g i k : Int32} {v : Int64}
set_option maxRecDepth 16384 in
theorem c_tclose {z : Int32} (hz : z = 0 ∨ z = 1) (hX : h.2[X]? = some (.inl (8, trF X a b c d e g i k v))) (hQ : Q (.inl none) (px_wr h X (.inl (8, trF X 0 0 0 d z g i k v)))) :
    px_Wp sx 112 0 [some (.ref X), some (.int z)] [] h Q := by
  have hl : X < h.2.length := (List.getElem?_eq_some_iff.mp hX).1
  have zz : ∀ x : px_C, (px_wr h X x).2[X]? = some x := fun x => by rw [wr_at, if_pos rfl, if_pos hl]
  have fz : px_fit 1 (.int z) = true := by rcases hz with rfl | rfl <;> rfl
  have hz2 : (z = 0 ∨ z = 1) = True := eq_true hz
  unfold trF at hX hQ
  simp only [pc112_0, pc112_0n, pc112_1, pc112_2, pc112_5, pc112_5n, pc112_6, pc112_7, pc112_10, pc112_10n, pc112_11, pc112_12, pc112_15, pc112_15n, pc112_16, pc112_17, pc112_20, px_op_some, px_kv_ap, px_ki_ap, px_kl_ap, px_kn_ap, px_kh_ap, px_op_none, px_K_some, px_K_none, px_K_thr, px_kill, ↓reduceIte, if_true, if_false, true_and, and_true, px_pf, hX, zz, List.length_cons, List.length_nil, Nat.reduceAdd, Nat.reduceLT, fit_0, fit_1, fz, px_fit, hz2, true_or, decide_true, and_self, List.set_cons_succ, List.set_cons_zero, px_wr_wr]
  exact hQ
set_option maxRecDepth 16384 in
theorem shape_tr {h' : px_H} {a' b' c' d' e' g' i' k' : Int32} {v' : Int64} (hs : shape h') (hX : h'.2[X]? = some (.inl (8, trF X a b c d e g i k v))) : shape (px_wr h' X (.inl (8, trF X a' b' c' d' e' g' i' k' v'))) := by
  have hl : X < h'.2.length := (List.getElem?_eq_some_iff.mp hX).1
  have z : ∀ x : px_C, (px_wr h' X x).2[X]? = some x := fun x => by rw [wr_at, if_pos rfl, if_pos hl]
  have s0 := shape_int (k := 0) (y := a') hs hX rfl
  have s1 := shape_int (k := 1) (y := b') s0 (z _) rfl
  rw [px_wr_wr] at s1
  have s2 := shape_int (k := 2) (y := c') s1 (z _) rfl
  rw [px_wr_wr] at s2
  have s3 := shape_int (k := 3) (y := d') s2 (z _) rfl
  rw [px_wr_wr] at s3
  have s4 := shape_int (k := 4) (y := e') s3 (z _) rfl
  rw [px_wr_wr] at s4
  have s5 := shape_int (k := 5) (y := g') s4 (z _) rfl
  rw [px_wr_wr] at s5
  have s6 := shape_int (k := 6) (y := i') s5 (z _) rfl
  rw [px_wr_wr] at s6
  have s7 := shape_int (k := 7) (y := k') s6 (z _) rfl
  rw [px_wr_wr] at s7
  have s8 := shape_long (k := 8) (y := v') s7 (z _) rfl
  rw [px_wr_wr] at s8
  exact s8
set_option maxRecDepth 16384 in
theorem c_answer {bb F : Nat → Int32} {l nl ns th : Nat} {pos na nv : Nat → Nat} {x1 y1 : Int32} {L0 : Nat → Int64} (hXY : Y + 11 ≤ X) (hX4 : X + 5 ≤ 421) (hX : h.2[X]? = some (.inl (8, trF X a b c d e g (nI th) k v))) (wX : rowAt h (X + 1) 231 l F) (hF : ∀ m, m < l → F m &&& 255 = bb m) (ok : imgOK bb l nl ns pos na nv) (hw : WFy S) (cy : CY h Y S) (hth : th < 8) (i0 : h.2[421]? = some (.inl (6, [.ref 422, .int x1, .ref 423, .int y1]))) (i1 : h.2[422]? = some (.inr (2, 12, .inr (.inl L0)))) (i2 : imS h 421 (fun s => s))
    (hW : ∀ j h', j < nl → (∀ j', j' < j → hasD S (layB bb j')) → ¬ hasD S (layB bb j) → anP h h' X Y (trF X a 2 c d e g (nI th) k (layB bb j)) S → Q (.inl none) h')
    (hN : ∀ h', (∀ j, j < nl → hasD S (layB bb j)) → keepN S bb l → anP h h' X Y (trF X 0 0 0 d 0 g (nI th) k v) S → Q (.inl none) h')
    (hN2 : ∀ S' h', (∀ j, j < nl → hasD S (layB bb j)) → keepY S bb l S' → tellN S' th (dig bb l) → anP h h' X Y (trF X 0 0 0 d 0 g (nI th) k v) S' → Q (.inl none) h')
    (hD : ∀ S' S'' h', (∀ j, j < nl → hasD S (layB bb j)) → keepY S bb l S' → tellY S' th (dig bb l) S'' → anP h h' X Y (trF X a 4 c d e g (nI th) k v) S'' → Q (.inl none) h') :
    px_Wp sx 116 0 [some (.ref X), some (.ref Y), some (.ref 421), none] [] h Q := by
  have hX1 := hX
  unfold trF at hX1
  have l231 := img_len ok
  have k1 := ok.1
  have hcI : px_cls h 421 = some 6 := by unfold px_cls; rw [i0]
  simp only [pc116_0, pc116_0n, pc116_1, pc116_1n, pc116_2, pc116_5, pc116_6, px_gf, hX1, if_true, List.getElem?_cons_zero, List.getElem?_cons_succ, px_op_some, px_kv_ap, px_ki_ap, px_kl_ap, px_kn_ap, px_kh_ap, hcI, true_and]
  refine c_take (I := 421) (s := 0) (P := fun s => s) (fun a b _ _ e => e) wX (fun z => by have := z.1; omega) (fun z => by have := z.1; omega) ok (fun m hm => by rw [Nat.zero_add]; exact hF m hm) (by omega) i0 i1 i2 (fun h1 tk => ?_)
  obtain ⟨a1, a2, a3, ⟨L, o, hLL⟩, -⟩ := tk
  have X1 : h1.2[X]? = some (.inl (8, trF X a b c d e g (nI th) k v)) := frm_at a1 (fun z => by have := z.1; omega) hX
  have X1' := X1
  unfold trF at X1'
  have w1 := frm_rowAt a1 (r := X + 1) (fun z => by have := z.1; omega) (fun z => by have := z.1; omega) wX
  have cy1 : CY h1 Y S := CY_frm cy (fun r hr hr' => a1.2.2 r (fun z => by have := z.1; omega))
  have lX : X < h1.2.length := (List.getElem?_eq_some_iff.mp X1).1
  have f1 : frm (fun r => imA 421 r ∨ r = X ∨ cyA Y r) h h1 := frm_mono a1 (fun r z => .inl z)
  have o1 := o.1
  have o2 := o.2
  have lp : ∀ m j, j + m = nl → (∀ j', j' < j → hasD S (layB bb j')) → px_Wp sx 116 11 [some (.ref X), some (.ref Y), some (.ref 421), some (.int (nI j))] [] h1 Q := by
    intro m
    induction m with
    | zero =>
      intro j hj hp
      have hj : j = nl := by omega
      subst hj
      have w1a := w1.1
      have hcY : px_cls h1 Y = some 7 := by unfold px_cls; rw [cy1.2.1]
      simp only [pc116_11, pc116_12, pc116_12n, pc116_13, pc116_16, pc116_55, pc116_55n, pc116_56, pc116_56n, pc116_57, pc116_60, pc116_61, pc116_61n, pc116_62, pc116_65, pc116_68, px_op_some, px_kv_ap, px_ki_ap, px_kl_ap, px_kn_ap, px_kh_ap, px_op_none, px_K_some, px_K_none, px_K_thr, px_kill, ↓reduceIte, if_true, if_false, true_and, and_true, px_gf, o1, X1', w1a, List.getElem?_cons_zero, List.getElem?_cons_succ, if_pos (Int32.le_refl (nI j)), hcY]
      refine cy_keep2 (a := 0) (c := l) (bb := bb) hw cy1 (.inl (by omega)) w1 (by omega) (by omega) (fun m hm => by rw [Nat.zero_add]; exact hF m hm) (fun S' h2 ky cy2 f2 s2 => ?_) (fun kn => ?_)
      · have X2 : h2.2[X]? = some (.inl (8, trF X a b c d e g (nI th) k v)) := frm_at f2 (fun z => by have := z.2; omega) X1
        have X2' := X2
        unfold trF at X2'
        have w2 := frm_rowAt f2 (r := X + 1) (fun z => by have := z.2; omega) (fun z => by have := z.2; omega) w1
        have w2a := w2.1
        have hcR : px_cls h2 (X + 1) = some 1 := by unfold px_cls; rw [w2.1]
        have hcY2 : px_cls h2 Y = some 7 := by unfold px_cls; rw [cy2.2.1]
        have f02 : frm (fun r => imA 421 r ∨ r = X ∨ cyA Y r) h h2 := frm_trans f1 (frm_mono f2 (fun r z => .inr (.inr z)))
        simp only [px_K_some, pc116_71, pc116_74, pc116_74n, pc116_75, pc116_75n, pc116_76, pc116_79, pc116_79n, pc116_80, pc116_83, pc116_84, pc116_84n, pc116_85, pc116_88, pc116_91, px_op_some, px_kv_ap, px_ki_ap, px_kl_ap, px_kn_ap, px_kh_ap, px_op_none, px_K_some, px_K_none, px_K_thr, px_kill, ↓reduceIte, if_true, if_false, true_and, and_true, px_gf, X2', w2a, List.getElem?_cons_zero, List.getElem?_cons_succ, ne_1_0, hcR]
        refine c_digest (s := 0) (c := l) (bb := bb) w2 (by omega) (fun m hm => by rw [Nat.zero_add]; exact hF m hm) ?_
        simp only [px_K_some, pc116_94, hcY2, true_and]
        refine cy_tell2 cy2 hth (fun S'' h3 ty cy3 f3 s3 => ?_) (fun tn => ?_)
        · have X3 : h3.2[X]? = some (.inl (8, trF X a b c d e g (nI th) k v)) := frm_at f3 (fun z => by have := z.2; omega) X2
          have X3' := X3
          unfold trF at X3'
          have l3 : X < h3.2.length := (List.getElem?_eq_some_iff.mp X3).1
          simp only [px_K_some, pc116_97, pc116_100, pc116_100n, pc116_101, pc116_102, pc116_105, pc116_113, px_op_some, px_kv_ap, px_ki_ap, px_kl_ap, px_kn_ap, px_kh_ap, px_op_none, px_K_some, px_K_none, px_K_thr, px_kill, ↓reduceIte, if_true, if_false, true_and, and_true, px_pf, X3', ne_1_0, px_fit, List.length_cons, List.length_nil, Nat.reduceAdd, Nat.reduceLT, and_self, List.set_cons_succ, List.set_cons_zero]
          exact hD S' S'' _ hp ky ty ⟨frm_wr (frm_trans f02 (frm_mono f3 (fun r z => .inr (.inr z)))) (.inr (.inl rfl)), fun s => shape_tr (a := a) (b := b) (c := c) (d := d) (e := e) (g := g) (i := nI th) (k := k) (v := v) (s3 (s2 (a2 s))) X3, by rw [wr_at, if_pos rfl, if_pos l3]; rfl, CY_frm cy3 (fun r hr hr' => by rw [wr_at, if_neg (by omega)]), imS_up a3 (fun r hr hr' => by rw [wr_at, if_neg (by omega), f3.2.2 r (fun z => by have := z.2; omega), f2.2.2 r (fun z => by have := z.2; omega)])⟩
        · have hcX : px_cls h2 X = some 8 := by unfold px_cls; rw [X2]
          simp only [px_K_some, pc116_97, pc116_108, pc116_108n, pc116_109, pc116_110, if_true, hcX, true_and]
          refine c_tclose (.inl rfl) X2 ?_
          simp only [px_K_none, pc116_113]
          have l2 : X < h2.2.length := (List.getElem?_eq_some_iff.mp X2).1
          exact hN2 S' _ hp ky tn ⟨frm_wr f02 (.inr (.inl rfl)), fun s => shape_tr (s2 (a2 s)) X2, by rw [wr_at, if_pos rfl, if_pos l2], CY_frm cy2 (fun r hr hr' => by rw [wr_at, if_neg (by omega)]), imS_up a3 (fun r hr hr' => by rw [wr_at, if_neg (by omega), f2.2.2 r (fun z => by have := z.2; omega)])⟩
      · have hcX : px_cls h1 X = some 8 := by unfold px_cls; rw [X1]
        simp only [px_K_some, pc116_71, pc116_108, pc116_108n, pc116_109, pc116_110, if_true, hcX, true_and]
        refine c_tclose (.inl rfl) X1 ?_
        simp only [px_K_none, pc116_113]
        exact hN _ hp kn ⟨frm_wr f1 (.inr (.inl rfl)), fun s => shape_tr (a2 s) X1, by rw [wr_at, if_pos rfl, if_pos lX], CY_frm cy1 (fun r hr hr' => by rw [wr_at, if_neg (by omega)]), imS_up a3 (fun r hr hr' => by rw [wr_at, if_neg (by omega)])⟩
    | succ m ih =>
      intro j hj hp
      have hge : ¬ nI nl ≤ nI j := nI_ge (by omega) (by omega)
      have ij : px_in (nI j) 12 = true := px_inb (by omega) (by decide)
      have cj : (nI j).toNatClampNeg = j := nI_clamp (by omega)
      have hcY : px_cls h1 Y = some 7 := by unfold px_cls; rw [cy1.2.1]
      have eL := hLL j (by omega)
      obtain ⟨-, b0, ⟨D, c1, c2⟩, -⟩ := cy1
      rw [pc116_11]
      simp only [pc116_12, pc116_12n, pc116_13, pc116_16, pc116_19, pc116_19n, pc116_20, pc116_20n, pc116_21, pc116_24, pc116_25, pc116_26, px_op_some, px_kv_ap, px_ki_ap, px_kl_ap, px_kn_ap, px_kh_ap, px_op_none, px_K_some, px_K_none, px_K_thr, px_kill, ↓reduceIte, if_true, if_false, true_and, and_true, px_gf, px_aj, o1, o2, List.getElem?_cons_zero, List.getElem?_cons_succ, if_neg hge, ij, cj, and_self, hcY, eL]
      refine c_find hw.2.2.1 b0 c1 (fun z hz => ?_)
      rcases hz with ⟨rfl, hno⟩ | ⟨p, hpB, rfl, hpd, -⟩
      · have hz2 : ∀ x : px_C, (px_wr h1 X x).2[X]? = some x := fun x => by rw [wr_at, if_pos rfl, if_pos lX]
        have o1' : ∀ x : px_C, (px_wr h1 X x).2[421]? = h1.2[421]? := fun x => by rw [wr_at, if_neg (by omega)]
        simp only [px_K_some, pc116_29, pc116_30, pc116_33, pc116_33n, pc116_34, pc116_34n, pc116_35, pc116_38, pc116_39, pc116_40, pc116_43, pc116_43n, pc116_44, pc116_45, pc116_48, px_op_some, px_kv_ap, px_ki_ap, px_kl_ap, px_kn_ap, px_kh_ap, px_op_none, px_K_some, px_K_none, px_K_thr, px_kill, ↓reduceIte, if_true, if_false, true_and, and_true, px_gf, px_aj, px_pf, o1, o2, X1', hz2, List.getElem?_cons_zero, List.getElem?_cons_succ, ij, cj, and_self, eL, not_true_eq_false, px_fit, List.length_cons, List.length_nil, Nat.reduceAdd, Nat.reduceLT, List.set_cons_succ, List.set_cons_zero, px_wr_wr]
        exact hW j _ (by omega) hp (fun ⟨p, hpB, e⟩ => hno p hpB ((c2 p hpB).trans e)) ⟨frm_wr f1 (.inr (.inl rfl)), fun s => shape_tr (a := a) (b := b) (c := c) (d := d) (e := e) (g := g) (i := nI th) (k := k) (v := v) (a2 s) X1, by rw [wr_at, if_pos rfl, if_pos lX]; rfl, CY_frm cy (fun r hr hr' => by rw [wr_at, if_neg (by omega)]; exact a1.2.2 r (fun z => by have := z.1; omega)), imS_up a3 (fun r hr hr' => by rw [wr_at, if_neg (by omega)])⟩
      · have nm := nI_nm1 (k := p) (by have := hw.2.2.1; omega)
        simp only [px_K_some, pc116_29, pc116_30, pc116_49, pc116_52, nm, not_false_eq_true, if_true, px_kill, nI_1]
        refine ih (j + 1) (by omega) (fun j' hj' => ?_)
        by_cases z : j' = j
        · rw [z]; exact ⟨p, hpB, (c2 p hpB).symm.trans hpd⟩
        · exact hp j' (by omega)
  simp only [px_K_none, pc116_9, pc116_10, px_kill]
  exact lp nl 0 (by omega) (fun j' hj' => absurd hj' (by omega))
set_option maxRecDepth 16384 in
theorem c_give {n0 : Nat} {f0 : Nat → Int32} (hXY : Y + 11 ≤ X) (hX : h.2[X]? = some (.inl (8, trF X a b c d e g i k v))) (wX : rowAt h (X + 3) 4120 n0 f0) (hw : WFy S) (cy : CY h Y S) (hl : ∀ p, p < yB S → yL S p ≤ 4120)
    (hN : ¬ hasD S v → Q (.inl none) (px_wr h X (.inl (8, trF X 0 0 0 d 0 g i k v))))
    (hY : ∀ p h' F, p < yB S → yD S p = v → frm (fun r => r = X ∨ r = X + 3 ∨ r = X + 4) h h' → (shape h → shape h') → h'.2[X]? = some (.inl (8, trF X a 3 c (d + 1) e g i k v)) → rowAt h' (X + 3) 4120 (yL S p) F → (∀ m, m < yL S p → F m &&& 255 = yJ S (yP S p + m)) → Q (.inl none) h') :
    px_Wp sx 117 0 [some (.ref X), some (.ref Y), none] [] h Q := by
  have lX := rowAt_lt wX
  have hX1 := hX
  unfold trF at hX1
  have cy' := cy
  obtain ⟨⟨f, a1, a2⟩, b0, ⟨D, c1, c2⟩, ⟨st, d1, d2⟩, ⟨ln, e1, e2⟩, -⟩ := cy
  have b0' := b0
  unfold yrdF at b0'
  have hcY : px_cls h Y = some 7 := by unfold px_cls; rw [b0]
  have hcX : px_cls h X = some 8 := by unfold px_cls; rw [hX]
  have hB := hw.2.2.1
  simp only [pc117_0, pc117_0n, pc117_1, pc117_1n, pc117_2, pc117_5, px_gf, hX1, if_true, List.getElem?_cons_zero, List.getElem?_cons_succ, px_op_some, px_kv_ap, px_ki_ap, px_kl_ap, px_kn_ap, px_kh_ap, hcY, true_and]
  refine c_find hB b0 c1 (fun z hz => ?_)
  rcases hz with ⟨rfl, hno⟩ | ⟨p, hp, rfl, hpd, -⟩
  · simp only [px_K_some, pc117_8, pc117_9, pc117_10, pc117_11, pc117_14, pc117_14n, pc117_15, pc117_16, px_kill, not_true_eq_false, if_false, hcX, true_and]
    refine c_tclose (.inl rfl) hX ?_
    simp only [px_K_none, pc117_19]
    exact hN (fun ⟨p, hp, e⟩ => hno p hp ((c2 p hp).trans e))
  · have nm := nI_nm1 (k := p) (by omega)
    have ip : px_in (nI p) 60 = true := px_inb (by omega) (by decide)
    have cp : (nI p).toNatClampNeg = p := nI_clamp (by omega)
    have e0 := row_0 wX
    have wX1 := wX.1
    have r0 : ∀ {r : Nat} {x : px_C}, X + 3 ≠ r → X + 4 ≠ r → h.2[r]? = some x → (rowH h (X + 3) 4120 0 f0).2[r]? = some x := fun p1 p2 ee => by rw [rowH_at p1 p2]; exact ee
    have sX := r0 (by omega) (by omega) hX1
    have sY := r0 (by omega) (by omega) b0'
    have sst := r0 (by omega) (by omega) d1
    have sln := r0 (by omega) (by omega) e1
    have hcR : px_cls (rowH h (X + 3) 4120 0 f0) (X + 3) = some 1 := by unfold px_cls; rw [rowH_r lX]
    have v6 := hw.2.2.2.2.2.1 p hp
    have hl4 := hl p hp
    simp only [px_K_some, pc117_8, pc117_9, pc117_10, pc117_11, pc117_20, pc117_20n, pc117_21, pc117_24, pc117_25, pc117_28, pc117_28n, pc117_29, pc117_32, pc117_32n, pc117_33, pc117_36, pc117_36n, pc117_37, pc117_40, pc117_41, pc117_42, pc117_42n, pc117_43, pc117_46, pc117_47, pc117_48, px_op_some, px_kv_ap, px_ki_ap, px_kl_ap, px_kn_ap, px_kh_ap, px_op_none, px_K_some, px_K_none, px_K_thr, px_kill, ↓reduceIte, if_true, if_false, true_and, and_true, px_gf, px_pf, px_ai, px_aj, px_aa, px_wi, px_wj, px_wa, px_an, px_cls, px_kill, nm, hX1, wX1, List.getElem?_cons_zero, List.getElem?_cons_succ, List.length_cons, List.length_nil, Nat.reduceAdd, Nat.reduceLT, px_fit, and_self, List.set_cons_succ, List.set_cons_zero, not_false_eq_true, e0, sX, sY, sst, sln, tg_i1, ip, cp, d2 p hp, e2 p hp, rowH_r lX]
    refine r_addAll (n' := yR S) (N' := 40000) (f' := f) (rowAt_rowH lX (by omega) (by omega)) ⟨r0 (by omega) (by omega) a1.1, r0 (by omega) (by omega) a1.2.1, a1.2.2⟩ (by omega) (by omega) (by omega) v6 (by omega) ?_
    rw [Nat.zero_add]
    generalize hF : va_cpy f f0 (yP S p) 0 (yL S p) = F
    have hFb : ∀ m, m < yL S p → F m &&& 255 = yJ S (yP S p + m) := fun m hm => by rw [← hF, vcp_at hm]; exact a2 _ (by omega)
    have q1 : ∀ r, X + 3 ≠ r → X + 4 ≠ r → (rowH h (X + 3) 4120 (yL S p) F).2[r]? = h.2[r]? := fun r p1 p2 => rowH_at p1 p2
    have sX2 : (rowH h (X + 3) 4120 (yL S p) F).2[X]? = _ := (q1 X (by omega) (by omega)).trans hX1
    have sXt : (rowH h (X + 3) 4120 (yL S p) F).2[X]? = _ := (q1 X (by omega) (by omega)).trans hX
    have lx : X < (rowH h (X + 3) 4120 (yL S p) F).2.length := by rw [rowH_len]; omega
    have zz : ∀ x : px_C, (px_wr (rowH h (X + 3) 4120 (yL S p) F) X x).2[X]? = some x := fun x => by rw [wr_at, if_pos rfl, if_pos lx]
    simp only [px_K_none, rowH_rowH, pc117_51, pc117_51n, pc117_52, pc117_53, pc117_56, pc117_56n, pc117_57, pc117_57r, pc117_58, pc117_61, pc117_62, pc117_63, pc117_66, px_op_some, px_kv_ap, px_ki_ap, px_kl_ap, px_kn_ap, px_kh_ap, px_op_none, px_K_some, px_K_none, px_K_thr, px_kill, ↓reduceIte, if_true, if_false, true_and, and_true, px_gf, px_pf, sX2, zz, List.getElem?_cons_zero, List.getElem?_cons_succ, List.length_cons, List.length_nil, Nat.reduceAdd, Nat.reduceLT, px_fit, and_self, List.set_cons_succ, List.set_cons_zero, px_wr_wr]
    refine hY p _ F hp ((c2 p hp).symm.trans hpd) (frm_wr (frm_row (frm_refl _ _) (.inr (.inl rfl)) (.inr (.inr rfl))) (.inl rfl)) (fun s => shape_tr (a := a) (b := b) (c := c) (d := d) (e := e) (g := g) (i := i) (k := k) (v := v) (shape_row s wX) sXt) (by rw [wr_at, if_pos rfl, if_pos lx]; rfl) ⟨?_, ?_, hl4, by decide⟩ hFb
    · rw [wr_at, if_neg (by omega)]; exact rowH_r lX
    · rw [wr_at, if_neg (by omega)]; exact rowH_c lX
end ANSW
