/-! A PART OF A TREE MOVED, the class's -/
set_option maxRecDepth 16384 in
theorem nm_int {b c : Nat} (hb : b ≤ 100) (hc : c ≤ 100) : (nI b - nI c).toInt = (b : Int) - c := by
  rw [Int32.toInt_sub, nI_toInt (by omega), nI_toInt (by omega), Int.bmod_eq_of_le (by omega) (by omega)]
set_option maxRecDepth 16384 in
theorem nm_le {a b c : Nat} (ha : a ≤ 100) (hb : b ≤ 100) (hc : c ≤ 100) : nI a + (nI b - nI c) ≤ 4 ↔ a + b ≤ 4 + c := by
  rw [Int32.le_iff_toInt_le, Int32.toInt_add, nm_int hb hc, nI_toInt (by omega), show (4 : Int32).toInt = 4 from rfl, Int.bmod_eq_of_le (by omega) (by omega)]
  omega
set_option maxRecDepth 16384 in
theorem nm_ge {a b c : Nat} (ha : a ≤ 100) (hb : b ≤ 100) (hc : c ≤ 100) : 5 ≤ nI a + (nI b - nI c) ↔ ¬ a + b ≤ 4 + c := by
  rw [Int32.le_iff_toInt_le, Int32.toInt_add, nm_int hb hc, nI_toInt (by omega), show (5 : Int32).toInt = 5 from rfl, Int.bmod_eq_of_le (by omega) (by omega)]
  omega
section CREN
variable {sx : Nat × (Nat → Int32)} {h : px_H} {T n l l2 : Nat} {E : Nat → aE} {p p2 : Nat → Nat} {x4 : Int32} {Q : px_O → px_H → Prop}
set_option maxRecDepth 16384 in
theorem enP_f {h' : px_H} {O : Nat} (w : enP h O l p) (e0 : h'.2[O]? = h.2[O]?) (e1 : h'.2[O + 1]? = h.2[O + 1]?) : enP h' O l p := by
  obtain ⟨⟨kd, src, st, cn, a⟩, ⟨g, b, c⟩, d⟩ := w
  exact ⟨⟨kd, src, st, cn, e0.trans a⟩, ⟨g, e1.trans b, c⟩, d⟩
set_option maxRecDepth 16384 in
theorem tr_ren {i : Nat} {e : aE} (t : trR h T n E) (hn : n ≤ 80) (hi : i < n) (ek : eK e = eK (E i)) (en : eN e = eN (E i)) (ec : eC e = eC (E i)) (hsr : ∀ r, srcOK r → ¬ trA T r ∧ ¬ trA T (r + 1)) :
    ∃ O src st cn g, (∃ k, k < 80 ∧ O = T + 2 + 2 * k) ∧ (∃ ra, h.2[T + 1]? = some (.inr (12, 80, .inr (.inr ra))) ∧ ra i = some O) ∧ h.2[O]? = some (.inl (2, enF O (nI (eL (E i))) (nI (eK (E i))) src st cn)) ∧ h.2[O + 1]? = some (.inr (0, 35, .inl g)) ∧ (∀ j, j < eL (E i) → g j = nI (eP (E i) j)) ∧ ∀ g', (∀ j, j < eL e → g' j = nI (eP e j)) → trR (tpH h O (eL e) (nI (eK (E i))) src st cn g') T n (px_up E i e) := by
  obtain ⟨t1, t2, ra, t3, t4, t5⟩ := t
  obtain ⟨O, o1, src, st, cn, g, o2, o3, o4, o5⟩ := t5 i hi
  obtain ⟨k, k1, k2⟩ := prm_at t4 (show i < 80 by omega)
  have hO := k2
  rw [o1] at hO
  have hO := Option.some.inj hO
  have lO : O + 1 < h.2.length := (List.getElem?_eq_some_iff.mp o3).1
  refine ⟨O, src, st, cn, g, ⟨k, k1, hO⟩, ⟨ra, t3, o1⟩, o2, o3, o4, fun g' hg => ?_⟩
  have ne : ∀ {r : Nat}, r ≠ O → r ≠ O + 1 → (tpH h O (eL e) (nI (eK (E i))) src st cn g').2[r]? = h.2[r]? := fun x y => tpH_at x y
  have rw_ : ∀ r, srcOK r → (tpH h O (eL e) (nI (eK (E i))) src st cn g').2[r]? = h.2[r]? ∧ (tpH h O (eL e) (nI (eK (E i))) src st cn g').2[r + 1]? = h.2[r + 1]? := fun r hr => by
    obtain ⟨y1, y2⟩ := hsr r hr
    unfold trA at y1 y2
    exact ⟨ne (by omega) (by omega), ne (by omega) (by omega)⟩
  refine ⟨(ne (by omega) (by omega)).trans t1, fun k' hk' => ?_, ra, (ne (by omega) (by omega)).trans t3, t4, fun j hj => ?_⟩
  · by_cases x : T + 2 + 2 * k' = O
    · rw [x]; exact ⟨_, _, _, _, _, g', tpH_o lO, tpH_p lO⟩
    · exact itC_frm (t2 k' hk') (ne x (by omega)) (ne (by omega) (by omega))
  · by_cases x : j = i
    · subst x
      refine ⟨O, o1, src, st, cn, g', ?_, tpH_p lO, ?_, ?_⟩
      · rw [up_same, ek]; exact tpH_o lO
      · rw [up_same]; exact hg
      · rw [up_same]
        rcases o5 with ⟨s0, s1⟩ | ⟨s0, r, s, N, m, f, s1, s2, s3, s4, s5, s6, s7⟩
        · exact .inl ⟨ek.trans s0, s1⟩
        · exact .inr ⟨ek.trans s0, r, s, N, m, f, s1, s2, s3, by rw [en]; exact s4, ⟨(rw_ r (srcT_ok s1)).1.trans s5.1, (rw_ r (srcT_ok s1)).2.trans s5.2.1, s5.2.2⟩, by rw [en]; exact s6, by rw [en, ec]; exact s7⟩
    · obtain ⟨O', p1, p2⟩ := t5 j hj
      obtain ⟨k', q1, q2⟩ := prm_at t4 (show j < 80 by omega)
      have hO' := q2
      rw [p1] at hO'
      have hO' := Option.some.inj hO'
      have nO : O' ≠ O := fun z => by
        obtain ⟨π, p1', p2'⟩ := t4
        have a1 := (p1' j (by omega)).1
        have a2 := (p1' i (by omega)).1
        rw [p1] at a1
        rw [o1] at a2
        have b1 := Option.some.inj a1
        have b2 := Option.some.inj a2
        exact x (p2' j i (by omega) (by omega) (by omega))
      refine ⟨O', p1, ?_⟩
      rw [up_ne x]
      exact ent_frm p2 (ne nO (by omega)) (ne (by omega) (by omega)) rw_
set_option maxRecDepth 16384 in
theorem c_mvSh (hSh : h.2[414]? = some (.inl (9, [.ref 415, .ref 417, .ref 419, .int x4]))) (a : enP h 417 l p) (hp : pth p l) (b : enP h 419 l2 p2) (hp2 : pth p2 l2) (q2 : pathAt p2 0 l2) (t : trR h T n E) (ok : tOK n E) (pa : tPA n E) (hT : treT T) (hTd : T + 162 ≤ 414)
    (hQ1 : ∀ h' E', mvP n E p l p2 l2 → mvR n E p l p2 l2 E' → trR h' T n E' → frm (trA T) h h' → (shape h → shape h') → Q (.inl (some (.int 1))) h') (hQ0 : ¬ mvP n E p l p2 l2 → Q (.inl (some (.int 0))) h) :
    px_Wp sx 127 0 [some (.ref 414), some (.ref T), none, none, none, none] [] h Q := by
  have cutp := cutP_all hp
  have cutp2 := cutP_all hp2
  have h80 := ok.1
  have l35 := hp.2.1
  have l235 := hp2.2.1
  obtain ⟨⟨kd, src, st, cn, o1⟩, -⟩ := id a
  obtain ⟨⟨kd', src', st', cn', o1'⟩, -⟩ := id b
  have t1 := t.1
  have hcT : px_cls h T = some 3 := by unfold px_cls; rw [t1]
  have hc9 : px_cls h 419 = some 2 := by unfold px_cls; rw [o1']
  have hc7 : px_cls h 417 = some 2 := by unfold px_cls; rw [o1]
  simp only [pc127_0, pc127_0n, pc127_1, pc127_1n, pc127_2, pc127_5, pc127_5n, pc127_6, pc127_9, pc127_12, px_op_some, px_kv_ap, px_ki_ap, px_kl_ap, px_kn_ap, px_kh_ap, px_op_none, px_K_some, px_K_none, px_K_thr, px_kill, ↓reduceIte, if_true, if_false, true_and, and_true, px_gf, hSh, o1, List.getElem?_cons_zero, List.getElem?_cons_succ, hcT]
  refine c_search t ok a hp (Nat.le_refl _) hp.1 (fun x hx => ?_)
  rw [cutp] at hx
  rcases hx with ⟨ia, i1, rfl, i2⟩ | ⟨g, g1, rfl⟩
  rotate_left
  · have gn := g1.1
    obtain ⟨ng, -⟩ := neg_gap (g := g) (by omega)
    simp only [px_K_some, pc127_15, pc127_16, pc127_17, pc127_63, pc127_64, px_op_some, px_kv_ap, px_ki_ap, px_kl_ap, px_kn_ap, px_kh_ap, px_op_none, px_K_some, px_K_none, px_K_thr, px_kill, ↓reduceIte, if_true, if_false, true_and, and_true, px_kill, ng, nar_0]
    exact hQ0 (fun z => gap_not g1 z.1)
  have pos : ¬ nI ia < 0 := nI_pos (by omega)
  simp only [px_K_some, pc127_15, pc127_16, pc127_17, pc127_20, pc127_20n, pc127_21, pc127_21n, pc127_22, pc127_25, pc127_25n, pc127_26, pc127_29, pc127_32, px_op_some, px_kv_ap, px_ki_ap, px_kl_ap, px_kn_ap, px_kh_ap, px_op_none, px_K_some, px_K_none, px_K_thr, px_kill, ↓reduceIte, if_true, if_false, true_and, and_true, px_gf, hSh, o1', List.getElem?_cons_zero, List.getElem?_cons_succ, hcT, pos, px_kill]
  refine c_search t ok b hp2 (Nat.le_refl _) hp2.1 (fun x hx => ?_)
  rw [cutp2] at hx
  rcases hx with ⟨j, j1, rfl, j2⟩ | ⟨g, g1, rfl⟩
  · have ge : (0 : Int32) ≤ nI j := nI_pos' (by omega)
    simp only [px_K_some, pc127_35, pc127_63, pc127_64, px_op_some, px_kv_ap, px_ki_ap, px_kl_ap, px_kn_ap, px_kh_ap, px_op_none, px_K_some, px_K_none, px_K_thr, px_kill, ↓reduceIte, if_true, if_false, true_and, and_true, ge, nar_0]
    exact hQ0 (fun z => z.2.1 ⟨j, j1, j2⟩)
  have gn := g1.1
  obtain ⟨-, ng⟩ := neg_gap (g := g) (by omega)
  have no2 := gap_not g1
  simp only [px_K_some, pc127_35, pc127_38, pc127_38n, pc127_39, pc127_42, pc127_42n, pc127_43, pc127_46, px_op_some, px_kv_ap, px_ki_ap, px_kl_ap, px_kn_ap, px_kh_ap, px_op_none, px_K_some, px_K_none, px_K_thr, px_kill, ↓reduceIte, if_true, if_false, true_and, and_true, px_gf, hSh, ng, List.getElem?_cons_zero, List.getElem?_cons_succ, hc9]
  refine c_below b a hp2 hp (fun x hx => ?_)
  rcases hx with ⟨rfl, nb⟩ | ⟨rfl, nb⟩
  · simp only [px_K_some, pc127_49, pc127_63, pc127_64, px_op_some, px_kv_ap, px_ki_ap, px_kl_ap, px_kn_ap, px_kh_ap, px_op_none, px_K_some, px_K_none, px_K_thr, px_kill, ↓reduceIte, if_true, if_false, true_and, and_true, ne_1_0, not_false_eq_true, nar_0]
    exact hQ0 (fun z => z.2.2.1 nb)
  simp only [px_K_some, pc127_49, pc127_52, pc127_52n, pc127_53, pc127_53n, pc127_54, pc127_57, px_op_some, px_kv_ap, px_ki_ap, px_kl_ap, px_kn_ap, px_kh_ap, px_op_none, px_K_some, px_K_none, px_K_thr, px_kill, ↓reduceIte, if_true, if_false, true_and, and_true, px_gf, hSh, not_true_eq_false, List.getElem?_cons_zero, List.getElem?_cons_succ, hcT]
  refine c_hasHome t ok b hp2 (fun x hx => ?_)
  rcases hx with ⟨rfl, hd⟩ | ⟨rfl, hd⟩
  rotate_left
  · simp only [px_K_some, pc127_60, pc127_63, pc127_64, px_op_some, px_kv_ap, px_ki_ap, px_kl_ap, px_kn_ap, px_kh_ap, px_op_none, px_K_some, px_K_none, px_K_thr, px_kill, ↓reduceIte, if_true, if_false, true_and, and_true, not_true_eq_false, nar_0]
    exact hQ0 (fun z => hd z.2.2.2.1)
  simp only [px_K_some, pc127_60, pc127_65, pc127_65n, pc127_66, pc127_67, px_op_some, px_kv_ap, px_ki_ap, px_kl_ap, px_kn_ap, px_kh_ap, px_op_none, px_K_some, px_K_none, px_K_thr, px_kill, ↓reduceIte, if_true, if_false, true_and, and_true, ne_1_0, not_false_eq_true, hcT]
  refine c_endOf t ok i1 (fun e he => ?_)
  have e1 := he.1
  have e2 := he.2.1
  simp only [px_K_some, pc127_70, pc127_71, pc127_71n, pc127_72, pc127_75, px_op_some, px_kv_ap, px_ki_ap, px_kl_ap, px_kn_ap, px_kh_ap, px_op_none, px_K_some, px_K_none, px_K_thr, px_kill, ↓reduceIte, if_true, if_false, true_and, and_true, px_gf, hSh, List.getElem?_cons_zero, List.getElem?_cons_succ, hc9, px_kill]
  refine c_names b hp2 ?_
  simp only [px_K_some, pc127_78, pc127_78n, pc127_79, pc127_82, px_op_some, px_kv_ap, px_ki_ap, px_kl_ap, px_kn_ap, px_kh_ap, px_op_none, px_K_some, px_K_none, px_K_thr, px_kill, ↓reduceIte, if_true, if_false, true_and, and_true, px_gf, hSh, List.getElem?_cons_zero, List.getElem?_cons_succ, hc7]
  refine c_names a hp ?_
  have nl := scn_le (B := p) (f := 0) l
  have nl2 := scn_le (B := p2) (f := 0) l2
  have mi := fun {j : Nat} (hj : j < n) => mv_iff ok hp i1 i2 he hj
  -- the entries renamed
  have lp2 : (∀ i, i < n → mv p l (E i) → (scn (eP (E i)) 0 (eL (E i))).1 + (scn p2 0 l2).1 ≤ 4 + (scn p 0 l).1) → ∀ d i, i + d = e → ia ≤ i → ∀ h1, trR h1 T n (mvG E l p2 l2 ia i) → frm (trA T) h h1 → (shape h → shape h1) → px_Wp sx 127 125 [some (.ref 414), some (.ref T), some (.int (nI ia)), some (.int (nI e)), some (.int (nI (scn p2 0 l2).1 - nI (scn p 0 l).1)), some (.int (nI i))] [] h1 Q := by
    intro nm d
    have mok : ∀ k, k ≤ e → ∀ j, j < n → eOK (mvG E l p2 l2 ia k j) := fun k hk j hj => by
      by_cases x : ia ≤ j ∧ j < k
      · rw [mvG_in x.1 x.2]
        have m := (mi hj).mpr ⟨x.1, by omega⟩
        exact ren_ok (ok.2.1 j hj) hp hp2 m (pa j hj) q2 (nm j hj m)
      · rw [mvG_out (by omega)]
        exact ok.2.1 j hj
    induction d with
    | zero =>
      intro i hi ii h1 tt fr sh
      have hi : i = e := by omega
      subst hi
      have le : nI i ≤ nI i := Int32.le_refl _
      have hcT1 : px_cls h1 T = some 3 := by unfold px_cls; rw [tt.1]
      simp only [pc127_125, pc127_127, pc127_128, pc127_158, pc127_158n, pc127_159, le, if_true, hcT1, true_and]
      refine c_sort tt h80 (fun j hj => (mok i (Nat.le_refl _) j hj).1) (fun x y hx hy z => mvG_inj ok hp hp2 no2 i1 i2 he (Nat.le_refl _) hx hy z) hT.2.1 (fun r hr => ?_) (fun h2 E' t2 ar tot fr2 sh2 => ?_)
      · obtain ⟨y1, y2⟩ := hT.2.2.2 r hr
        unfold trA at y1 y2
        omega
      · simp only [px_K_none, pc127_162, pc127_163, nar_1]
        have tc : totN (mvG E l p2 l2 ia i) n = totN E n := totN_congr n (fun j hj => by
          by_cases x : ia ≤ j ∧ j < i
          · rw [mvG_in x.1 x.2]; rfl
          · rw [mvG_out (by omega)])
        exact hQ1 h2 E' ⟨⟨ia, i1, i2⟩, no2, nb, hd, nm⟩ ⟨ia, i, i1, i2, he, ar, tot.trans tc⟩ t2 (frm_trans fr (frm_mono fr2 (fun r hr => by unfold trA; omega))) (fun s => sh2 (sh s))
    | succ d ih =>
      intro i hi ii h1 tt fr sh
      have ge : ¬ nI e ≤ nI i := nI_ge (by omega) (by omega)
      have m := (mi (show i < n by omega)).mpr ⟨ii, by omega⟩
      have oki := ok.2.1 i (by omega)
      have rk := ren_ok oki hp hp2 m (pa i (by omega)) q2 (nm i (by omega) m)
      have gl := mv_ge oki.1 hp m
      have i35 := oki.1.2.1
      have ei : mvG E l p2 l2 ia i i = E i := mvG_out (by omega)
      obtain ⟨O, src, st, cn, gg, ⟨k, k1, k2⟩, ⟨ra, t3, oO⟩, z1, z2, z3, z4⟩ := tr_ren (i := i) (e := renE l p2 l2 (E i)) tt h80 (by omega) (by rw [ei]; rfl) (by rw [ei]; rfl) (by rw [ei]; rfl) hT.2.2.2
      rw [ei] at z1 z3 z4
      have inn : px_in (nI i) 80 = true := px_inb (by omega) (by decide)
      have ci : (nI i).toNatClampNeg = i := nI_clamp (by omega)
      have tt1 := tt.1
      have s4 : h1.2[414]? = some (.inl (9, [.ref 415, .ref 417, .ref 419, .int x4])) := frm_at fr (by unfold trA; omega) hSh
      have s7' : h1.2[417]? = h.2[417]? := fr.2.2 417 (by unfold trA; omega)
      have s9 : enP h1 419 l2 p2 := enP_f b (fr.2.2 419 (by unfold trA; omega)) (fr.2.2 420 (by unfold trA; omega))
      have hcO : px_cls h1 O = some 2 := by unfold px_cls; rw [z1]
      have o17 := s7'.trans o1
      rw [pc127_125]
      simp only [pc127_127, pc127_128, pc127_131, pc127_131n, pc127_132, pc127_135, pc127_137, pc127_138, pc127_138n, pc127_139, pc127_142, pc127_142n, pc127_143, pc127_146, pc127_149, px_op_some, px_kv_ap, px_ki_ap, px_kl_ap, px_kn_ap, px_kh_ap, px_op_none, px_K_some, px_K_none, px_K_thr, px_kill, ↓reduceIte, if_true, if_false, true_and, and_true, px_gf, px_aa, tt1, t3, s4, o17, ge, inn, ci, oO, px_rf, tg_12, Nat.reduceLeDiff, and_self, List.getElem?_cons_zero, List.getElem?_cons_succ, hcO]
      refine c_erename z1 z2 z3 s9 (.inr (by omega)) i35 gl rk.1.2.1 (fun g' hg => ?_)
      simp only [px_K_none, pc127_152, pc127_155, nI_p1, px_kill]
      have t' := z4 g' hg
      have eq : px_up (mvG E l p2 l2 ia i) i (renE l p2 l2 (E i)) = mvG E l p2 l2 ia (i + 1) := by
        funext j
        by_cases x : j = i
        · subst x; rw [up_same, mvG_in ii (by omega)]
        · rw [up_ne x]
          by_cases y : ia ≤ j ∧ j < i
          · rw [mvG_in y.1 y.2, mvG_in y.1 (by omega)]
          · rw [mvG_out (by omega), mvG_out (by omega)]
      rw [eq] at t'
      refine ih (i + 1) (by omega) (by omega) _ t' (frm_trans fr (frm_mono tpH_frm (fun r hr => by unfold trA; omega))) (fun s => tpH_shape (sh s) z1 z2)
  -- no name too many
  have lp1 : ∀ d i, i + d = e → ia ≤ i → (∀ j, ia ≤ j → j < i → (scn (eP (E j)) 0 (eL (E j))).1 + (scn p2 0 l2).1 ≤ 4 + (scn p 0 l).1) → px_Wp sx 127 91 [some (.ref 414), some (.ref T), some (.int (nI ia)), some (.int (nI e)), some (.int (nI (scn p2 0 l2).1 - nI (scn p 0 l).1)), some (.int (nI i))] [] h Q := by
    intro d
    induction d with
    | zero =>
      intro i hi ii q
      have hi : i = e := by omega
      subst hi
      have le : nI i ≤ nI i := Int32.le_refl _
      simp only [pc127_91, pc127_93, pc127_94, pc127_122, pc127_123, le, if_true, px_kill]
      refine lp2 (fun j hj m => q j ((mi hj).mp m).1 ((mi hj).mp m).2) (i - ia) ia (by omega) (Nat.le_refl _) h ?_ (frm_refl _ _) (fun s => s)
      have : mvG E l p2 l2 ia ia = E := funext fun j => mvG_out (by omega)
      rw [this]; exact t
    | succ d ih =>
      intro i hi ii q
      have ge : ¬ nI e ≤ nI i := nI_ge (by omega) (by omega)
      have inn : px_in (nI i) 80 = true := px_inb (by omega) (by decide)
      have ci : (nI i).toNatClampNeg = i := nI_clamp (by omega)
      have oki := (ok.2.1 i (by omega)).1
      have i35 := oki.2.1
      have t' := t
      obtain ⟨-, t2, ra, t3, t4, t5⟩ := t'
      obtain ⟨O, oO, oe⟩ := t5 i (by omega)
      have oe' := oe
      obtain ⟨src, st, cn, gg, y1, -⟩ := oe'
      have hcO : px_cls h O = some 2 := by unfold px_cls; rw [y1]
      have ni := scn_le (B := eP (E i)) (f := 0) (eL (E i))
      have nmi := nm_le (a := (scn (eP (E i)) 0 (eL (E i))).1) (b := (scn p2 0 l2).1) (c := (scn p 0 l).1) (by omega) (by omega) (by omega)
      rw [pc127_91]
      simp only [pc127_93, pc127_94, pc127_97, pc127_97n, pc127_98, pc127_101, pc127_103, pc127_104, px_op_some, px_kv_ap, px_ki_ap, px_kl_ap, px_kn_ap, px_kh_ap, px_op_none, px_K_some, px_K_none, px_K_thr, px_kill, ↓reduceIte, if_true, if_false, true_and, and_true, px_gf, px_aa, t1, t3, ge, inn, ci, oO, px_rf, tg_12, Nat.reduceLeDiff, and_self, List.getElem?_cons_zero, List.getElem?_cons_succ, hcO]
      refine c_names (ent_enP oe oki) oki ?_
      by_cases x : (scn (eP (E i)) 0 (eL (E i))).1 + (scn p2 0 l2).1 ≤ 4 + (scn p 0 l).1
      · have le := nmi.mpr x
        simp only [px_K_some, pc127_107, pc127_109, pc127_110, pc127_111, pc127_116, pc127_119, le, if_true, nI_p1, px_kill]
        refine ih (i + 1) (by omega) (by omega) (fun j h1 h2 => ?_)
        by_cases y : j = i
        · subst y; exact x
        · exact q j h1 (by omega)
      · have le : ¬ nI (scn (eP (E i)) 0 (eL (E i))).1 + (nI (scn p2 0 l2).1 - nI (scn p 0 l).1) ≤ 4 := fun z => x (nmi.mp z)
        simp only [px_K_some, pc127_107, pc127_109, pc127_110, pc127_111, pc127_114, pc127_115, le, if_false, nar_0]
        exact hQ0 (fun z => x (z.2.2.2.2 i (by omega) ((mi (by omega)).mpr ⟨ii, by omega⟩)))
  simp only [px_K_some, pc127_85, pc127_86, pc127_88, pc127_89, px_kill]
  exact lp1 (e - ia) ia (by omega) (Nat.le_refl _) (fun j h1 h2 => by omega)
end CREN
