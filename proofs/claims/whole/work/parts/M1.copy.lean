/-! A TREE COPIED, the class's -/
/-- an entry whose bytes stand where nothing is made anew -/
def entS (h : px_H) (O : Nat) (e : aE) : Prop := ∃ src st cn g, h.2[O]? = some (.inl (2, enF O (nI (eL e)) (nI (eK e)) src st cn)) ∧ h.2[O + 1]? = some (.inr (0, 35, .inl g)) ∧ (∀ j, j < eL e → g j = nI (eP e j)) ∧
  (eK e = 1 ∧ src = .null ∧ st = 0 ∧ cn = 0 ∨ eK e = 2 ∧ ∃ r s N n f, r + 1 < 85 ∧ src = .ref r ∧ st = nI s ∧ cn = nI (eN e) ∧ rowAt h r N n f ∧ s + eN e ≤ n ∧ ∀ k, k < eN e → f (s + k) &&& 255 = eC e k)
set_option maxRecDepth 16384 in
theorem entS_R {h : px_H} {O : Nat} {e : aE} (w : entS h O e) : entR h O e := by
  obtain ⟨src, st, cn, g, a, b, c, d⟩ := w
  refine ⟨src, st, cn, g, a, b, c, ?_⟩
  rcases d with d | ⟨d1, r, s, N, n, f, d2, d3⟩
  · exact .inl d
  · exact .inr ⟨d1, r, s, N, n, f, .inl d2, d3⟩
set_option maxRecDepth 16384 in
theorem entS_frm {h h' : px_H} {O : Nat} {e : aE} (w : entS h O e) (e0 : h'.2[O]? = h.2[O]?) (e1 : h'.2[O + 1]? = h.2[O + 1]?) (er : ∀ r, r + 1 < 85 → h'.2[r]? = h.2[r]? ∧ h'.2[r + 1]? = h.2[r + 1]?) : entS h' O e := by
  obtain ⟨src, st, cn, g, a, b, c, d⟩ := w
  refine ⟨src, st, cn, g, e0.trans a, e1.trans b, c, ?_⟩
  rcases d with d | ⟨d1, r, s, N, n, f, d2, d3, d4, d5, d6, d7⟩
  · exact .inl d
  · exact .inr ⟨d1, r, s, N, n, f, d2, d3, d4, d5, ⟨(er r d2).1.trans d6.1, (er r d2).2.trans d6.2.1, d6.2.2⟩, d7⟩
def trS (h : px_H) (T n : Nat) (E : Nat → aE) : Prop := h.2[T]? = some (.inl (3, [.ref (T + 1), .int (nI n)])) ∧ trC h T ∧ ∃ ra, h.2[T + 1]? = some (.inr (12, 80, .inr (.inr ra))) ∧ prm T ra ∧ ∀ i, i < n → ∃ O, ra i = some O ∧ entS h O (E i)
set_option maxRecDepth 16384 in
theorem trS_R {h : px_H} {T n : Nat} {E : Nat → aE} (w : trS h T n E) : trR h T n E := by
  obtain ⟨a, b, ra, c, d, f⟩ := w
  refine ⟨a, b, ra, c, d, fun i hi => ?_⟩
  obtain ⟨O, o1, o2⟩ := f i hi
  exact ⟨O, o1, entS_R o2⟩
set_option maxRecDepth 16384 in
theorem trS_frm {h h' : px_H} {T n : Nat} {E : Nat → aE} (w : trS h T n E) (hn : n ≤ 80) (e : ∀ r, trA T r → h'.2[r]? = h.2[r]?) (er : ∀ r, r + 1 < 85 → h'.2[r]? = h.2[r]? ∧ h'.2[r + 1]? = h.2[r + 1]?) : trS h' T n E := by
  obtain ⟨a, b, ra, c, d, f⟩ := w
  refine ⟨(e T ⟨by omega, by omega⟩).trans a, fun k hk => itC_frm (b k hk) (e _ ⟨by omega, by omega⟩) (e _ ⟨by omega, by omega⟩), ra, (e _ ⟨by omega, by omega⟩).trans c, d, fun i hi => ?_⟩
  obtain ⟨O, o1, o2⟩ := f i hi
  obtain ⟨k, k1, k2⟩ := prm_at d (show i < 80 by omega)
  rw [o1] at k2
  have := Option.some.inj k2
  subst this
  exact ⟨_, o1, entS_frm o2 (e _ ⟨by omega, by omega⟩) (e _ ⟨by omega, by omega⟩) er⟩
def trQ (h : px_H) (T c n : Nat) (E : Nat → aE) : Prop := h.2[T]? = some (.inl (3, [.ref (T + 1), .int (nI c)])) ∧ trC h T ∧ ∃ ra, h.2[T + 1]? = some (.inr (12, 80, .inr (.inr ra))) ∧ prm T ra ∧ ∀ i, i < n → ∃ O, ra i = some O ∧ entS h O (E i)
section COPY
variable {sx : Nat × (Nat → Int32)} {h : px_H} {T T' n : Nat} {E : Nat → aE} {Q : px_O → px_H → Prop}
set_option maxRecDepth 16384 in
theorem c_treeCopy_l (hT : treT T') (hd : T + 162 ≤ T' ∨ T' + 162 ≤ T) (h249 : T + 162 ≤ 249) (hok : ∀ i, i < n → pth (eP (E i)) (eL (E i))) (hn : n ≤ 80)
    (hQ : ∀ h1, trS h1 T' n E → frm (trA T') h h1 → (shape h → shape h1) → Q (.inl none) h1) :
    ∀ d i, i + d = n → ∀ h1 l3, trR h1 T n E → trQ h1 T' n i E → frm (trA T') h h1 → (shape h → shape h1) → px_Wp sx 62 10 [some (.ref T'), some (.ref T), some (.int (nI i)), l3] [] h1 Q := by
  intro d
  induction d with
  | zero =>
    intro i hi h1 l3 t q fr sh
    have hi : i = n := by omega
    subst hi
    have le : nI i ≤ nI i := Int32.le_refl _
    have q1 := q.1
    simp only [pc62_10, pc62_11, pc62_11n, pc62_12, pc62_15, pc62_82, px_op_some, px_kv_ap, px_ki_ap, px_kl_ap, px_kn_ap, px_kh_ap, px_op_none, px_K_some, px_K_none, px_K_thr, px_kill, ↓reduceIte, if_true, if_false, true_and, and_true, px_gf, q1, List.getElem?_cons_zero, List.getElem?_cons_succ, le]
    exact hQ h1 q fr sh
  | succ d ih =>
    intro i hi h1 l3 t q fr sh
    have t' := t
    obtain ⟨t1, t2, ra, t3, t4, t5⟩ := t'
    obtain ⟨q1, q2, rb, q3, q4, q5⟩ := q
    obtain ⟨O, o1, src, st, cn, g, o2, o3, o4, o5⟩ := t5 i (by omega)
    obtain ⟨k0, k1, k2⟩ := prm_at t4 (show i < 80 by omega)
    rw [o1] at k2
    have hO := Option.some.inj k2
    obtain ⟨k, k3, f1⟩ := prm_at q4 (show i < 80 by omega)
    obtain ⟨l0, kd0, src0, st0, cn0, g0, f2, f3⟩ := q2 k k3
    have ge : ¬ nI n ≤ nI i := nI_ge (by omega) (by omega)
    have ii : px_in (nI i) 80 = true := px_inb (by omega) (by decide)
    have ci : (nI i).toNatClampNeg = i := nI_clamp (by omega)
    have hcF : px_cls h1 (T' + 2 + 2 * k) = some 2 := by unfold px_cls; rw [f2]
    have lF : T' + 2 + 2 * k + 1 < h1.2.length := (List.getElem?_eq_some_iff.mp f3).1
    rw [pc62_10]
    simp only [pc62_11, pc62_11n, pc62_12, pc62_15, pc62_18, pc62_18n, pc62_19, pc62_22, pc62_23, pc62_24, pc62_24n, pc62_25, pc62_25n, pc62_26, pc62_29, pc62_30, pc62_31, pc62_31n, pc62_32, px_op_some, px_kv_ap, px_ki_ap, px_kl_ap, px_kn_ap, px_kh_ap, px_op_none, px_K_some, px_K_none, px_K_thr, px_kill, ↓reduceIte, if_true, if_false, true_and, and_true, px_gf, px_aa, q1, q3, t1, t3, List.getElem?_cons_zero, List.getElem?_cons_succ, ge, ii, ci, o1, f1, px_rf, tg_12, Nat.reduceLeDiff, and_self, px_kill, hcF]
    refine c_copyPath (ent_enP ⟨src, st, cn, g, o2, o3, o4, o5⟩ (hok i (by omega))) f2 f3 (by omega) (fun g1 hg1 => ?_)
    generalize hF : T' + 2 + 2 * k = F at f1 f2 f3 hcF lF ⊢
    generalize hh2 : tpH h1 F (eL (E i)) kd0 src0 st0 cn0 g1 = h2
    have a2 : ∀ r, r ≠ F → r ≠ F + 1 → h2.2[r]? = h1.2[r]? := fun r x y => by rw [← hh2, tpH_at x y]
    have b2 : h2.2[F]? = some (.inl (2, enF F (nI (eL (E i))) kd0 src0 st0 cn0)) := by rw [← hh2, tpH_o lF]
    have b3 : h2.2[F + 1]? = some (.inr (0, 35, .inl g1)) := by rw [← hh2, tpH_p lF]
    have sh2 : shape h → shape h2 := fun z => by rw [← hh2]; exact tpH_shape (sh z) f2 f3
    have o22 : h2.2[O]? = some (.inl (2, enF O (nI (eL (E i))) (nI (eK (E i))) src st cn)) := by rw [a2 _ (by omega) (by omega)]; exact o2
    have l2 : F < h2.2.length := (List.getElem?_eq_some_iff.mp b2).1
    have fr2 : frm (trA T') h h2 := by
      rw [← hh2]; exact frm_trans fr (frm_mono tpH_frm (fun r hr => by unfold trA; omega))
    have q12 : h2.2[T']? = some (.inl (3, [.ref (T' + 1), .int (nI n)])) := by rw [a2 _ (by omega) (by omega)]; exact q1
    have q32 : h2.2[T' + 1]? = some (.inr (12, 80, .inr (.inr rb))) := by rw [a2 _ (by omega) (by omega)]; exact q3
    have hcF2 : px_cls h2 F = some 2 := by unfold px_cls; rw [b2]
    have o22' := o22
    unfold enF at o22'
    -- what stands there behind
    have fin : ∀ (src' : Value) (st' cn' : Int32), (eK (E i) = 1 ∧ src' = .null ∧ st' = 0 ∧ cn' = 0 ∨ eK (E i) = 2 ∧ ∃ r s N n f, r + 1 < 85 ∧ src' = .ref r ∧ st' = nI s ∧ cn' = nI (eN (E i)) ∧ rowAt h1 r N n f ∧ s + eN (E i) ≤ n ∧ ∀ k, k < eN (E i) → f (s + k) &&& 255 = eC (E i) k) → ∀ l3, px_Wp sx 62 76 [some (.ref T'), some (.ref T), some (.int (nI i)), some (.ref l3)] [] (px_wr h2 F (.inl (2, enF F (nI (eL (E i))) (nI (eK (E i))) src' st' cn'))) Q := by
      intro src' st' cn' hsrc l3
      generalize hh3 : px_wr h2 F (.inl (2, enF F (nI (eL (E i))) (nI (eK (E i))) src' st' cn')) = h3
      have a3 : ∀ r, r ≠ F → r ≠ F + 1 → h3.2[r]? = h1.2[r]? := fun r x y => by rw [← hh3, wr_at, if_neg (fun z => x z.symm)]; exact a2 r x y
      have z3 : h3.2[F]? = some (.inl (2, enF F (nI (eL (E i))) (nI (eK (E i))) src' st' cn')) := by rw [← hh3, wr_at, if_pos rfl, if_pos l2]
      have z4 : h3.2[F + 1]? = some (.inr (0, 35, .inl g1)) := by rw [← hh3, wr_at, if_neg (by omega)]; exact b3
      have er : ∀ r, srcOK r → h3.2[r]? = h1.2[r]? ∧ h3.2[r + 1]? = h1.2[r + 1]? := fun r hr => by
        obtain ⟨y1, y2⟩ := hT.2.2.2 r hr
        unfold trA at y1 y2
        exact ⟨a3 _ (by omega) (by omega), a3 _ (by omega) (by omega)⟩
      simp only [pc62_76, pc62_79, px_op_some, px_kv_ap, px_ki_ap, px_kl_ap, px_kn_ap, px_kh_ap, px_op_none, px_K_some, px_K_none, px_K_thr, px_kill, ↓reduceIte, if_true, if_false, true_and, and_true, nI_p1, px_kill]
      refine ih (i + 1) (by omega) h3 _ (tr_frm t hn (fun r hr => a3 r (by unfold trA at hr; omega) (by unfold trA at hr; omega)) er) ⟨by rw [a3 _ (by omega) (by omega)]; exact q1, fun k' hk' => ?_, rb, by rw [a3 _ (by omega) (by omega)]; exact q3, q4, fun j hj => ?_⟩ ?_ (fun z => ?_)
      · by_cases x : T' + 2 + 2 * k' = F
        · rw [x]; exact ⟨_, _, _, _, _, g1, z3, z4⟩
        · exact itC_frm (q2 k' hk') (a3 _ x (by omega)) (a3 _ (by omega) (by omega))
      · by_cases x : j = i
        · subst x
          refine ⟨F, f1, src', st', cn', g1, z3, z4, hg1, ?_⟩
          rcases hsrc with hs | ⟨hs, r, s, N, m, f, s1, s2, s3, s4, s5, s6⟩
          · exact .inl hs
          · exact .inr ⟨hs, r, s, N, m, f, s1, s2, s3, s4, ⟨(er r (.inl s1)).1.trans s5.1, (er r (.inl s1)).2.trans s5.2.1, s5.2.2⟩, s6⟩
        · obtain ⟨O', p1, p2⟩ := q5 j (by omega)
          obtain ⟨k', p3, p4⟩ := prm_at q4 (show j < 80 by omega)
          rw [p1] at p4
          have hO' := Option.some.inj p4
          have nF : O' ≠ F := fun z => by
            obtain ⟨π, π1, π2⟩ := q4
            have y1 := (π1 j (by omega)).1
            have y2 := (π1 i (by omega)).1
            rw [p1] at y1
            rw [f1] at y2
            have w1 := Option.some.inj y1
            have w2 := Option.some.inj y2
            exact x (π2 j i (by omega) (by omega) (by omega))
          exact ⟨O', p1, entS_frm p2 (a3 _ nF (by omega)) (a3 _ (by omega) (by omega)) (fun r hr => er r (.inl hr))⟩
      · rw [← hh3]; exact frm_wr fr2 (by unfold trA; omega)
      · rw [← hh3]
        have := hT.2.2.1 k k3
        rw [hF] at this
        exact ent_shape this (sh2 z)
    rcases o5 with ⟨k1', rfl, rfl, rfl⟩ | ⟨k2', r, s, N, nr, f, s1, rfl, rfl, rfl, s5, s6, s7⟩
    · have ne2 : ¬ nI (eK (E i)) = 2 := by rw [k1']; decide
      simp only [px_K_none, pc62_35, pc62_35n, pc62_36, pc62_39, pc62_40, pc62_67, pc62_67n, pc62_68, pc62_71, pc62_72, pc62_73, px_op_some, px_kv_ap, px_ki_ap, px_kl_ap, px_kn_ap, px_kh_ap, px_op_none, px_K_some, px_K_none, px_K_thr, px_kill, ↓reduceIte, if_true, if_false, true_and, and_true, px_gf, px_aa, q12, q32, o22', List.getElem?_cons_zero, List.getElem?_cons_succ, ne2, ii, ci, f1, px_rf, tg_12, Nat.reduceLeDiff, and_self, not_false_eq_true, hcF2]
      refine c_becomeDir b2 ?_
      simp only [px_K_none]
      have := fin .null 0 0 (.inl ⟨k1', rfl, rfl, rfl⟩) O
      rw [k1'] at this
      exact this
    · have s1' : r + 1 < 85 := by
        rcases s1 with s1 | ⟨-, s1, -⟩
        · exact s1
        · omega
      have e2 : nI (eK (E i)) = 2 := by rw [k2']; rfl
      simp only [px_K_none, pc62_35, pc62_35n, pc62_36, pc62_39, pc62_40, pc62_43, pc62_43n, pc62_44, pc62_47, pc62_48, pc62_49, pc62_49n, pc62_50, pc62_53, pc62_53n, pc62_54, pc62_57, pc62_57n, pc62_58, pc62_61, px_op_some, px_kv_ap, px_ki_ap, px_kl_ap, px_kn_ap, px_kh_ap, px_op_none, px_K_some, px_K_none, px_K_thr, px_kill, ↓reduceIte, if_true, if_false, true_and, and_true, px_gf, px_aa, q12, q32, o22', List.getElem?_cons_zero, List.getElem?_cons_succ, e2, ii, ci, f1, px_rf, tg_12, Nat.reduceLeDiff, and_self, not_true_eq_false, hcF2]
      refine c_becomeFile b2 ?_
      simp only [px_K_none, pc62_64]
      have := fin (.ref r) (nI s) (nI (eN (E i))) (.inr ⟨k2', r, s, N, nr, f, s1', rfl, rfl, rfl, s5, s6, s7⟩) O
      rw [e2] at this
      exact this
set_option maxRecDepth 16384 in
theorem c_treeCopy (hT : treT T') (hd : T + 162 ≤ T' ∨ T' + 162 ≤ T) (h249 : T + 162 ≤ 249) (t : trR h T n E) (p : trP h T') (hok : ∀ i, i < n → pth (eP (E i)) (eL (E i))) (hn : n ≤ 80) (hQ : ∀ h1, trS h1 T' n E → frm (trA T') h h1 → (shape h → shape h1) → Q (.inl none) h1) :
    px_Wp sx 62 0 [some (.ref T'), some (.ref T), none, none] [] h Q := by
  obtain ⟨⟨x, p1⟩, p2, ra, p3, p4⟩ := p
  have t1 := t.1
  have l1 : T' < h.2.length := (List.getElem?_eq_some_iff.mp p1).1
  have ce : ∀ r, r ≠ T' → (px_wr h T' (.inl (3, [.ref (T' + 1), .int (nI n)]))).2[r]? = h.2[r]? := fun r hr => by rw [wr_at, if_neg (fun z => hr z.symm)]
  simp only [pc62_0, pc62_0n, pc62_1, pc62_1n, pc62_2, pc62_5, pc62_8, pc62_9, px_op_some, px_kv_ap, px_ki_ap, px_kl_ap, px_kn_ap, px_kh_ap, px_op_none, px_K_some, px_K_none, px_K_thr, px_kill, ↓reduceIte, if_true, if_false, true_and, and_true, px_gf, px_pf, t1, p1, List.getElem?_cons_zero, List.getElem?_cons_succ, List.length_cons, List.length_nil, Nat.reduceAdd, Nat.reduceLT, px_fit, and_self, List.set_cons_succ, List.set_cons_zero, px_kill]
  refine c_treeCopy_l hT hd h249 hok hn hQ n 0 (by omega) _ _ (tr_frm t hn (fun r hr => ce r (by unfold trA at hr; omega)) (fun r hr => ?_)) ⟨by rw [wr_at, if_pos rfl, if_pos l1], fun k hk => itC_frm (p2 k hk) (ce _ (by omega)) (ce _ (by omega)), ra, by rw [ce _ (by omega)]; exact p3, p4, fun i hi => absurd hi (Nat.not_lt_zero i)⟩ (frm_wr (frm_refl _ _) (by unfold trA; omega)) (fun z => shape_int (k := 1) z p1 rfl)
  obtain ⟨y1, y2⟩ := hT.2.2.2 r hr
  unfold trA at y1 y2
  exact ⟨ce _ (by omega), ce _ (by omega)⟩
end COPY
