/-! COMMANDS, the reference's: put -/
section MPUT
variable {sx : Nat × (Nat → Int32)} {h : px_H} {n l s m : Nat} {D : Nat → Prop} {T : Nat → aE} {p : Nat → Nat} {V X c : Nat → Int32} {Q : px_O → px_H → Prop}
set_option maxRecDepth 16384 in
theorem m_put_t {e : Nat} {l4 : Int32} (h6 : h.2[619]? = some (.inl (11, modF V))) (hX : h.2[654]? = some (.inr (1, 9000, .inl X))) (w : mtE h D T) (he : D e) (hm : m ≤ 1000) (hs : s + m ≤ 9000) (hc : ∀ j, j < m → X (s + j) = c j)
    (hQ : ∀ h', mtE h' D (px_up T e (eL (T e), eP (T e), 2, m, c)) → frm mEA h h' → (shape h → shape h') → Q (.inl none) h') :
    px_Wp sx 194 96 [some (.ref 619), some (.int (nI s)), some (.int (nI (s + m))), some (.int (nI e)), some (.int l4), none] [] h Q := by
  obtain ⟨P, LN, K, Z, C, ⟨a1, a2, a3, a4, a5⟩, w2⟩ := w
  obtain ⟨e82, ok, r1, r2, r3, r4, r5⟩ := w2 e he
  have ie : px_in (nI e) 82 = true := px_inb e82 (by decide)
  have ce : (nI e).toNatClampNeg = e := nI_clamp (by omega)
  have L9 : 639 < h.2.length := (List.getElem?_eq_some_iff.mp a3).1
  have L10 : 640 < h.2.length := (List.getElem?_eq_some_iff.mp a4).1
  have L11 : 641 < h.2.length := (List.getElem?_eq_some_iff.mp a5).1
  have sb : nI (s + m) - nI s = nI m := by rw [nI_sub (by omega), Nat.add_sub_cancel_left]
  generalize hh1 : px_wr (px_wr h 639 (.inr (1, 82, .inl (px_up K e 2)))) 640 (.inr (1, 82, .inl (px_up Z e (nI m)))) = h1
  have ne1 : ∀ r, r ≠ 639 → r ≠ 640 → h1.2[r]? = h.2[r]? := fun r x y => by rw [← hh1, wr_at, if_neg (fun z => y z.symm), wr_at, if_neg (fun z => x z.symm)]
  have b3 : h1.2[639]? = some (.inr (1, 82, .inl (px_up K e 2))) := by rw [← hh1, wr_at, if_neg (by decide), wr_at, if_pos rfl, if_pos L9]
  have b4 : h1.2[640]? = some (.inr (1, 82, .inl (px_up Z e (nI m)))) := by rw [← hh1, wr_at, if_pos rfl, if_pos (by rw [px_wr_len]; exact L10)]
  have b5 : h1.2[641]? = some (.inr (1, 82082, .inl C)) := (ne1 _ (by decide) (by decide)).trans a5
  have L11' : 641 < h1.2.length := (List.getElem?_eq_some_iff.mp b5).1
  have b6 : h1.2[619]? = some (.inl (11, modF V)) := (ne1 _ (by decide) (by decide)).trans h6
  have bX : h1.2[654]? = some (.inr (1, 9000, .inl X)) := (ne1 _ (by decide) (by decide)).trans hX
  have fr1 : frm mEA h h1 := by rw [← hh1]; exact frm_wr (frm_wr (frm_refl _ _) ⟨by decide, by decide⟩) ⟨by decide, by decide⟩
  have sh1 : shape h → shape h1 := fun z => by
    rw [← hh1]
    exact shape_ia (r := 640) (shape_ia z a3) (by rw [wr_at, if_neg (by decide)]; exact a4)
  have z7 : ∀ x : px_C, (px_wr h1 641 x).2[641]? = some x := fun x => by rw [wr_at, if_pos rfl, if_pos L11']
  have z6 : ∀ x : px_C, (px_wr h1 641 x).2[619]? = some (.inl (11, modF V)) := fun x => by rw [wr_at, if_neg (by decide)]; exact b6
  have zX : ∀ x : px_C, (px_wr h1 641 x).2[654]? = some (.inr (1, 9000, .inl X)) := fun x => by rw [wr_at, if_neg (by decide)]; exact bX
  have lp : ∀ d k, k + d = m → ∀ Ck, (∀ j, j < k → Ck (1001 * e + j) = X (s + j)) → (∀ j, j < 1001 * e ∨ 1001 * e + k ≤ j → Ck j = C j) → px_Wp sx 194 115 [some (.ref 619), some (.int (nI s)), some (.int (nI (s + m))), some (.int (nI e)), some (.int l4), some (.int (nI k))] [] (px_wr h1 641 (.inr (1, 82082, .inl Ck))) Q := by
    intro d
    induction d with
    | zero =>
      intro k hk Ck q1 q2
      have hk : k = m := by omega
      subst hk
      have le : nI k ≤ nI k := Int32.le_refl _
      simp only [pc194_115, pc194_117, pc194_118, pc194_119, pc194_120, pc194_151, px_op_some, px_kv_ap, px_ki_ap, px_kl_ap, px_kn_ap, px_kh_ap, px_op_none, px_K_some, px_K_none, px_K_thr, px_kill, ↓reduceIte, if_true, if_false, true_and, and_true, sb, le]
      refine hQ _ ⟨P, LN, px_up K e 2, px_up Z e (nI k), Ck, ⟨by rw [wr_at, if_neg (by decide), ne1 _ (by decide) (by decide)]; exact a1, by rw [wr_at, if_neg (by decide), ne1 _ (by decide) (by decide)]; exact a2, by rw [wr_at, if_neg (by decide)]; exact b3, by rw [wr_at, if_neg (by decide)]; exact b4, z7 _⟩, fun i hi => ?_⟩ (frm_wr fr1 ⟨by decide, by decide⟩) (fun z => shape_ia (sh1 z) b5)
      obtain ⟨i82, oki, m1, m2, m3, m4, m5⟩ := w2 i hi
      by_cases x : i = e
      · subst x
        rw [up_same]
        exact ⟨i82, ⟨oki.1, .inr ⟨rfl, hm⟩⟩, m1, up_same _ _ _, up_same _ _ _, m4, fun j hj => by rw [q1 j hj]; exact hc j hj⟩
      · rw [up_ne x]
        have ni := eN_le oki
        exact ⟨i82, oki, m1, by rw [up_ne x]; exact m2, by rw [up_ne x]; exact m3, m4, fun j hj => by rw [q2 _ (by omega)]; exact m5 j hj⟩
    | succ d ih =>
      intro k hk Ck q1 q2
      have ge : ¬ nI m ≤ nI k := nI_ge (by omega) (by omega)
      have it : px_in (nI (1001 * e + k)) 82082 = true := px_inb (by omega) (by decide)
      have ct : (nI (1001 * e + k)).toNatClampNeg = 1001 * e + k := nI_clamp (by omega)
      have is_ : px_in (nI (s + k)) 9000 = true := px_inb (by omega) (by decide)
      have cs : (nI (s + k)).toNatClampNeg = s + k := nI_clamp (by omega)
      rw [pc194_115]
      simp only [pc194_117, pc194_118, pc194_119, pc194_120, pc194_123, pc194_123n, pc194_124, pc194_127, pc194_130, pc194_131, pc194_132, pc194_134, pc194_135, pc194_135n, pc194_136, pc194_139, pc194_140, pc194_142, pc194_143, pc194_144, pc194_145, pc194_148, px_op_some, px_kv_ap, px_ki_ap, px_kl_ap, px_kn_ap, px_kh_ap, px_op_none, px_K_some, px_K_none, px_K_thr, px_kill, ↓reduceIte, if_true, if_false, true_and, and_true, px_gf, px_ai, px_wi, z6, z7, zX, mf_25, mf_48, sb, ge, mul_1001, nI_add, it, ct, is_, cs, nar1, tg_i1, and_self, px_wr_wr, px_kill, nI_p1]
      refine ih (k + 1) (by omega) _ (fun j hj => ?_) (fun j hj => ?_)
      · by_cases x : j = k
        · subst x; exact up_same _ _ _
        · rw [up_ne (by omega)]; exact q1 j (by omega)
      · rw [up_ne (by omega)]; exact q2 j (by omega)
  have y6 : (px_wr h 639 (.inr (1, 82, .inl (px_up K e 2)))).2[619]? = some (.inl (11, modF V)) := by rw [wr_at, if_neg (by decide)]; exact h6
  have y4 : (px_wr h 639 (.inr (1, 82, .inl (px_up K e 2)))).2[640]? = some (.inr (1, 82, .inl Z)) := by rw [wr_at, if_neg (by decide)]; exact a4
  simp only [pc194_96, pc194_96n, pc194_97, pc194_100, pc194_101, pc194_102, pc194_103, pc194_103n, pc194_104, pc194_107, pc194_108, pc194_109, pc194_110, pc194_111, pc194_112, pc194_113, px_op_some, px_kv_ap, px_ki_ap, px_kl_ap, px_kn_ap, px_kh_ap, px_op_none, px_K_some, px_K_none, px_K_thr, px_kill, ↓reduceIte, if_true, if_false, true_and, and_true, px_gf, px_wi, h6, y6, mf_23, mf_24, a3, y4, ie, ce, sb, nar1, tg_i1, and_self, px_kill, hh1]
  have e5 : px_wr h1 641 (.inr (1, 82082, .inl C)) = h1 := wr_id b5
  have := lp m 0 (by omega) C (fun j hj => absurd hj (Nat.not_lt_zero j)) (fun _ _ => rfl)
  rw [e5] at this
  exact this
set_option maxRecDepth 16384 in
theorem m_putFile (h6 : h.2[619]? = some (.inl (11, modF V))) (hv : V 20 = nI n) (hv2 : V 32 = nI l) (hf : V 43 = 0) (hX : h.2[654]? = some (.inr (1, 9000, .inl X))) (ok : tOK n T) (hn : n ≤ 40) (ht : totN T n ≤ 1000) (hb : ∀ i, i < n → eN (T i) ≤ totN T n) (w : mtE h (fun i => i < n) T) (pt : mpt h p l) (hp : pth p l) (hs : s + m ≤ 9000) (hc : ∀ j, j < m → X (s + j) = c j)
    (hQ1 : ∀ i h', i < n → eP (T i) = p → ¬ eK (T i) = 1 → totN T n - eN (T i) + m ≤ 1000 → mtE h' (fun i => i < n) (px_up T i (l, p, 2, m, c)) → h'.2[619]? = some (.inl (11, modF V)) → frm mEB h h' → (shape h → shape h') → Q (.inl none) h')
    (hQ2 : ∀ k h' V', ¬ inT n T p → homed n T p l → totN T n + m ≤ 1000 → ¬ n = 40 → gapE n T p k → mtE h' (fun i => i < n + 1) (insE T k (l, p, 2, m, c)) → h'.2[619]? = some (.inl (11, modF V')) → V' 20 = nI (n + 1) → (∀ j, j ≠ 20 → V' j = V j) → frm mEB h h' → (shape h → shape h') → Q (.inl none) h')
    (hQ0 : ∀ x : Nat, (((∃ i, i < n ∧ eP (T i) = p ∧ eK (T i) = 1) ∨ ¬ inT n T p ∧ ¬ homed n T p l) ∧ x = 3 ∨ (∃ i, i < n ∧ eP (T i) = p ∧ ¬ eK (T i) = 1 ∧ 1000 < totN T n - eN (T i) + m) ∧ x = 4 ∨ ((¬ inT n T p ∧ homed n T p l) ∧ (1000 < totN T n + m ∨ n = 40)) ∧ x = 4) → Q (.inl none) (px_wr h 619 (.inl (11, modF (px_up V 43 (nI x)))))) :
    px_Wp sx 194 0 [some (.ref 619), some (.int (nI s)), some (.int (nI (s + m))), none, none, none] [] h Q := by
  have hcls : px_cls h 619 = some 11 := by unfold px_cls; rw [h6]
  have l35 := hp.2.1
  have srt := ok.2.2.1
  have cutp := cutP_all hp
  have tot : ∀ was : Nat, was ≤ totN T n → nI (totN T n) - nI was + nI (s + m) - nI s = nI (totN T n - was + m) := fun was hw => by
    rw [nI_sub hw, nI_add, nI_sub (by omega), show totN T n - was + (s + m) - s = totN T n - was + m by omega]
  simp only [pc194_0, pc194_0n, pc194_1, pc194_1n, pc194_2, pc194_5, px_op_some, px_kv_ap, px_ki_ap, px_kl_ap, px_kn_ap, px_kh_ap, px_op_none, px_K_some, px_K_none, px_K_thr, px_kill, ↓reduceIte, if_true, if_false, true_and, and_true, px_gf, h6, mf_32, hv2, hcls]
  refine m_entryOf h6 hv (by omega) w (fun i hi => hi) pt (pth_rng hp) (by omega) (Nat.le_refl _) (fun x hx => ?_)
  rw [cutp] at hx
  rcases hx with ⟨i, i1, i2, rfl⟩ | ⟨no, rfl⟩
  · have ng : ¬ nI i < 0 := nI_pos (by omega)
    have ge : (0 : Int32) ≤ nI i := nI_pos' (by omega)
    have w' := w
    obtain ⟨P, LN, K, Z, C, ⟨a1, a2, a3, a4, a5⟩, w2⟩ := w'
    obtain ⟨e82, oki, r1, r2, r3, r4, r5⟩ := w2 i i1
    have ie : px_in (nI i) 82 = true := px_inb e82 (by decide)
    have ce : (nI i).toNatClampNeg = i := nI_clamp (by omega)
    by_cases k1 : eK (T i) = 1
    · have e1 : nI (eK (T i)) = 1 := by rw [k1]; rfl
      simp only [px_K_some, pc194_8, pc194_9, pc194_10, pc194_13, pc194_13n, pc194_14, pc194_17, pc194_18, pc194_19, pc194_20, pc194_23, pc194_33, pc194_33n, pc194_34, pc194_35, px_op_some, px_kv_ap, px_ki_ap, px_kl_ap, px_kn_ap, px_kh_ap, px_op_none, px_K_some, px_K_none, px_K_thr, px_kill, ↓reduceIte, if_true, if_false, true_and, and_true, px_gf, px_ai, px_kill, ng, h6, mf_23, a3, ie, ce, r2, e1, tg_i1, and_self, not_true_eq_false, hcls]
      refine m_fail (x := 3) h6 hf ?_
      simp only [px_K_none, pc194_38]
      exact hQ0 3 (.inl ⟨.inl ⟨i, i1, i2, k1⟩, rfl⟩)
    · have e1 : ¬ nI (eK (T i)) = 1 := fun z => k1 ((nI_eq (b := 1) (by rcases oki.2 with ⟨z, -⟩ | ⟨z, -⟩ <;> omega) (by decide)).mp z)
      simp only [px_K_some, pc194_8, pc194_9, pc194_10, pc194_13, pc194_13n, pc194_14, pc194_17, pc194_18, pc194_19, pc194_20, pc194_39, pc194_40, pc194_43, pc194_43n, pc194_44, pc194_47, pc194_48, pc194_49, pc194_52, pc194_53, pc194_55, pc194_55n, pc194_56, px_op_some, px_kv_ap, px_ki_ap, px_kl_ap, px_kn_ap, px_kh_ap, px_op_none, px_K_some, px_K_none, px_K_thr, px_kill, ↓reduceIte, if_true, if_false, true_and, and_true, px_gf, px_ai, px_kill, ng, h6, mf_23, mf_24, a3, a4, ie, ce, r2, r3, e1, tg_i1, and_self, not_false_eq_true, hcls]
      refine m_total h6 hv (by omega) w (fun i hi => hi) ?_
      have tt := tot (eN (T i)) (hb i i1)
      by_cases big : totN T n - eN (T i) + m ≤ 1000
      · have le : ¬ 1000 < nI (totN T n - eN (T i) + m) := nI_nlt (a := 1000) big (by decide)
        simp only [px_K_some, pc194_59, pc194_61, pc194_62, pc194_63, pc194_64, pc194_65, pc194_66, pc194_69, pc194_72, pc194_73, pc194_91, pc194_91n, pc194_92, px_op_some, px_kv_ap, px_ki_ap, px_kl_ap, px_kn_ap, px_kh_ap, px_op_none, px_K_some, px_K_none, px_K_thr, px_kill, ↓reduceIte, if_true, if_false, true_and, and_true, tt, le, ge, hcls]
        refine m_make_old h6 hv hv2 (by omega) w (fun i hi => hi) srt i1 i2 pt hp ?_
        simp only [px_K_some, pc194_95, px_op_some, px_kv_ap, px_ki_ap, px_kl_ap, px_kn_ap, px_kh_ap, px_op_none, px_K_some, px_K_none, px_K_thr, px_kill, ↓reduceIte, if_true, if_false, true_and, and_true, px_kill]
        refine m_put_t h6 hX w i1 (by omega) hs hc (fun h' w3 fr sh => ?_)
        have li : eL (T i) = l := pth_len oki.1 (by rw [i2]; exact hp)
        rw [li, i2] at w3
        exact hQ1 i h' i1 i2 k1 big w3 (frm_at fr (by unfold mEA; omega) h6) (frm_mono fr (fun r hr => .inl hr)) sh
      · have lt : 1000 < nI (totN T n - eN (T i) + m) := (nI_ltI (a := 1000) (by decide) (by omega)).mpr (by omega)
        simp only [px_K_some, pc194_59, pc194_61, pc194_62, pc194_63, pc194_64, pc194_65, pc194_66, pc194_69, pc194_85, pc194_85n, pc194_86, pc194_87, px_op_some, px_kv_ap, px_ki_ap, px_kl_ap, px_kn_ap, px_kh_ap, px_op_none, px_K_some, px_K_none, px_K_thr, px_kill, ↓reduceIte, if_true, if_false, true_and, and_true, tt, lt, hcls]
        refine m_fail (x := 4) h6 hf ?_
        simp only [px_K_none, pc194_90]
        exact hQ0 4 (.inr (.inl ⟨⟨i, i1, i2, k1, by omega⟩, rfl⟩))
  · have nin : ¬ inT n T p := fun ⟨i, a, b⟩ => no i a b
    have lt0 : (-1 : Int32) < 0 := by decide
    have ge0 : ¬ (0 : Int32) ≤ -1 := by decide
    simp only [px_K_some, pc194_8, pc194_9, pc194_10, pc194_26, pc194_26n, pc194_27, px_op_some, px_kv_ap, px_ki_ap, px_kl_ap, px_kn_ap, px_kh_ap, px_op_none, px_K_some, px_K_none, px_K_thr, px_kill, ↓reduceIte, if_true, if_false, true_and, and_true, px_kill, lt0, hcls]
    refine m_hasPlace h6 hv hv2 (by omega) w (fun i hi => hi) srt pt hp (fun x hx => ?_)
    rcases hx with ⟨rfl, hx⟩ | ⟨rfl, hx⟩
    · simp only [px_K_some, pc194_30, pc194_39, pc194_40, pc194_43, pc194_43n, pc194_44, pc194_47, pc194_48, pc194_49, pc194_52, pc194_53, pc194_55, pc194_55n, pc194_56, px_op_some, px_kv_ap, px_ki_ap, px_kl_ap, px_kn_ap, px_kh_ap, px_op_none, px_K_some, px_K_none, px_K_thr, px_kill, ↓reduceIte, if_true, if_false, true_and, and_true, ne_1_0, not_false_eq_true, lt0, px_kill, hcls]
      refine m_total h6 hv (by omega) w (fun i hi => hi) ?_
      have tt := tot 0 (Nat.zero_le _)
      rw [nI_0, Nat.sub_zero] at tt
      by_cases big : totN T n + m ≤ 1000
      · have le : ¬ 1000 < nI (totN T n + m) := nI_nlt (a := 1000) big (by decide)
        by_cases n40 : n = 40
        · have e40 : nI n = 40 := by rw [n40]; rfl
          simp only [px_K_some, pc194_59, pc194_61, pc194_62, pc194_63, pc194_64, pc194_65, pc194_66, pc194_69, pc194_72, pc194_73, pc194_76, pc194_76n, pc194_77, pc194_80, pc194_82, pc194_85, pc194_85n, pc194_86, pc194_87, px_op_some, px_kv_ap, px_ki_ap, px_kl_ap, px_kn_ap, px_kh_ap, px_op_none, px_K_some, px_K_none, px_K_thr, px_kill, ↓reduceIte, if_true, if_false, true_and, and_true, px_gf, h6, mf_20, hv, tt, le, ge0, e40, not_true_eq_false, hcls]
          refine m_fail (x := 4) h6 hf ?_
          simp only [px_K_none, pc194_90]
          exact hQ0 4 (.inr (.inr ⟨⟨⟨nin, hx⟩, .inr n40⟩, rfl⟩))
        · have e40 : ¬ nI n = 40 := fun z => n40 ((nI_eq (b := 40) (by omega) (by decide)).mp z)
          simp only [px_K_some, pc194_59, pc194_61, pc194_62, pc194_63, pc194_64, pc194_65, pc194_66, pc194_69, pc194_72, pc194_73, pc194_76, pc194_76n, pc194_77, pc194_80, pc194_82, pc194_91, pc194_91n, pc194_92, px_op_some, px_kv_ap, px_ki_ap, px_kl_ap, px_kn_ap, px_kh_ap, px_op_none, px_K_some, px_K_none, px_K_thr, px_kill, ↓reduceIte, if_true, if_false, true_and, and_true, px_gf, h6, mf_20, hv, tt, le, ge0, e40, not_false_eq_true, hcls]
          refine m_make_new h6 hv hv2 (by omega) w (fun i hi => hi) srt no pt hp (fun k h' g w' m' fr sh => ?_)
          have gk := g.1
          have hX' : h'.2[654]? = some (.inr (1, 9000, .inl X)) := frm_at fr (by unfold mEB mEA; omega) hX
          simp only [px_K_some, pc194_95, px_op_some, px_kv_ap, px_ki_ap, px_kl_ap, px_kn_ap, px_kh_ap, px_op_none, px_K_some, px_K_none, px_K_thr, px_kill, ↓reduceIte, if_true, if_false, true_and, and_true, px_kill]
          refine m_put_t (e := k) m' hX' w' (by omega) (by omega) hs hc (fun h3 w3 fr3 sh3 => ?_)
          rw [up_same, up_up] at w3
          refine hQ2 k h3 _ nin hx big n40 g (mtE_mono w3 (fun i hi => ⟨by omega, ins_shift gk hi⟩)) (frm_at fr3 (by unfold mEA; omega) m') (up_same _ _ _) (fun j hj => up_ne hj) (frm_trans fr (frm_mono fr3 (fun r hr => .inl hr))) (fun z => sh3 (sh z))
      · have lt : 1000 < nI (totN T n + m) := (nI_ltI (a := 1000) (by decide) (by omega)).mpr (by omega)
        simp only [px_K_some, pc194_59, pc194_61, pc194_62, pc194_63, pc194_64, pc194_65, pc194_66, pc194_69, pc194_85, pc194_85n, pc194_86, pc194_87, px_op_some, px_kv_ap, px_ki_ap, px_kl_ap, px_kn_ap, px_kh_ap, px_op_none, px_K_some, px_K_none, px_K_thr, px_kill, ↓reduceIte, if_true, if_false, true_and, and_true, tt, lt, hcls]
        refine m_fail (x := 4) h6 hf ?_
        simp only [px_K_none, pc194_90]
        exact hQ0 4 (.inr (.inr ⟨⟨⟨nin, hx⟩, .inl (by omega)⟩, rfl⟩))
    · simp only [px_K_some, pc194_30, pc194_33, pc194_33n, pc194_34, pc194_35, px_op_some, px_kv_ap, px_ki_ap, px_kl_ap, px_kn_ap, px_kh_ap, px_op_none, px_K_some, px_K_none, px_K_thr, px_kill, ↓reduceIte, if_true, if_false, true_and, and_true, not_true_eq_false, hcls]
      refine m_fail (x := 3) h6 hf ?_
      simp only [px_K_none, pc194_38]
      exact hQ0 3 (.inl ⟨.inr ⟨nin, hx⟩, rfl⟩)
end MPUT
