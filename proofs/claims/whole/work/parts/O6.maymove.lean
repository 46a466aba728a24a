/-! WHETHER A PART MAY BE MOVED, the reference's -/
section MAYMOVE
variable {sx : Nat × (Nat → Int32)} {h : px_H} {n l l2 : Nat} {V : Nat → Int32} {T : Nat → aE} {p p2 : Nat → Nat} {Q : px_O → px_H → Prop}
set_option maxRecDepth 16384 in
theorem m_names0 {A NA : Nat} {f : Nat → Int32} (hA : h.2[A]? = some (.inr (1, NA, .inl f))) (hN : NA ≤ 100000) (ha : l ≤ NA) (hl : l ≤ 1000) (hf : ∀ j, j < l → f j = nI (p j) ∧ p j < 1000) (hQ : Q (.inl (some (.int (nI (scn p 0 l).1)))) h) : px_Wp sx 204 0 [some (.ref A), some (.int 0), some (.int (nI l)), none, none] [] h Q := by
  have := m_namesIn (sx := sx) (h := h) (A := A) (NA := NA) (f := f) (a := 0) (l := l) (p := p) (Q := Q) hA hN (by omega) hl (fun j hj => by rw [Nat.zero_add]; exact hf j hj) hQ
  rw [Nat.zero_add] at this
  exact this
set_option maxRecDepth 16384 in
theorem pth_1000 {j : Nat} (hp : pth p l) (hj : j < l) : p j < 1000 := by have := pth_pos hp hj; omega
set_option maxRecDepth 16384 in
theorem m_staysShort (h6 : h.2[619]? = some (.inl (11, modF V))) (hv : V 20 = nI n) (hv2 : V 32 = nI l) (hv4 : V 34 = nI l2) (hn : n ≤ 80) (w : mtE h (fun i => i < n) T) (pt : mpt h p l) (hp : pth p l) (po : mpo h p2 l2) (hp2 : pth p2 l2)
    (hQ : ∀ x, says x (∀ i, i < n → blw p l (eP (T i)) → (scn (eP (T i)) 0 (eL (T i))).1 + (scn p2 0 l2).1 ≤ 4 + (scn p 0 l).1) → Q (.inl (some (.int x))) h) :
    px_Wp sx 203 0 [some (.ref 619), none, none, none] [] h Q := by
  have hcls : px_cls h 619 = some 11 := by unfold px_cls; rw [h6]
  have l35 := hp.2.1
  have l235 := hp2.2.1
  have nl := scn_le (B := p) (f := 0) l
  have nl2 := scn_le (B := p2) (f := 0) l2
  obtain ⟨g, g1, g2⟩ := id pt
  obtain ⟨g', g1', g2'⟩ := id po
  have w' := w
  obtain ⟨P, LN, K, Z, C, ⟨a1, a2, a3, a4, a5⟩, w2⟩ := w'
  have lp : ∀ d i, i + d = n → ∀ x, says x (∀ j, j < i → blw p l (eP (T j)) → (scn (eP (T j)) 0 (eL (T j))).1 + (scn p2 0 l2).1 ≤ 4 + (scn p 0 l).1) → px_Wp sx 203 30 [some (.ref 619), some (.int x), some (.int (nI (scn p2 0 l2).1 - nI (scn p 0 l).1)), some (.int (nI i))] [] h Q := by
    intro d
    induction d with
    | zero =>
      intro i hi x sa
      have hi : i = n := by omega
      subst hi
      have le : nI i ≤ nI i := Int32.le_refl _
      have nx : narrow .boolean (.int x) = .int x := by rcases sa with ⟨rfl, -⟩ | ⟨rfl, -⟩; exact of_eq_true nar_1; exact of_eq_true nar_0
      simp only [pc203_30, pc203_31, pc203_31n, pc203_32, pc203_35, pc203_94, pc203_95, px_op_some, px_kv_ap, px_ki_ap, px_kl_ap, px_kn_ap, px_kh_ap, px_op_none, px_K_some, px_K_none, px_K_thr, px_kill, ↓reduceIte, if_true, if_false, true_and, and_true, px_gf, h6, mf_20, hv, le, nx]
      exact hQ x sa
    | succ d ih =>
      intro i hi x sa
      have ge : ¬ nI n ≤ nI i := nI_ge (by omega) (by omega)
      obtain ⟨i82, oki, r1, r2, r3, r4, r5⟩ := w2 i (by omega)
      have i35 := oki.1.2.1
      have ii : px_in (nI i) 82 = true := px_inb i82 (by decide)
      have ci : (nI i).toNatClampNeg = i := nI_clamp (by omega)
      have ni := scn_le (B := eP (T i)) (f := 0) (eL (T i))
      have nmi := nm_ge (a := (scn (eP (T i)) 0 (eL (T i))).1) (b := (scn p2 0 l2).1) (c := (scn p 0 l).1) (by omega) (by omega) (by omega)
      rcases sa with ⟨rfl, sa⟩ | ⟨rfl, sa⟩
      · rw [pc203_30]
        simp only [pc203_31, pc203_31n, pc203_32, pc203_35, pc203_38, pc203_39, pc203_42, pc203_42n, pc203_43, pc203_44, pc203_44n, pc203_45, pc203_48, px_op_some, px_kv_ap, px_ki_ap, px_kl_ap, px_kn_ap, px_kh_ap, px_op_none, px_K_some, px_K_none, px_K_thr, px_kill, ↓reduceIte, if_true, if_false, true_and, and_true, px_gf, h6, mf_20, mf_32, hv, hv2, ge, ne_1_0, hcls]
        refine m_isBelow h6 w (by omega) pt hp (fun y hy => ?_)
        rcases hy with ⟨rfl, hy⟩ | ⟨rfl, hy⟩
        · simp only [px_K_some, pc203_51, pc203_54, pc203_54n, pc203_55, pc203_58, pc203_60, pc203_61, pc203_62, pc203_64, pc203_65, pc203_66, pc203_66n, pc203_67, pc203_70, pc203_71, pc203_72, pc203_73, px_op_some, px_kv_ap, px_ki_ap, px_kl_ap, px_kn_ap, px_kh_ap, px_op_none, px_K_some, px_K_none, px_K_thr, px_kill, ↓reduceIte, if_true, if_false, true_and, and_true, px_gf, px_ai, h6, mf_21, mf_22, a2, ii, ci, r1, mul_36, nI_add, ne_1_0, tg_i1, and_self]
          refine m_namesIn a1 (by decide) (by omega) (by omega) (fun j hj => ⟨r4 j hj, pth_1000 oki.1 hj⟩) ?_
          by_cases z : (scn (eP (T i)) 0 (eL (T i))).1 + (scn p2 0 l2).1 ≤ 4 + (scn p 0 l).1
          · have le : ¬ 5 ≤ nI (scn (eP (T i)) 0 (eL (T i))).1 + (nI (scn p2 0 l2).1 - nI (scn p 0 l).1) := fun q => nmi.mp q z
            simp only [px_K_some, pc203_76, pc203_77, pc203_78, pc203_79, pc203_82, pc203_83, pc203_86, pc203_87, pc203_88, pc203_91, le, if_false, nI_p1, px_kill]
            refine ih (i + 1) (by omega) 1 (.inl ⟨rfl, fun j hj b => ?_⟩)
            by_cases y : j = i
            · subst y; exact z
            · exact sa j (by omega) b
          · have le : 5 ≤ nI (scn (eP (T i)) 0 (eL (T i))).1 + (nI (scn p2 0 l2).1 - nI (scn p 0 l).1) := nmi.mpr z
            simp only [px_K_some, pc203_76, pc203_77, pc203_78, pc203_79, pc203_82, pc203_83, pc203_86, pc203_87, pc203_88, pc203_91, le, if_true, nI_p1, px_kill]
            exact ih (i + 1) (by omega) 0 (.inr ⟨rfl, fun q => z (q i (by omega) hy)⟩)
        · simp only [px_K_some, pc203_51, pc203_82, pc203_83, pc203_86, pc203_87, pc203_88, pc203_91, if_true, nI_p1, px_kill]
          refine ih (i + 1) (by omega) 1 (.inl ⟨rfl, fun j hj b => ?_⟩)
          by_cases y : j = i
          · subst y; exact absurd b hy
          · exact sa j (by omega) b
      · rw [pc203_30]
        simp only [pc203_31, pc203_31n, pc203_32, pc203_35, pc203_38, pc203_39, pc203_86, pc203_87, pc203_88, pc203_91, px_op_some, px_kv_ap, px_ki_ap, px_kl_ap, px_kn_ap, px_kh_ap, px_op_none, px_K_some, px_K_none, px_K_thr, px_kill, ↓reduceIte, if_true, if_false, true_and, and_true, px_gf, h6, mf_20, hv, ge, nI_p1, px_kill]
        exact ih (i + 1) (by omega) 0 (.inr ⟨rfl, fun q => sa (fun j hj b => q j (by omega) b)⟩)
  simp only [pc203_0, pc203_1, pc203_2, pc203_2n, pc203_3, pc203_6, pc203_7, pc203_7n, pc203_8, pc203_11, px_op_some, px_kv_ap, px_ki_ap, px_kl_ap, px_kn_ap, px_kh_ap, px_op_none, px_K_some, px_K_none, px_K_thr, px_kill, ↓reduceIte, if_true, if_false, true_and, and_true, px_gf, h6, mf_34, mf_35, hv4, px_kill]
  refine m_names0 (p := p2) g1' (by decide) (by omega) (by omega) (fun j hj => ⟨g2' j hj, pth_1000 hp2 hj⟩) ?_
  simp only [px_K_some, pc203_14, pc203_14n, pc203_15, pc203_18, pc203_19, pc203_19n, pc203_20, pc203_23, px_op_some, px_kv_ap, px_ki_ap, px_kl_ap, px_kn_ap, px_kh_ap, px_op_none, px_K_some, px_K_none, px_K_thr, px_kill, ↓reduceIte, if_true, if_false, true_and, and_true, px_gf, h6, mf_32, mf_33, hv2]
  refine m_names0 (p := p) g1 (by decide) (by omega) (by omega) (fun j hj => ⟨g2 j hj, pth_1000 hp hj⟩) ?_
  simp only [px_K_some, pc203_26, pc203_27, pc203_28, pc203_29, px_kill]
  exact lp n 0 (by omega) 1 (.inl ⟨rfl, fun j hj => absurd hj (Nat.not_lt_zero j)⟩)
set_option maxRecDepth 16384 in
theorem m_mayMove (h6 : h.2[619]? = some (.inl (11, modF V))) (hv : V 20 = nI n) (hv2 : V 32 = nI l) (hv4 : V 34 = nI l2) (hn : n ≤ 80) (ok : tOK n T) (w : mtE h (fun i => i < n) T) (pt : mpt h p l) (hp : pth p l) (po : mpo h p2 l2) (hp2 : pth p2 l2) (q2 : pathAt p2 0 l2)
    (hQ : ∀ x h1, says x (mvP n T p l p2 l2) → h1.2[619]? = some (.inl (11, modF V)) → mpt h1 p l → mpo h1 p2 l2 → frm swA h h1 → (shape h → shape h1) → Q (.inl (some (.int x))) h1) :
    px_Wp sx 202 0 [some (.ref 619), none, none] [] h Q := by
  have hcls : px_cls h 619 = some 11 := by unfold px_cls; rw [h6]
  have l35 := hp.2.1
  have l235 := hp2.2.1
  obtain ⟨g, g1, g2⟩ := id pt
  obtain ⟨g', g1', g2'⟩ := id po
  have neg : (-1 : Int32) < 0 := by decide
  have neg' : ¬ (0 : Int32) ≤ -1 := by decide
  have v20 : swV V l l2 20 = nI n := by unfold swV; rw [up_ne (by decide), up_ne (by decide)]; exact hv
  have v32 : swV V l l2 32 = nI l2 := by unfold swV; rw [up_ne (by decide), up_same]
  have v34 : swV V l l2 34 = nI l := by unfold swV; rw [up_same]
  -- the last swap
  have p3 : ∀ x2 x1 xb h1, says x2 (mvP n T p l p2 l2) → h1.2[619]? = some (.inl (11, modF (swV V l l2))) → mpt h1 p2 l2 → mpo h1 p l → frm swA h h1 → (shape h → shape h1) → px_Wp sx 202 115 [some (.ref 619), some (.int xb), some (.int x1)] [.int x2] h1 Q := fun x2 x1 xb h1 sa c6 ct co fr sh => by
    have hc1 : px_cls h1 619 = some 11 := by unfold px_cls; rw [c6]
    simp only [pc202_115, pc202_116, pc202_116n, pc202_117, hc1, true_and, px_kill]
    refine m_swap c6 v32 v34 ct co (by omega) (by omega) (fun h2 d6 dt do_ fr2 sh2 => ?_)
    rw [swV_2 hv2 hv4] at d6
    have nx : narrow .boolean (.int x2) = .int x2 := by rcases sa with ⟨rfl, -⟩ | ⟨rfl, -⟩; exact of_eq_true nar_1; exact of_eq_true nar_0
    simp only [px_K_none, pc202_120, pc202_121, nx]
    exact hQ x2 h2 sa d6 dt do_ (frm_trans fr fr2) (fun s => sh2 (sh s))
  -- behind the first half
  have p2_ : ∀ x1 xb, says x1 (inT n T p ∧ ¬ blw p l p2 ∧ ∀ i, i < n → blw p l (eP (T i)) → (scn (eP (T i)) 0 (eL (T i))).1 + (scn p2 0 l2).1 ≤ 4 + (scn p 0 l).1) → px_Wp sx 202 83 [some (.ref 619), some (.int xb), none] [.int x1] h Q := fun x1 xb sa => by
    simp only [pc202_83, pc202_84, pc202_84n, pc202_85, hcls, true_and, px_kill]
    refine m_swap h6 hv2 hv4 pt po (by omega) (by omega) (fun h1 c6 ct co fr sh => ?_)
    have hc1 : px_cls h1 619 = some 11 := by unfold px_cls; rw [c6]
    have w1 : mtE h1 (fun i => i < n) T := mtE_frm w (fun r hr => by unfold mEA at hr; exact fr.2.2 r (by unfold swA; omega))
    rcases sa with ⟨rfl, sa⟩ | ⟨rfl, sa⟩
    · simp only [px_K_none, pc202_88, pc202_89, pc202_92, pc202_92n, pc202_93, pc202_93n, pc202_94, pc202_97, px_op_some, px_kv_ap, px_ki_ap, px_kl_ap, px_kn_ap, px_kh_ap, px_op_none, px_K_some, px_K_none, px_K_thr, px_kill, ↓reduceIte, if_true, if_false, true_and, and_true, px_gf, c6, mf_32, v32, ne_1_0, hc1]
      refine m_entryOf c6 v20 (by omega) w1 (fun i hi => hi) ct (pth_rng hp2) (by omega) (Nat.le_refl _) (fun y hy => ?_)
      rw [cutP_all hp2] at hy
      rcases hy with ⟨i, i1, i2, rfl⟩ | ⟨i1, rfl⟩
      · have pi : (0 : Int32) ≤ nI i := nI_pos' (by omega)
        simp only [px_K_some, pc202_100, pc202_114, pi, if_true]
        exact p3 0 1 xb h1 (.inr ⟨rfl, fun z => z.2.1 ⟨i, i1, i2⟩⟩) c6 ct co fr sh
      · simp only [px_K_some, pc202_100, pc202_103, pc202_103n, pc202_104, neg', if_false, hc1, true_and]
        refine m_hasPlace c6 v20 v32 (by omega) w1 (fun i hi => hi) ok.2.2.1 ct hp2 (fun y hy => ?_)
        rcases hy with ⟨rfl, hy⟩ | ⟨rfl, hy⟩
        · simp only [px_K_some, pc202_107, pc202_110, pc202_111, ne_1_0, if_false]
          refine p3 1 1 xb h1 (.inl ⟨rfl, sa.1, fun ⟨i, z1, z2⟩ => i1 i z1 z2, sa.2.1, hy, fun i hi m => ?_⟩) c6 ct co fr sh
          rcases m with m | m
          · have : eL (T i) = l := pth_len (by rw [← m]; exact (ok.2.1 i hi).1) hp
            rw [m, this]
            have := q2.2.2
            omega
          · exact sa.2.2 i hi m
        · simp only [px_K_some, pc202_107, pc202_114, if_true]
          exact p3 0 1 xb h1 (.inr ⟨rfl, fun z => hy z.2.2.2.1⟩) c6 ct co fr sh
    · simp only [px_K_none, pc202_88, pc202_89, pc202_114, if_true]
      exact p3 0 0 xb h1 (.inr ⟨rfl, fun z => sa ⟨z.1, z.2.2.1, fun i hi b => z.2.2.2.2 i hi (.inr b)⟩⟩) c6 ct co fr sh
  -- behind 'below'
  have p1 : ∀ xb, says xb (blw p l p2) → px_Wp sx 202 55 [some (.ref 619), none, none] [.int xb] h Q := fun xb sb => by
    simp only [pc202_55, pc202_56, pc202_56n, pc202_57, pc202_57n, pc202_58, pc202_61, px_op_some, px_kv_ap, px_ki_ap, px_kl_ap, px_kn_ap, px_kh_ap, px_op_none, px_K_some, px_K_none, px_K_thr, px_kill, ↓reduceIte, if_true, if_false, true_and, and_true, px_gf, h6, mf_32, hv2, hcls, px_kill]
    refine m_entryOf h6 hv (by omega) w (fun i hi => hi) pt (pth_rng hp) (by omega) (Nat.le_refl _) (fun y hy => ?_)
    rw [cutP_all hp] at hy
    rcases hy with ⟨i, i1, i2, rfl⟩ | ⟨i1, rfl⟩
    · have pi : ¬ nI i < 0 := nI_pos (by omega)
      rcases sb with ⟨rfl, sb⟩ | ⟨rfl, sb⟩
      · simp only [px_K_some, pc202_64, pc202_67, pc202_68, pc202_82, pi, if_false, ne_1_0, not_false_eq_true, if_true]
        exact p2_ 0 1 (.inr ⟨rfl, fun z => z.2.1 sb⟩)
      · simp only [px_K_some, pc202_64, pc202_67, pc202_68, pc202_71, pc202_71n, pc202_72, pi, if_false, not_true_eq_false, hcls, true_and]
        refine m_staysShort h6 hv hv2 hv4 hn w pt hp po hp2 (fun y hy => ?_)
        rcases hy with ⟨rfl, hy⟩ | ⟨rfl, hy⟩
        · simp only [px_K_some, pc202_75, pc202_78, pc202_79, ne_1_0, if_false]
          exact p2_ 1 0 (.inl ⟨rfl, ⟨i, i1, i2⟩, sb, hy⟩)
        · simp only [px_K_some, pc202_75, pc202_82, if_true]
          exact p2_ 0 0 (.inr ⟨rfl, fun z => hy z.2.2⟩)
    · simp only [px_K_some, pc202_64, pc202_82, neg, if_true]
      exact p2_ 0 xb (.inr ⟨rfl, fun z => by obtain ⟨i, z1, z2⟩ := z.1; exact i1 i z1 z2⟩)
  by_cases x : l2 ≤ l
  · have le : nI l2 ≤ nI l := nI_le (by omega) (by omega)
    simp only [pc202_0, pc202_0n, pc202_1, pc202_4, pc202_4n, pc202_5, pc202_8, pc202_54, px_op_some, px_kv_ap, px_ki_ap, px_kl_ap, px_kn_ap, px_kh_ap, px_op_none, px_K_some, px_K_none, px_K_thr, px_kill, ↓reduceIte, if_true, if_false, true_and, and_true, px_gf, h6, mf_32, mf_34, hv2, hv4, le]
    refine p1 0 (.inr ⟨rfl, fun z => ?_⟩)
    have := z.2
    rw [hp2.2.2.2.1 l x] at this
    omega
  · have le : ¬ nI l2 ≤ nI l := nI_ge (by omega) (by omega)
    have il : px_in (nI l) 240 = true := px_inb (by omega) (by decide)
    have cl : (nI l).toNatClampNeg = l := nI_clamp (by omega)
    have gl := g2' l (by omega)
    have pl := pth_pos hp2 (show l < l2 by omega)
    by_cases y : p2 l = 47
    · have e47 : nI (p2 l) = 47 := by rw [y]; rfl
      simp only [pc202_0, pc202_0n, pc202_1, pc202_4, pc202_4n, pc202_5, pc202_8, pc202_11, pc202_11n, pc202_12, pc202_15, pc202_15n, pc202_16, pc202_19, pc202_20, pc202_22, pc202_25, pc202_25n, pc202_26, pc202_26n, pc202_27, pc202_30, pc202_31, pc202_31n, pc202_32, pc202_35, pc202_35n, pc202_36, pc202_39, pc202_40, pc202_40n, pc202_41, pc202_44, px_op_some, px_kv_ap, px_ki_ap, px_kl_ap, px_kn_ap, px_kh_ap, px_op_none, px_K_some, px_K_none, px_K_thr, px_kill, ↓reduceIte, if_true, if_false, true_and, and_true, px_gf, px_ai, h6, mf_32, mf_33, mf_34, mf_35, hv2, hv4, le, g1', il, cl, gl, e47, not_true_eq_false, tg_i1, and_self, hcls]
      refine m_compare (a := 0) (b := 0) (p := cutP p2 l) (q := p) g1' g1 (by decide) (by decide) (by omega) (by omega) (sgs_cut (pth_rng hp2) (by omega)) (pth_rng hp) (fun j hj => by rw [Nat.zero_add, cutP_lt hj]; exact g2' j (by omega)) (fun j hj => by rw [Nat.zero_add]; exact g2 j hj) (fun v hv' => ?_)
      rcases hv' with ⟨rfl, ev⟩ | ev
      · simp only [px_K_some, pc202_47, pc202_50, pc202_51, not_true_eq_false, if_false]
        exact p1 1 (.inl ⟨rfl, fun j hj => by rw [← ev, cutP_lt hj], y⟩)
      · have nv : ¬ v = 0 := fun z => by
          subst z
          rcases ev with ⟨y1, -⟩ | ⟨y1, -⟩ <;> exact Int32.lt_irrefl y1
        simp only [px_K_some, pc202_47, pc202_54, nv, not_false_eq_true, if_true]
        refine p1 0 (.inr ⟨rfl, fun z => ?_⟩)
        have : cutP p2 l = p := funext fun j => by
          by_cases u : j < l
          · rw [cutP_lt u]; exact z.1 j u
          · rw [cutP_ge (by omega), hp.2.2.2.1 j (by omega)]
        rw [this] at ev
        rcases ev with ⟨-, y1⟩ | ⟨-, y1⟩ <;> exact plt_irr _ y1
    · have e47 : ¬ nI (p2 l) = 47 := fun z => y ((nI_eq (b := 47) (by omega) (by decide)).mp z)
      simp only [pc202_0, pc202_0n, pc202_1, pc202_4, pc202_4n, pc202_5, pc202_8, pc202_11, pc202_11n, pc202_12, pc202_15, pc202_15n, pc202_16, pc202_19, pc202_20, pc202_22, pc202_54, px_op_some, px_kv_ap, px_ki_ap, px_kl_ap, px_kn_ap, px_kh_ap, px_op_none, px_K_some, px_K_none, px_K_thr, px_kill, ↓reduceIte, if_true, if_false, true_and, and_true, px_gf, px_ai, h6, mf_32, mf_34, mf_35, hv2, hv4, le, g1', il, cl, gl, e47, not_false_eq_true, tg_i1, and_self]
      exact p1 0 (.inr ⟨rfl, fun z => y z.2⟩)
end MAYMOVE
