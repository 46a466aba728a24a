/-! A BUILD, the reference's: all lines, and the end -/
section MBUILD
variable {sx : Nat × (Nat → Int32)} {h : px_H} {q n j : Nat} {S : yS} {m : aM} {V g : Nat → Int32} {B : Nat → Nat} {IM : Nat → aM} {Q : px_O → px_H → Prop}
/-- how the reference stands; la = 0: no line has been read -/
def rX (la : Nat) (h : px_H) (q : Nat) (S : yS) (m : aM) (V : Nat → Int32) : Prop := shape h ∧ RY h q S ∧ (la ≠ 0 → imR h V m) ∧ h.2[619]? = some (.inl (11, modF V))
/-- the last line's number -/
def laI (la : Nat) : Int32 := if la = 0 then -1 else nI (la - 1)
set_option maxRecDepth 16384 in
theorem laI_0 : laI 0 = -1 := if_pos rfl
set_option maxRecDepth 16384 in
theorem laI_s {a : Nat} : laI (a + 1) = nI a := by unfold laI; rw [if_neg (Nat.succ_ne_zero _), Nat.add_sub_cancel]
/-- behind all lines -/
def enV (R : aR) (h : px_H) (q : Nat) (V : Nat → Int32) : Prop := rX R.2.1 h q R.2.2.1 R.2.2.2.1 V ∧ yOK R.2.2.1 ∧ (R.1 = 0 → R.2.1 ≠ 0 → bOK R.2.2.1 R.2.2.2.1) ∧ R.1 ≤ 5 ∧ R.2.1 < 1000 ∧ V 43 = nI R.1 ∧ (R.1 ≠ 0 → R.2.1 ≠ 0) ∧ V 45 = nI R.2.2.2.2.1 ∧ V 46 = nI R.2.2.2.2.2
set_option maxRecDepth 16384 in
theorem m_lines (hq : q < 2) (td : tdS S IM) (hn : n ≤ 600) {hb : px_H} {Vb : Nat → Int32} (hAb : hb.2[620]? = some (.inr (1, 600, .inl g))) (hB : txM g n B) (Sb : yS) (eSb : Sb = S) (hv2 : Vb 2 = nI n) :
    ∀ d p nr la S1 m (V : Nat → Int32) st hi h l6, n + 1 - p < d → p ≤ n + 1 → nr ≤ p → la ≤ nr → rX la h q S1 m V → yOK S1 → (la = 0 ∨ bOK S1 m) → (la = 0 → S1 = Sb) → V 43 = 0 → V 45 = nI st → V 46 = nI hi → V 2 = Vb 2 → (V 44 = Vb 44 ∧ V 0 = Vb 0) → rOth hb h q → frm rlA hb h →
      (∀ R h' (V' : Nat → Int32) p' nr' l6', bdR IM B n d p nr la S1 m st hi R → enV R h' q V' → V' 2 = Vb 2 → (V' 44 = Vb 44 ∧ V' 0 = Vb 0) → rOth hb h' q → frm rlA hb h' → px_Wp sx 147 146 [some (.ref 619), some (.int (nI q)), some (.int (nI j)), some (.int (laI R.2.1)), some (.int (nI p')), some (.int (nI nr')), l6', none] [] h' Q) →
      px_Wp sx 147 52 [some (.ref 619), some (.int (nI q)), some (.int (nI j)), some (.int (laI la)), some (.int (nI p)), some (.int (nI nr)), l6, none] [] h Q := by
  subst eSb
  have hB' : ∀ j, j < n → B j < 256 := fun j hj => (hB j hj).2
  intro d
  induction d with
  | zero => intro p nr la S1 m V st hi h l6 hd; omega
  | succ d ih =>
    intro p nr la S1 m V st hi h l6 hd pn nrp lan rx oy ok eS v43 v45 v46 v2 v44 ot fr hQ
    obtain ⟨hS, ry, im, h6⟩ := id rx
    have hcls : px_cls h 619 = some 11 := by unfold px_cls; rw [h6]
    have v2n : V 2 = nI n := v2.trans hv2
    have hA : h.2[620]? = some (.inr (1, 600, .inl g)) := frm_at fr (by unfold rlA; omega) hAb
    by_cases big : n ≤ p
    · have le : nI n ≤ nI p := nI_le big (by omega)
      simp only [pc147_52, pc147_54, pc147_54n, pc147_55, pc147_58, px_op_some, px_kv_ap, px_ki_ap, px_kl_ap, px_kn_ap, px_kh_ap, px_op_none, px_K_some, px_K_none, px_K_thr, px_kill, ↓reduceIte, if_true, if_false, true_and, and_true, px_gf, h6, mf_2, v2n, le]
      exact hQ (0, la, S1, m, st, hi) h V p nr l6 (.inl ⟨big, rfl⟩) ⟨rx, oy, fun _ z => ok.resolve_left z, Nat.zero_le _, by show la < 1000; omega, v43, fun z => absurd rfl z, v45, v46⟩ v2 v44 ot fr
    have ge : ¬ nI n ≤ nI p := nI_ge (by omega) (by omega)
    have rg := fnd_rng (B := B) (c := 10) (n - p) p
    -- behind the line
    have behind : ∀ h1 x S2 m2 a c (V' : Nat → Int32), p < fnd B 10 p (n - p) → liR IM B la S1 m p (fnd B 10 p (n - p)) x S2 m2 a c → rC h1 q S2 m2 V' → V' 43 = nI x → V' 45 = nI (st + a) → V' 46 = nI (hi + c) → V' 2 = Vb 2 → (V' 44 = Vb 44 ∧ V' 0 = Vb 0) → rOth hb h1 q → frm rlA hb h1 → px_Wp sx 147 131 [some (.ref 619), some (.int (nI q)), some (.int (nI j)), some (.int (laI la)), some (.int (nI p)), some (.int (nI nr)), some (.int (nI (fnd B 10 p (n - p)))), none] [] h1 Q := fun h1 x S2 m2 a c V' lt li rc e3 e5 e6 e2 e4 ot1 fr1 => by
      have lo := li_ok oy ok (fun z => by rw [eS z]; exact td) hB' (by omega) li
      have ls : nI nr = laI (nr + 1) := laI_s.symm
      obtain ⟨hS1, ry1, im1, c61⟩ := id rc
      by_cases x0 : x = 0
      · subst x0
        simp only [pc147_131, pc147_133, pc147_134, pc147_136, pc147_137, pc147_138, pc147_140, pc147_143, nI_p1, px_kill]
        rw [ls]
        exact ih (fnd B 10 p (n - p) + 1) (nr + 1) (nr + 1) S2 m2 V' (st + a) (hi + c) h1 _ (by omega) (by omega) (by omega) (Nat.le_refl _) ⟨hS1, ry1, fun _ => im1, c61⟩ lo.1 (.inr (lo.2.1 rfl)) (fun z => absurd z (Nat.succ_ne_zero _)) e3 e5 e6 e2 e4 ot1 fr1 (fun R h' V'' p' nr' l6' bd en => hQ R h' V'' p' nr' l6' (.inr ⟨by omega, .inr ⟨lt, 0, S2, m2, a, c, li, .inl ⟨rfl, bd⟩⟩⟩) en)
      · have nx : ¬ nI x = 0 := fun z => x0 ((nI_eq (b := 0) (by have := lo.2.2.1; omega) (by decide)).mp z)
        have fin := hQ (x, nr + 1, S2, m2, st + a, hi + c) h1 V' (fnd B 10 p (n - p) + 1) (nr + 1) (some (.int (nI (fnd B 10 p (n - p))))) (.inr ⟨by omega, .inr ⟨lt, x, S2, m2, a, c, li, .inr ⟨x0, rfl⟩⟩⟩) ⟨⟨hS1, ry1, fun _ => im1, c61⟩, lo.1, fun z => absurd z x0, lo.2.2.1, by show nr + 1 < 1000; omega, e3, fun _ => Nat.succ_ne_zero _, e5, e6⟩ e2 e4 ot1 fr1
        have v2n' : V' 2 = nI n := e2.trans hv2
        have fin : px_Wp sx 147 146 [some (.ref 619), some (.int (nI q)), some (.int (nI j)), some (.int (laI (nr + 1))), some (.int (nI (fnd B 10 p (n - p) + 1))), some (.int (nI (nr + 1))), some (.int (nI (fnd B 10 p (n - p)))), none] [] h1 Q := fin
        rw [← ls] at fin
        by_cases en : n ≤ fnd B 10 p (n - p) + 1
        · have le : nI n ≤ nI (fnd B 10 p (n - p) + 1) := nI_le en (by omega)
          simp only [pc147_131, pc147_133, pc147_134, pc147_136, pc147_137, pc147_138, pc147_140, pc147_143, pc147_52, pc147_54, pc147_54n, pc147_55, pc147_58, px_op_some, px_kv_ap, px_ki_ap, px_kl_ap, px_kn_ap, px_kh_ap, px_op_none, px_K_some, px_K_none, px_K_thr, px_kill, ↓reduceIte, if_true, if_false, true_and, and_true, px_gf, c61, mf_2, v2n', le, nI_p1, px_kill]
          exact fin
        · have le : ¬ nI n ≤ nI (fnd B 10 p (n - p) + 1) := nI_ge (by omega) (by omega)
          simp only [pc147_131, pc147_133, pc147_134, pc147_136, pc147_137, pc147_138, pc147_140, pc147_143, pc147_52, pc147_54, pc147_54n, pc147_55, pc147_58, pc147_61, pc147_61n, pc147_62, pc147_65, px_op_some, px_kv_ap, px_ki_ap, px_kl_ap, px_kn_ap, px_kh_ap, px_op_none, px_K_some, px_K_none, px_K_thr, px_kill, ↓reduceIte, if_true, if_false, true_and, and_true, px_gf, c61, mf_2, mf_43, v2n', e3, nx, le, not_false_eq_true, nI_p1, px_kill]
          exact fin
    -- the line
    have line : px_Wp sx 147 99 [some (.ref 619), some (.int (nI q)), some (.int (nI j)), some (.int (laI la)), some (.int (nI p)), some (.int (nI nr)), some (.int (nI (fnd B 10 p (n - p)))), none] [] h Q := by
      by_cases em : fnd B 10 p (n - p) = p
      · have le : nI (fnd B 10 p (n - p)) ≤ nI p := by rw [em]; exact Int32.le_refl _
        simp only [pc147_99, pc147_101, pc147_103, pc147_134, pc147_136, pc147_137, pc147_138, pc147_140, pc147_143, le, if_true, nI_p1, px_kill]
        rw [em]
        exact ih (p + 1) (nr + 1) la S1 m V st hi h _ (by omega) (by omega) (by omega) (by omega) rx oy ok eS v43 v45 v46 v2 v44 ot fr (fun R h' V'' p' nr' l6' bd en => hQ R h' V'' p' nr' l6' (.inr ⟨by omega, .inl ⟨em, bd⟩⟩) en)
      have lt : p < fnd B 10 p (n - p) := by omega
      have gt : ¬ nI (fnd B 10 p (n - p)) ≤ nI p := nI_ge lt (by omega)
      by_cases l0 : la = 0
      · have neg' : ¬ (0 : Int32) ≤ laI la := by rw [l0, laI_0]; decide
        simp only [pc147_99, pc147_101, pc147_103, pc147_106, pc147_107, pc147_110, pc147_110n, pc147_111, pc147_112, pc147_114, pc147_116, gt, neg', if_false, hcls, true_and]
        refine m_firstR hS h6 hq oy ry (by rw [eS l0]; exact td) hA hB hn lt (by omega) v43 (fun x m' V' h1 fm im1 e3 ve c61 fr1 hS1 => ?_)
        have ne1 : ∀ r, ¬ mtA r → h1.2[r]? = h.2[r]? := fr1.2.2
        simp only [px_K_none, pc147_119]
        refine behind h1 x S1 m' 0 0 V' lt (.inl ⟨l0, fm, rfl, rfl, rfl⟩) ⟨hS1, RY_frm ry (fun r x y => ne1 r (by unfold mtA; omega)), im1, c61⟩ e3 ?_ ?_ ?_ ?_ (fun q2 S2 a b c r2 => RY_frm (ot q2 S2 a b c r2) (fun r x y => ne1 r (by unfold mtA; omega))) (frm_trans fr (frm_mono fr1 (fun r hr => by unfold mtA at hr; unfold rlA; omega)))
        · rw [ve 45 (by decide) (by decide) (by decide) (by decide)]; exact v45
        · rw [ve 46 (by decide) (by decide) (by decide) (by decide)]; exact v46
        · rw [ve 2 (by decide) (by decide) (by decide) (by decide)]; exact v2
        · exact ⟨by rw [ve 44 (by decide) (by decide) (by decide) (by decide)]; exact v44.1, by rw [ve 0 (by decide) (by decide) (by decide) (by decide)]; exact v44.2⟩
      · have pos' : (0 : Int32) ≤ laI la := by unfold laI; rw [if_neg l0]; exact nI_pos' (by omega)
        simp only [pc147_99, pc147_101, pc147_103, pc147_106, pc147_107, pc147_122, pc147_122n, pc147_123, pc147_124, pc147_126, pc147_128, gt, pos', if_true, if_false, hcls, true_and]
        refine m_nextLine hq ⟨hS, ry, im l0, h6⟩ (ok.resolve_left l0) hA hB hn lt (by omega) v43 (fun h1 x S2 m2 a c V' nl rc lv ot1 fr1 => ?_)
        obtain ⟨s1, s2, s3, s4, s5, s0⟩ := lv
        rw [px_K_none]
        exact behind h1 x S2 m2 a c V' lt (.inr ⟨l0, nl⟩) rc s1 (by rw [s2, v45, nI_add]) (by rw [s3, v46, nI_add]) (s4.trans v2) ⟨s5.trans v44.1, s0.trans v44.2⟩ (fun q2 S2 a b c r2 => ot1 q2 S2 a b c (ot q2 S2 a b c r2)) (frm_trans fr fr1)
    have lQ : ∀ d k, k + d = n → p ≤ k → fnd B 10 k d = fnd B 10 p (n - p) → px_Wp sx 147 72 [some (.ref 619), some (.int (nI q)), some (.int (nI j)), some (.int (laI la)), some (.int (nI p)), some (.int (nI nr)), some (.int (nI k)), none] [] h Q := by
      intro d
      induction d with
      | zero =>
        intro k hk fk e
        have le : nI n ≤ nI k := nI_le (by omega) (by omega)
        have e : k = fnd B 10 p (n - p) := e
        simp only [pc147_72, pc147_74, pc147_74n, pc147_75, pc147_78, px_op_some, px_kv_ap, px_ki_ap, px_kl_ap, px_kn_ap, px_kh_ap, px_op_none, px_K_some, px_K_none, px_K_thr, px_kill, ↓reduceIte, if_true, if_false, true_and, and_true, px_gf, h6, mf_2, v2n, le]
        rw [e]
        exact line
      | succ d ih2 =>
        intro k hk fk e
        have ge : ¬ nI n ≤ nI k := nI_ge (by omega) (by omega)
        have z1 : px_in (nI k) 600 = true := px_inb (by omega) (by decide)
        have z2 : (nI k).toNatClampNeg = k := nI_clamp (by omega)
        obtain ⟨z3, z4⟩ := hB k (by omega)
        by_cases x : B k = 10
        · have x' : nI (B k) = 10 := by rw [x]; rfl
          have : fnd B 10 k (d + 1) = k := if_pos x
          rw [this] at e
          simp only [pc147_72, pc147_74, pc147_74n, pc147_75, pc147_78, pc147_81, pc147_81n, pc147_82, pc147_85, pc147_87, pc147_88, pc147_90, px_op_some, px_kv_ap, px_ki_ap, px_kl_ap, px_kn_ap, px_kh_ap, px_op_none, px_K_some, px_K_none, px_K_thr, px_kill, ↓reduceIte, if_true, if_false, true_and, and_true, px_gf, px_ai, h6, mf_1, mf_2, v2n, hA, ge, z1, z2, z3, x', tg_i1, and_self]
          rw [e]
          exact line
        · have x' : ¬ nI (B k) = 10 := fun z => x ((nI_eq (b := 10) (by omega) (by decide)).mp z)
          have : fnd B 10 k (d + 1) = fnd B 10 (k + 1) d := if_neg x
          rw [this] at e
          rw [pc147_72]
          simp only [pc147_74, pc147_74n, pc147_75, pc147_78, pc147_81, pc147_81n, pc147_82, pc147_85, pc147_87, pc147_88, pc147_90, pc147_93, pc147_96, px_op_some, px_kv_ap, px_ki_ap, px_kl_ap, px_kn_ap, px_kh_ap, px_op_none, px_K_some, px_K_none, px_K_thr, px_kill, ↓reduceIte, if_true, if_false, true_and, and_true, px_gf, px_ai, h6, mf_1, mf_2, v2n, hA, ge, z1, z2, z3, x', tg_i1, and_self, nI_p1, px_kill]
          exact ih2 (k + 1) (by omega) (by omega) e
    rw [pc147_52]
    simp only [pc147_54, pc147_54n, pc147_55, pc147_58, pc147_61, pc147_61n, pc147_62, pc147_65, pc147_68, pc147_70, px_op_some, px_kv_ap, px_ki_ap, px_kl_ap, px_kn_ap, px_kh_ap, px_op_none, px_K_some, px_K_none, px_K_thr, px_kill, ↓reduceIte, if_true, if_false, true_and, and_true, px_gf, h6, mf_2, mf_43, v2n, v43, ge, not_true_eq_false, px_kill]
    exact lQ (n - p) p (by omega) (Nat.le_refl _) rfl
/-! the end -/
set_option maxRecDepth 16384 in
theorem m_finish_b {R : aR} {p' nr' : Int32} {l6 : Option Value} (hq : q < 2) (hj : j < 8) (en : enV R h q V)
    (hQ : ∀ h' x' ln S' V', fiR R.2.2.1 R.2.2.2.1 j R.2.1 R.1 x' ln S' → shape h' → RY h' q S' → h'.2[619]? = some (.inl (11, modF V')) → V' 44 = ln → V' 45 = V 45 → V' 46 = V 46 → V' 2 = V 2 → V' 0 = V 0 → rOth h h' q → frm rlA h h' → Q (.inl (some (.int (nI x')))) h') :
    px_Wp sx 147 146 [some (.ref 619), some (.int (nI q)), some (.int (nI j)), some (.int (laI R.2.1)), some (.int p'), some (.int nr'), l6, none] [] h Q := by
  obtain ⟨x, la, S, m, st, hi⟩ := R
  obtain ⟨⟨hS, ry, im, h6⟩, oy, ok, hx, hla, v43, hxl, v45, v46⟩ := en
  have ry : RY h q S := ry
  have im : la ≠ 0 → imR h V m := im
  have oy : yOK S := oy
  have ok : x = 0 → la ≠ 0 → bOK S m := ok
  have hx : x ≤ 5 := hx
  have hla : la < 1000 := hla
  have v43 : V 43 = nI x := v43
  have hxl : x ≠ 0 → la ≠ 0 := hxl
  have hl := hS.1
  have hcls : px_cls h 619 = some 11 := by unfold px_cls; rw [h6]
  have hQ : ∀ h' x' ln S' V', fiR S m j la x x' ln S' → shape h' → RY h' q S' → h'.2[619]? = some (.inl (11, modF V')) → V' 44 = ln → V' 45 = V 45 → V' 46 = V 46 → V' 2 = V 2 → V' 0 = V 0 → rOth h h' q → frm rlA h h' → Q (.inl (some (.int (nI x')))) h' := hQ
  show px_Wp sx 147 146 [some (.ref 619), some (.int (nI q)), some (.int (nI j)), some (.int (laI la)), some (.int p'), some (.int nr'), l6, none] [] h Q
  -- the last write
  have last : ∀ h1 V1 S1 x1 ln la1 l6 l7, fiR S m j la x x1 ln S1 → shape h1 → RY h1 q S1 → h1.2[619]? = some (.inl (11, modF V1)) → V1 43 = nI x1 → x1 ≤ 5 → (ln = if x1 = 0 then -1 else la1) → (∀ k, k ≠ 17 → k ≠ 43 → V1 k = V k) → rOth h h1 q → frm rlA h h1 → px_Wp sx 147 198 [some (.ref 619), some (.int (nI q)), some (.int (nI j)), some (.int la1), some (.int p'), some (.int nr'), l6, l7] [] h1 Q := fun h1 V1 S1 x1 ln la1 l6 l7 fi hS1 ry1 c61 e43 x15 eln ve ot fr => by
    have l61 : 619 < h1.2.length := (List.getElem?_eq_some_iff.mp c61).1
    have h2w : ∀ z : px_C, (px_wr h1 619 z).2[619]? = some z := fun z => by rw [wr_at, if_pos rfl, if_pos l61]
    have ne2 : ∀ z : px_C, ∀ r, r ≠ 619 → (px_wr h1 619 z).2[r]? = h1.2[r]? := fun z r hr => by rw [wr_at, if_neg (fun z => hr z.symm)]
    have w43 : ∀ y, px_up V1 44 y 43 = nI x1 := fun y => by rw [up_ne (by decide)]; exact e43
    by_cases x0 : x1 = 0
    · have le : nI x1 ≤ 0 := by rw [x0]; decide
      rw [if_pos x0] at eln
      simp only [pc147_198, pc147_198n, pc147_199, pc147_199n, pc147_200, pc147_203, pc147_210, pc147_211, pc147_214, pc147_214n, pc147_215, pc147_218, px_op_some, px_kv_ap, px_ki_ap, px_kl_ap, px_kn_ap, px_kh_ap, px_op_none, px_K_some, px_K_none, px_K_thr, px_kill, ↓reduceIte, if_true, if_false, true_and, and_true, px_gf, px_pf, c61, h2w, mf_43, mfs_44, mf_len, e43, w43, le, Nat.reduceLT, px_fit, and_self]
      exact hQ _ x1 ln S1 _ fi (shape_mod hS1) (RY_frm ry1 (fun r a b => ne2 _ r (by omega))) (h2w _) (by rw [up_same, eln]) (by rw [up_ne (by decide), ve 45 (by decide) (by decide)]) (by rw [up_ne (by decide), ve 46 (by decide) (by decide)]) (by rw [up_ne (by decide), ve 2 (by decide) (by decide)]) (by rw [up_ne (by decide), ve 0 (by decide) (by decide)]) (fun q2 S2 a b c r2 => RY_frm (ot q2 S2 a b c r2) (fun r a b => ne2 _ r (by omega))) (frm_wr fr (.inl rfl))
    · have le : ¬ nI x1 ≤ 0 := nI_ge (a := 0) (by omega) (by omega)
      rw [if_neg x0] at eln
      simp only [pc147_198, pc147_198n, pc147_199, pc147_199n, pc147_200, pc147_203, pc147_206, pc147_207, pc147_211, pc147_214, pc147_214n, pc147_215, pc147_218, px_op_some, px_kv_ap, px_ki_ap, px_kl_ap, px_kn_ap, px_kh_ap, px_op_none, px_K_some, px_K_none, px_K_thr, px_kill, ↓reduceIte, if_true, if_false, true_and, and_true, px_gf, px_pf, c61, h2w, mf_43, mfs_44, mf_len, e43, w43, le, Nat.reduceLT, px_fit, and_self]
      exact hQ _ x1 ln S1 _ fi (shape_mod hS1) (RY_frm ry1 (fun r a b => ne2 _ r (by omega))) (h2w _) (by rw [up_same, eln]) (by rw [up_ne (by decide), ve 45 (by decide) (by decide)]) (by rw [up_ne (by decide), ve 46 (by decide) (by decide)]) (by rw [up_ne (by decide), ve 2 (by decide) (by decide)]) (by rw [up_ne (by decide), ve 0 (by decide) (by decide)]) (fun q2 S2 a b c r2 => RY_frm (ot q2 S2 a b c r2) (fun r a b => ne2 _ r (by omega))) (frm_wr fr (.inl rfl))
  by_cases l0 : la = 0
  · have x0 : x = 0 := Classical.byContradiction (fun z => hxl z l0)
    have neg' : ¬ (0 : Int32) ≤ laI la := by rw [l0, laI_0]; decide
    have v430 : V 43 = 0 := by rw [v43, x0]; rfl
    have n10 : ¬ (1 : Int32) = 0 := by decide
    simp only [pc147_146, pc147_147, pc147_150, pc147_150n, pc147_151, pc147_152, neg', if_false, hcls, true_and]
    refine m_fail (x := 1) h6 v430 ?_
    have l6' : 619 < h.2.length := (List.getElem?_eq_some_iff.mp h6).1
    have c61 : (px_wr h 619 (.inl (11, modF (px_up V 43 1)))).2[619]? = some (.inl (11, modF (px_up V 43 1))) := by rw [wr_at, if_pos rfl, if_pos l6']
    have ne1 : ∀ r, r ≠ 619 → (px_wr h 619 (.inl (11, modF (px_up V 43 1)))).2[r]? = h.2[r]? := fun r hr => by rw [wr_at, if_neg (fun z => hr z.symm)]
    have u43 : px_up V 43 1 43 = 1 := up_same _ _ _
    simp only [px_K_none, pc147_155, pc147_156, pc147_157, pc147_157n, pc147_158, pc147_161, px_op_some, px_kv_ap, px_ki_ap, px_kl_ap, px_kn_ap, px_kh_ap, px_op_none, px_K_some, px_K_none, px_K_thr, px_kill, ↓reduceIte, if_true, if_false, true_and, and_true, px_gf, c61, mf_43, u43, n10, not_false_eq_true, px_kill]
    exact last _ (px_up V 43 1) S 1 0 0 _ _ (.inr (.inl ⟨x0, l0, rfl, rfl, rfl⟩)) (shape_mod hS) (RY_frm ry (fun r a b => ne1 r (by omega))) c61 u43 (by decide) (by rw [if_neg (by decide)]) (fun k _ k2 => up_ne k2) (fun q2 S2 a b c r2 => RY_frm r2 (fun r a b => ne1 r (by omega))) (frm_wr (frm_refl _ _) (.inl rfl))
  · have pos' : (0 : Int32) ≤ laI la := by unfold laI; rw [if_neg l0]; exact nI_pos' (by omega)
    have lae : laI la = nI (la - 1) := if_neg l0
    by_cases x0 : x = 0
    rotate_left
    · have nx : ¬ nI x = 0 := fun z => x0 ((nI_eq (b := 0) (by omega) (by decide)).mp z)
      simp only [pc147_146, pc147_147, pc147_157, pc147_157n, pc147_158, pc147_161, px_op_some, px_kv_ap, px_ki_ap, px_kl_ap, px_kn_ap, px_kh_ap, px_op_none, px_K_some, px_K_none, px_K_thr, px_kill, ↓reduceIte, if_true, if_false, true_and, and_true, px_gf, h6, mf_43, v43, pos', nx, not_false_eq_true]
      exact last h V S x (nI (la - 1)) (laI la) _ _ (.inl ⟨x0, rfl, rfl, rfl⟩) hS ry h6 v43 hx (by rw [if_neg x0, lae]) (fun _ _ _ => rfl) (fun _ _ _ _ _ r2 => r2) (frm_refl _ _)
    have v430 : V 43 = 0 := by rw [v43, x0]; rfl
    obtain ⟨o1, o2, o3⟩ := ok x0 l0
    have im := im l0
    have il := img_len (img_im o2)
    simp only [pc147_146, pc147_147, pc147_157, pc147_157n, pc147_158, pc147_161, pc147_164, pc147_164n, pc147_165, px_op_some, px_kv_ap, px_ki_ap, px_kl_ap, px_kn_ap, px_kh_ap, px_op_none, px_K_some, px_K_none, px_K_thr, px_kill, ↓reduceIte, if_true, if_false, true_and, and_true, px_gf, h6, mf_43, v430, pos', not_true_eq_false, hcls]
    refine m_emitImage (by omega) h6 (at_636 hS) im o2 (fun row1 br => ?_)
    generalize hV1 : px_up V 17 (nI (ipos m (iS m))) = V1
    have ve1 : ∀ k, k ≠ 17 → V1 k = V k := fun k hk => by rw [← hV1, up_ne hk]
    have v17 : V1 17 = nI (ipos m (iS m)) := by rw [← hV1, up_same]
    generalize hh1 : outH h V1 row1 = h1
    have ne1 : ∀ r, r ≠ 619 → r ≠ 636 → h1.2[r]? = h.2[r]? := fun r x y => by rw [← hh1]; exact outH_at (fun z => y z.symm) (fun z => x z.symm)
    have c61 : h1.2[619]? = some (.inl (11, modF V1)) := by rw [← hh1]; exact outH_o (by omega)
    have r61 : h1.2[636]? = some (.inr (1, 40100, .inl row1)) := by rw [← hh1]; exact outH_r (by omega)
    have hS1 : shape h1 := by
      rw [← hh1]; unfold outH
      exact shape_wr (shape_wr hS rfl) rfl
    have fr1 : frm rlA h h1 := by rw [← hh1]; unfold outH; exact frm_wr (frm_wr (frm_refl _ _) (.inr ⟨by decide, by decide⟩)) (.inl rfl)
    have ry1 : RY h1 q S := RY_frm ry (fun r x y => ne1 r (by omega) (by omega))
    have ot1 : rOth h h1 q := fun q2 S2 _ _ _ r2 => RY_frm r2 (fun r x y => ne1 r (by omega) (by omega))
    have hc1 : px_cls h1 619 = some 11 := by unfold px_cls; rw [c61]
    have dg : dig row1 (ipos m (iS m)) = dgM m := dig_congr br
    simp only [px_K_none, pc147_168, pc147_168n, pc147_169, hc1, true_and]
    refine m_digest c61 r61 v17 (by omega) ?_
    rw [px_K_some, dg]
    simp only [pc147_172, pc147_174, pc147_174n, pc147_175, pc147_176, hc1, true_and, px_kill]
    have noroom : ∀ h2 V2 S2 l6 l7, shape h2 → RY h2 q S2 → h2.2[619]? = some (.inl (11, modF V2)) → vSame V1 V2 → fiR S m j la x 5 (nI (la - 1)) S2 → rOth h h2 q → frm rlA h h2 → px_Wp sx 147 193 [some (.ref 619), some (.int (nI q)), some (.int (nI j)), some (.int (laI la)), some (.int p'), some (.int nr'), l6, l7] [] h2 Q := fun h2 V2 S2 l6 l7 hS2 ry2 c62 vs fi ot2 fr2 => by
      have hc2 : px_cls h2 619 = some 11 := by unfold px_cls; rw [c62]
      have l62 : 619 < h2.2.length := (List.getElem?_eq_some_iff.mp c62).1
      simp only [pc147_193, pc147_193n, pc147_194, pc147_195, hc2, true_and]
      refine m_fail (x := 5) c62 (by rw [vs 43 (by decide), ve1 43 (by decide)]; exact v430) ?_
      rw [px_K_none]
      have ne3 : ∀ r, r ≠ 619 → (px_wr h2 619 (.inl (11, modF (px_up V2 43 5)))).2[r]? = h2.2[r]? := fun r hr => by rw [wr_at, if_neg (fun z => hr z.symm)]
      exact last _ (px_up V2 43 5) S2 5 (nI (la - 1)) (laI la) _ _ fi (shape_mod hS2) (RY_frm ry2 (fun r a b => ne3 r (by omega))) (by rw [wr_at, if_pos rfl, if_pos l62]) (up_same _ _ _) (by decide) (by rw [if_neg (by decide), lae]) (fun k k1 k2 => by rw [up_ne k2, vs k k1, ve1 k k1]) (fun q2 S2 a b c r2 => RY_frm (ot2 q2 S2 a b c r2) (fun r a b => ne3 r (by omega))) (frm_wr fr2 (.inl rfl))
    refine ry_keep2 hS1 (yOK_good oy).1 hq ry1 c61 v17 (by omega) r61 (fun k hk => by rw [br k hk]; exact imB_255 o2 (iS m) (Nat.le_refl _) k hk) (fun S1 h2 ky ry2 ot2 fr2 hS2 => ?_) (fun kn => ?_)
    rotate_left
    · simp only [px_K_some, pc147_179, if_true]
      exact noroom h1 V1 S _ _ hS1 ry1 c61 (fun _ _ => rfl) (.inr (.inr ⟨x0, l0, .inl ⟨keepN_congr br kn, rfl, rfl, rfl⟩⟩)) ot1 fr1
    have kY : keepY S (imB m (iS m)) (ipos m (iS m)) S1 := keepY_congr br ky
    have kt := keep_ok oy (by omega) (imB_255 o2 (iS m) (Nat.le_refl _)) kY
    have c62 : h2.2[619]? = some (.inl (11, modF V1)) := (fr2.2.2 619 (by decide)).trans c61
    have hc2 : px_cls h2 619 = some 11 := by unfold px_cls; rw [c62]
    have fb2 : frm rlA h h2 := frm_trans fr1 (frm_mono fr2 (fun r hr => .inr (by omega)))
    have oth2 : rOth h h2 q := fun q2 S2 a b c r2 => ot2 q2 S2 a b c (ot1 q2 S2 a b c r2)
    simp only [px_K_some, pc147_179, pc147_182, pc147_182n, pc147_183, pc147_184, pc147_185, pc147_187, ne_1_0, if_false, hc2, true_and]
    refine ry_tell2 hS2 (yOK_good kt).1 hq hj ry2 c62 (fun S2 h3 V3 tY ry3 ot3 fr3 hS3 c63 vs => ?_) (fun tn => ?_)
    rotate_left
    · simp only [px_K_some, pc147_190, not_true_eq_false, if_false]
      exact noroom h2 V1 S1 _ _ hS2 ry2 c62 (fun _ _ => rfl) (.inr (.inr ⟨x0, l0, .inr ⟨S1, kY, .inl ⟨tn, rfl, rfl, rfl⟩⟩⟩)) oth2 fb2
    · simp only [px_K_some, pc147_190, ne_1_0, not_false_eq_true, if_true]
      exact last h3 V3 S2 0 (-1) (laI la) _ _ (.inr (.inr ⟨x0, l0, .inr ⟨S1, kY, .inr ⟨tY, rfl, rfl⟩⟩⟩)) hS3 ry3 c63 (by rw [vs 43 (by decide), ve1 43 (by decide)]; exact v430) (by decide) (by rw [if_pos rfl]) (fun k k1 _ => by rw [vs k k1, ve1 k k1]) (fun q2 S2 a b c r2 => ot3 q2 S2 a b c (oth2 q2 S2 a b c r2)) (frm_trans fb2 (frm_mono fr3 (fun r hr => by unfold ryA at hr; unfold rlA; omega)))
end MBUILD
