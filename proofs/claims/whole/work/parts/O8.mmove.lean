/-! A PART OF A TREE MOVED, the reference's: one entry, and all -/
/-- the tree without its entry e, which stands at 81 -/
def w81 (U : Nat → aE) (e : Nat) : Nat → aE := fun i => if i = 81 then U e else cutE U e (e + 1) i
set_option maxRecDepth 16384 in
theorem w81_81 {U : Nat → aE} {e : Nat} : w81 U e 81 = U e := if_pos rfl
set_option maxRecDepth 16384 in
theorem w81_ne {U : Nat → aE} {e i : Nat} (h : i ≠ 81) : w81 U e i = cutE U e (e + 1) i := if_neg h
section MMOVE2
variable {sx : Nat × (Nat → Int32)} {h : px_H} {n l l2 a b k e : Nat} {V : Nat → Int32} {T U : Nat → aE} {p p2 : Nat → Nat} {Q : px_O → px_H → Prop}
set_option maxRecDepth 16384 in
theorem frm_mvE {h1 : px_H} (f : frm mEA h h1) : frm mvA h h1 := frm_mono f (fun r hr => by unfold mEA at hr; unfold mvA; omega)
set_option maxRecDepth 16384 in
theorem frm_mvB {h1 : px_H} (f : frm mEB h h1) : frm mvA h h1 := frm_mono f (fun r hr => by unfold mEB mEA at hr; unfold mvA; omega)
set_option maxRecDepth 16384 in
theorem frm_mvS {h1 : px_H} (f : frm swA h h1) : frm mvA h h1 := frm_mono f (fun r hr => by unfold swA at hr; unfold mvA; omega)
set_option maxRecDepth 16384 in
theorem m_moveOne_t {l2' l3' : Option Value} (h6 : h.2[619]? = some (.inl (11, modF V))) (hv : V 20 = nI n) (hv2 : V 32 = nI l) (hv4 : V 34 = nI l2) (hn : n ≤ 80) (w : mtE h (fun i => i < n) U) (srt : srtE n U) (he : e < n) (m : mv p l (U e)) (pt : mpt h p l) (hp : pth p l) (po : mpo h p2 l2) (hp2 : pth p2 l2) (rk : eOK (renE l p2 l2 (U e))) (new : ∀ i, i < n → ¬ eP (U i) = eP (renE l p2 l2 (U e)))
    (hQ : ∀ h' g, gapE (n - 1) (cutE U e (e + 1)) (eP (renE l p2 l2 (U e))) g → mtE h' (fun i => i < n) (insE (cutE U e (e + 1)) g (renE l p2 l2 (U e))) → h'.2[619]? = some (.inl (11, modF V)) → mpt h' p l → mpo h' p2 l2 → frm mvA h h' → (shape h → shape h') → Q (.inl (some (.int 1))) h') :
    px_Wp sx 206 53 [some (.ref 619), some (.int (nI e)), l2', l3', none, none] [] h Q := by
  have l35 := hp.2.1
  have l235 := hp2.2.1
  have hcls : px_cls h 619 = some 11 := by unfold px_cls; rw [h6]
  obtain ⟨P0, LN0, K0, Z0, C0, -, w2⟩ := id w
  have ok := (w2 e he).2.1
  have ge := mv_ge ok.1 hp m
  have x35 := ok.1.2.1
  have R35 : l2 + (eL (U e) - l) ≤ 35 := rk.1.2.1
  simp only [pc206_53, pc206_53n, pc206_54, pc206_55, pc206_57, hcls, true_and]
  refine m_moveEntry (t := 81) h6 w he (by decide) (by omega) (fun h1 w1 fr1 sh1 => ?_)
  have c6 : h1.2[619]? = some (.inl (11, modF V)) := frm_at fr1 (by unfold mEA; omega) h6
  have hc1 : px_cls h1 619 = some 11 := by unfold px_cls; rw [c6]
  simp only [px_K_none, pc206_60, pc206_60n, pc206_61, pc206_62, hc1, true_and]
  refine m_drop c6 hv (by omega) w1 (fun i hi => .inl hi) he (fun h2 w2' c62 fr2 sh2 => ?_)
  have hc2 : px_cls h2 619 = some 11 := by unfold px_cls; rw [c62]
  have pt2 : mpt h2 p l := mpt_frm pt ((fr2.2.2 647 (by unfold mEB mEA; omega)).trans (fr1.2.2 647 (by unfold mEA; omega)))
  have po2 : mpo h2 p2 l2 := by
    obtain ⟨g, g1, g2⟩ := po
    exact ⟨g, ((fr2.2.2 648 (by unfold mEB mEA; omega)).trans (fr1.2.2 648 (by unfold mEA; omega))).trans g1, g2⟩
  have wW : mtE h2 (fun i => i < n - 1 ∨ i = 81) (w81 U e) := mtE_mono w2' (fun i hi => by
    refine ⟨by omega, ?_⟩
    unfold dropE
    by_cases z : i = 81
    · subst z; rw [w81_81, if_neg (by omega), up_same]
    · rw [w81_ne z]
      by_cases y : e ≤ i
      · rw [if_pos ⟨y, by omega⟩, up_ne (by omega), cut1_ge y]
      · rw [if_neg (by omega), up_ne z, cut1_lt (by omega)])
  have v32 : px_up V 20 (nI (n - 1)) 32 = nI l := by rw [up_ne (by decide)]; exact hv2
  have v34 : px_up V 20 (nI (n - 1)) 34 = nI l2 := by rw [up_ne (by decide)]; exact hv4
  simp only [px_K_none, pc206_65, pc206_65n, pc206_66, pc206_69, pc206_70, pc206_70n, pc206_71, px_op_some, px_kv_ap, px_ki_ap, px_kl_ap, px_kn_ap, px_kh_ap, px_op_none, px_K_some, px_K_none, px_K_thr, px_kill, ↓reduceIte, if_true, if_false, true_and, and_true, px_gf, c62, mf_32, v32, hc2, px_kill]
  refine m_swap c62 v32 v34 pt2 po2 (by omega) (by omega) (fun h3 c63 pt3 po3 fr3 sh3 => ?_)
  have w3 : mtE h3 (fun i => i < n - 1 ∨ i = 81) (w81 U e) := mtE_frm wW (fun r hr => by unfold mEA at hr; exact fr3.2.2 r (by unfold swA; omega))
  have s32 : swV (px_up V 20 (nI (n - 1))) l l2 32 = nI l2 := by unfold swV; rw [up_ne (by decide), up_same]
  have s34 : swV (px_up V 20 (nI (n - 1))) l l2 34 = nI l := by unfold swV; rw [up_same]
  have s20 : swV (px_up V 20 (nI (n - 1))) l l2 20 = nI (n - 1) := by unfold swV; rw [up_ne (by decide), up_ne (by decide), up_same]
  have sall : ∀ j, j ≠ 20 → j ≠ 32 → j ≠ 34 → swV (px_up V 20 (nI (n - 1))) l l2 j = V j := fun j j1 j2 j3 => by unfold swV; rw [up_ne j3, up_ne j2, up_ne j1]
  obtain ⟨g3, g31, g32⟩ := pt3
  have L7 : 647 < h3.2.length := (List.getElem?_eq_some_iff.mp g31).1
  obtain ⟨P, LN, K, Z, C, ⟨a1, a2, a3, a4, a5⟩, w4⟩ := id w3
  obtain ⟨-, ok8, r1, r2, r3, r4, r5⟩ := w4 81 (.inr rfl)
  have r1 : LN 81 = nI (eL (U e)) := r1
  have r4 : ∀ j, j < eL (U e) → P (2916 + j) = nI (eP (U e) j) := r4
  have i8 : px_in (81 : Int32) 82 = true := by decide
  have c8 : (81 : Int32).toNatClampNeg = 81 := by decide
  have z6 : ∀ x : px_C, (px_wr h3 647 x).2[619]? = some (.inl (11, modF (swV (px_up V 20 (nI (n - 1))) l l2))) := fun x => by rw [wr_at, if_neg (by decide)]; exact c63
  have z7 : ∀ x : px_C, (px_wr h3 647 x).2[647]? = some x := fun x => by rw [wr_at, if_pos rfl, if_pos L7]
  have z8 : ∀ x : px_C, (px_wr h3 647 x).2[638]? = some (.inr (1, 82, .inl LN)) := fun x => by rw [wr_at, if_neg (by decide)]; exact a2
  have z9 : ∀ x : px_C, (px_wr h3 647 x).2[637]? = some (.inr (1, 2952, .inl P)) := fun x => by rw [wr_at, if_neg (by decide)]; exact a1
  -- behind the path
  have tail : ∀ G, (∀ j, j < l2 → G j = nI (p2 j)) → (∀ t, t < eL (U e) - l → G (l2 + t) = nI (eP (U e) (l + t))) → ∀ l3, px_Wp sx 206 116 [some (.ref 619), some (.int (nI e)), some (.int (nI l)), some (.int l3), none, none] [] (px_wr h3 647 (.inr (1, 240, .inl G))) Q := fun G q1 q2 l3 => by
    have sb : nI l2 + nI (eL (U e)) - nI l = nI (l2 + (eL (U e) - l)) := by rw [nI_add, nI_sub (by omega)]; congr 1; omega
    have hl3 : 619 < (px_wr h3 647 (.inr (1, 240, .inl G))).2.length := by rw [px_wr_len]; omega
    generalize hh4 : px_wr (px_wr h3 647 (.inr (1, 240, .inl G))) 619 (.inl (11, modF (px_up (swV (px_up V 20 (nI (n - 1))) l l2) 32 (nI (l2 + (eL (U e) - l)))))) = h4
    have c64 : h4.2[619]? = some (.inl (11, modF (px_up (swV (px_up V 20 (nI (n - 1))) l l2) 32 (nI (l2 + (eL (U e) - l)))))) := by rw [← hh4, wr_at, if_pos rfl, if_pos hl3]
    have ne4 : ∀ r, r ≠ 619 → r ≠ 647 → h4.2[r]? = h3.2[r]? := fun r x y => by rw [← hh4, wr_at, if_neg (fun z => x z.symm), wr_at, if_neg (fun z => y z.symm)]
    have g4 : h4.2[647]? = some (.inr (1, 240, .inl G)) := by rw [← hh4, wr_at, if_neg (by decide)]; exact z7 _
    have hc4 : px_cls h4 619 = some 11 := by unfold px_cls; rw [c64]
    have fr4 : frm mvA h3 h4 := by rw [← hh4]; exact frm_wr (frm_wr (frm_refl _ _) (.inr (.inr (.inl rfl)))) (.inl rfl)
    have sh4 : shape h3 → shape h4 := fun s => by rw [← hh4]; exact shape_mod (shape_ia s g31)
    have pt4 : mpt h4 (eP (renE l p2 l2 (U e))) (l2 + (eL (U e) - l)) := ⟨G, g4, fun j hj => by
      by_cases y : j < l2
      · rw [ren_lt y]; exact q1 j y
      · have := ren_at (p2 := p2) (l2 := l2) ok.1 hp m (j - l2)
        rw [show l2 + (j - l2) = j by omega] at this
        have q := q2 (j - l2) (by omega)
        rw [show l2 + (j - l2) = j by omega] at q
        rw [this]; exact q⟩
    have w5 : mtE h4 (fun i => i < n - 1 ∨ i = 81) (w81 U e) := mtE_frm w3 (fun r hr => by unfold mEA at hr; exact ne4 r (by omega) (by omega))
    have u20 : px_up (swV (px_up V 20 (nI (n - 1))) l l2) 32 (nI (l2 + (eL (U e) - l))) 20 = nI (n - 1) := by rw [up_ne (by decide)]; exact s20
    have u32 : px_up (swV (px_up V 20 (nI (n - 1))) l l2) 32 (nI (l2 + (eL (U e) - l))) 32 = nI (l2 + (eL (U e) - l)) := up_same _ _ _
    simp only [pc206_116, pc206_116n, pc206_117, pc206_120, pc206_121, pc206_121n, pc206_122, pc206_122n, pc206_123, pc206_126, pc206_126n, pc206_127, pc206_130, pc206_132, pc206_133, pc206_134, pc206_135, pc206_136, pc206_139, pc206_139n, pc206_140, px_op_some, px_kv_ap, px_ki_ap, px_kl_ap, px_kn_ap, px_kh_ap, px_op_none, px_K_some, px_K_none, px_K_thr, px_kill, ↓reduceIte, if_true, if_false, true_and, and_true, px_gf, px_pf, px_ai, z6, z8, mf_22, mf_32, mfs_32, mf_len, s32, i8, c8, r1, sb, Nat.reduceLT, px_fit, tg_i1, and_self, hh4, hc4, px_kill]
    have cE : ∀ i, i < n - 1 → w81 U e i = cutE U e (e + 1) i := fun i hi => w81_ne (by omega)
    refine m_make_new c64 u20 u32 (by omega) w5 (fun i hi => .inl hi) (fun i j hij hj => ?_) (fun i hi => ?_) pt4 rk.1 (fun g h5 gp w6 c65 fr5 sh5 => ?_)
    · rw [cE i (by omega), cE j hj]
      exact cut1_srt srt i j hij hj
    · rw [cE i hi]
      obtain ⟨i', b1, b2, b3, -⟩ := cut1_of (U := U) (e := e) hi
      rw [b3]
      exact new i' b1
    have gn := gp.1
    have gp' : gapE (n - 1) (cutE U e (e + 1)) (eP (renE l p2 l2 (U e))) g := ⟨gp.1, fun i hi => by have := gp.2.1 i hi; rw [cE i (by omega)] at this; exact this, fun i h1 h2 => by have := gp.2.2 i h1 h2; rw [cE i h2] at this; exact this⟩
    have n1 : n - 1 + 1 = n := by omega
    rw [n1] at c65
    simp only [px_K_some, pc206_143, px_kill]
    have T81 : px_up (shiftE (w81 U e) (n - 1) g) g (dirE (l2 + (eL (U e) - l)) (eP (renE l p2 l2 (U e)))) 81 = U e := by
      rw [up_ne (by omega)]
      unfold shiftE
      rw [if_neg (by omega), w81_81]
    have Tg : px_up (shiftE (w81 U e) (n - 1) g) g (dirE (l2 + (eL (U e) - l)) (eP (renE l p2 l2 (U e)))) g = dirE (l2 + (eL (U e) - l)) (eP (renE l p2 l2 (U e))) := up_same _ _ _
    refine m_setEntry (l := l2 + (eL (U e) - l)) (p := eP (renE l p2 l2 (U e))) c65 w6 (by omega) (.inl (.inr rfl)) (by omega) (by rw [Tg]; rfl) (by rw [Tg]; rfl) (fun h6' w7 fr6 sh6 l5 => ?_)
    rw [T81, up_up] at w7
    have w8 : mtE h6' (fun i => i < n) (insE (cutE U e (e + 1)) g (renE l p2 l2 (U e))) := mtE_mono w7 (fun i hi => by
      refine ⟨by omega, ?_⟩
      have := shift_ins (T := w81 U e) (n := n - 1) (k := g) (i := i) (e := (l2 + (eL (U e) - l), eP (renE l p2 l2 (U e)), eK (U e), eN (U e), eC (U e))) gn (by omega)
      rw [this]
      unfold insE
      by_cases y1 : i < g
      · rw [if_pos y1, if_pos y1, cE i (by omega)]
      · rw [if_neg y1, if_neg y1]
        by_cases y2 : i = g
        · rw [if_pos y2, if_pos y2]; rfl
        · rw [if_neg y2, if_neg y2, cE (i - 1) (by omega)])
    have c66 := frm_at fr6 (show ¬ mEA 619 by unfold mEA; omega) c65
    have L6 : 619 < h6'.2.length := (List.getElem?_eq_some_iff.mp c66).1
    have g6 : h6'.2[647]? = some (.inr (1, 240, .inl G)) := ((fr6.2.2 647 (by unfold mEA; omega)).trans (fr5.2.2 647 (by unfold mEB mEA; omega))).trans g4
    have o6 : ∃ go, h6'.2[648]? = some (.inr (1, 240, .inl go)) ∧ ∀ j, j < l → go j = nI (p j) := by
      obtain ⟨go, go1, go2⟩ := po3
      exact ⟨go, (((fr6.2.2 648 (by unfold mEA; omega)).trans (fr5.2.2 648 (by unfold mEB mEA; omega))).trans (ne4 648 (by decide) (by decide))).trans go1, go2⟩
    generalize hh7 : px_wr h6' 619 (.inl (11, modF (px_up (px_up (px_up (swV (px_up V 20 (nI (n - 1))) l l2) 32 (nI (l2 + (eL (U e) - l)))) 20 (nI n)) 32 (nI l2)))) = h7
    have c67 : h7.2[619]? = some (.inl (11, modF (px_up (px_up (px_up (swV (px_up V 20 (nI (n - 1))) l l2) 32 (nI (l2 + (eL (U e) - l)))) 20 (nI n)) 32 (nI l2)))) := by rw [← hh7, wr_at, if_pos rfl, if_pos L6]
    have ne7 : ∀ r, r ≠ 619 → h7.2[r]? = h6'.2[r]? := fun r x => by rw [← hh7, wr_at, if_neg (fun z => x z.symm)]
    have hc7 : px_cls h7 619 = some 11 := by unfold px_cls; rw [c67]
    have fr7 : frm mvA h6' h7 := by rw [← hh7]; exact frm_wr (frm_refl _ _) (.inl rfl)
    have sh7 : shape h6' → shape h7 := fun s => by rw [← hh7]; exact shape_mod s
    have q32 : px_up (px_up (px_up (swV (px_up V 20 (nI (n - 1))) l l2) 32 (nI (l2 + (eL (U e) - l)))) 20 (nI n)) 32 (nI l2) 32 = nI l2 := up_same _ _ _
    have q34 : px_up (px_up (px_up (swV (px_up V 20 (nI (n - 1))) l l2) 32 (nI (l2 + (eL (U e) - l)))) 20 (nI n)) 32 (nI l2) 34 = nI l := by rw [up_ne (by decide), up_ne (by decide), up_ne (by decide)]; exact s34
    simp only [pc206_219, pc206_219n, pc206_220, pc206_221, pc206_224, pc206_224n, pc206_225, px_op_some, px_kv_ap, px_ki_ap, px_kl_ap, px_kn_ap, px_kh_ap, px_op_none, px_K_some, px_K_none, px_K_thr, px_kill, ↓reduceIte, if_true, if_false, true_and, and_true, px_pf, c66, mfs_32, mf_len, Nat.reduceLT, px_fit, and_self, hh7, hc7, px_kill]
    have pt7 : mpt h7 p2 l2 := ⟨G, (ne7 647 (by decide)).trans g6, q1⟩
    have po7 : mpo h7 p l := by
      obtain ⟨go, go1, go2⟩ := o6
      exact ⟨go, (ne7 648 (by decide)).trans go1, go2⟩
    refine m_swap c67 q32 q34 pt7 po7 (by omega) (by omega) (fun h8 c68 pt8 po8 fr8 sh8 => ?_)
    have eV : swV (px_up (px_up (px_up (swV (px_up V 20 (nI (n - 1))) l l2) 32 (nI (l2 + (eL (U e) - l)))) 20 (nI n)) 32 (nI l2)) l2 l = V := by
      funext j
      unfold swV
      by_cases y1 : j = 34
      · subst y1; rw [up_same]; exact hv4.symm
      · rw [up_ne y1]
        by_cases y2 : j = 32
        · subst y2; rw [up_same]; exact hv2.symm
        · rw [up_ne y2, up_ne y2]
          by_cases y3 : j = 20
          · subst y3; rw [up_same]; exact hv.symm
          · rw [up_ne y3, up_ne y2, up_ne y1, up_ne y2, up_ne y3]
    rw [eV] at c68
    simp only [px_K_none, pc206_228, pc206_229, nar_1]
    have w9 : mtE h8 (fun i => i < n) (insE (cutE U e (e + 1)) g (renE l p2 l2 (U e))) := mtE_frm w8 (fun r hr => by unfold mEA at hr; exact (fr8.2.2 r (by unfold swA; omega)).trans (ne7 r (by omega)))
    refine hQ h8 g gp' w9 c68 pt8 po8 ?_ (fun s => sh8 (sh7 (sh6 (sh5 (sh4 (sh3 (sh2 (sh1 s))))))))
    exact frm_trans (frm_trans (frm_trans (frm_trans (frm_trans (frm_trans (frm_trans (frm_mvE fr1) (frm_mvB fr2)) (frm_mvS fr3)) fr4) (frm_mvB fr5)) (frm_mvE fr6)) fr7) (frm_mvS fr8)
  have lp : ∀ d t, t + d = eL (U e) → l ≤ t → ∀ G, (∀ j, j < l2 → G j = nI (p2 j)) → (∀ q, q < t - l → G (l2 + q) = nI (eP (U e) (l + q))) → px_Wp sx 206 76 [some (.ref 619), some (.int (nI e)), some (.int (nI l)), some (.int (nI t)), none, none] [] (px_wr h3 647 (.inr (1, 240, .inl G))) Q := by
    intro d
    induction d with
    | zero =>
      intro t ht lt G q1 q2
      have ht : t = eL (U e) := by omega
      subst ht
      have le : nI (eL (U e)) ≤ nI (eL (U e)) := Int32.le_refl _
      simp only [pc206_76, pc206_77, pc206_77n, pc206_78, pc206_81, pc206_83, pc206_84, px_op_some, px_kv_ap, px_ki_ap, px_kl_ap, px_kn_ap, px_kh_ap, px_op_none, px_K_some, px_K_none, px_K_thr, px_kill, ↓reduceIte, if_true, if_false, true_and, and_true, px_gf, px_ai, z6, z8, mf_22, i8, c8, r1, le, tg_i1, and_self]
      exact tail G q1 q2 _
    | succ d ih =>
      intro t ht lt G q1 q2
      have gt : ¬ nI (eL (U e)) ≤ nI t := nI_ge (by omega) (by omega)
      have sb : nI l2 + nI t - nI l = nI (l2 + (t - l)) := by rw [nI_add, nI_sub (by omega)]; congr 1; omega
      have e29 : (2916 : Int32) + nI t = nI (2916 + t) := nI_add 2916 t
      have i1 : px_in (nI (l2 + (t - l))) 240 = true := px_inb (by omega) (by decide)
      have c1 : (nI (l2 + (t - l))).toNatClampNeg = l2 + (t - l) := nI_clamp (by omega)
      have i2 : px_in (nI (2916 + t)) 2952 = true := px_inb (by omega) (by decide)
      have c2 : (nI (2916 + t)).toNatClampNeg = 2916 + t := nI_clamp (by omega)
      have pk : P (2916 + t) = nI (eP (U e) t) := r4 t (by omega)
      rw [pc206_76]
      simp only [pc206_77, pc206_77n, pc206_78, pc206_81, pc206_83, pc206_84, pc206_87, pc206_87n, pc206_88, pc206_91, pc206_91n, pc206_92, pc206_95, pc206_96, pc206_97, pc206_98, pc206_99, pc206_99n, pc206_100, pc206_103, pc206_106, pc206_107, pc206_108, pc206_109, pc206_110, pc206_113, px_op_some, px_kv_ap, px_ki_ap, px_kl_ap, px_kn_ap, px_kh_ap, px_op_none, px_K_some, px_K_none, px_K_thr, px_kill, ↓reduceIte, if_true, if_false, true_and, and_true, px_gf, px_ai, px_wi, z6, z7, z8, z9, mf_21, mf_22, mf_32, mf_33, s32, i8, c8, r1, gt, sb, e29, i1, c1, i2, c2, pk, nar1, tg_i1, and_self, px_wr_wr, nI_p1, px_kill]
      refine ih (t + 1) (by omega) (by omega) _ (fun j hj => ?_) (fun q hq => ?_)
      · rw [up_ne (by omega)]; exact q1 j hj
      · by_cases y : q = t - l
        · subst y; rw [up_same, show l + (t - l) = t by omega]
        · rw [up_ne (by omega)]; exact q2 q (by omega)
  simp only [px_K_none, pc206_74, pc206_75, px_kill]
  have := lp (eL (U e) - l) l (by omega) (Nat.le_refl _) g3 g32 (fun q hq => absurd hq (by omega))
  rw [wr_id g31] at this
  exact this
/-! one entry moved; k of them have been -/
set_option maxRecDepth 16384 in
theorem m_moveOne (h6 : h.2[619]? = some (.inl (11, modF V))) (hv : V 20 = nI n) (hv2 : V 32 = nI l) (hv4 : V 34 = nI l2) (hn : n ≤ 80) (ok : tOK n T) (pa : tPA n T) (q2 : pathAt p2 0 l2) (wp : mvP n T p l p2 l2) (ha : a < n) (ea : eP (T a) = p) (eb : endE n T a b) (hk : a ≤ k) (hkb : k ≤ b) (ar : arr n (mvG T l p2 l2 a k) U) (w : mtE h (fun i => i < n) U) (pt : mpt h p l) (hp : pth p l) (po : mpo h p2 l2) (hp2 : pth p2 l2)
    (hQ1 : ∀ h' U', k < b → arr n (mvG T l p2 l2 a (k + 1)) U' → totN U' n = totN U n → mtE h' (fun i => i < n) U' → h'.2[619]? = some (.inl (11, modF V)) → mpt h' p l → mpo h' p2 l2 → frm mvA h h' → (shape h → shape h') → Q (.inl (some (.int 1))) h')
    (hQ0 : k = b → Q (.inl (some (.int 0))) h) :
    px_Wp sx 206 0 [some (.ref 619), none, none, none, none, none] [] h Q := by
  obtain ⟨ip, no, nb, hd, nm⟩ := wp
  have hcls : px_cls h 619 = some 11 := by unfold px_cls; rw [h6]
  have l35 := hp.2.1
  have bn := eb.2.1
  have mi := fun {j : Nat} (hj : j < n) => mv_iff ok hp ha ea eb hj
  -- an entry at or below p is one that was not moved yet
  have back : ∀ i, i < n → mv p l (U i) → ∃ j, j < n ∧ k ≤ j ∧ j < b ∧ U i = T j := fun i hi m => by
    obtain ⟨j, j1, j2⟩ := ar.2.1 i hi
    by_cases y : a ≤ j ∧ j < k
    · rw [mvG_in y.1 y.2] at j2
      rw [j2] at m
      exact absurd m (ren_out ok hp hp2 no ip nb j1 ((mi j1).mpr ⟨y.1, by omega⟩))
    · rw [mvG_out (by omega)] at j2
      rw [j2] at m
      have := (mi j1).mp m
      exact ⟨j, j1, by omega, this.2, j2⟩
  have go : ∀ e l2' , e < n → k < b → U e = T k → px_Wp sx 206 53 [some (.ref 619), some (.int (nI e)), l2', none, none, none] [] h Q := fun e l2' he kb ue => by
    have mk : mv p l (T k) := (mi (by omega)).mpr ⟨hk, kb⟩
    have mu : mv p l (U e) := by rw [ue]; exact mk
    refine m_moveOne_t h6 hv hv2 hv4 hn w ar.1 he mu pt hp po hp2 (by rw [ue]; exact ren_ok (ok.2.1 k (by omega)) hp hp2 mk (pa k (by omega)) q2 (nm k (by omega) mk)) (fun i hi z => ?_) (fun h' g gp w' c6 pt' po' fr sh => ?_)
    · rw [ue] at z
      obtain ⟨j, j1, j2⟩ := ar.2.1 i hi
      rw [j2] at z
      by_cases y : a ≤ j ∧ j < k
      · rw [mvG_in y.1 y.2] at z
        have := srt_uniq ok j1 (show k < n by omega) (ren_inj (ok.2.1 j j1).1 (ok.2.1 k (by omega)).1 hp ((mi j1).mpr ⟨y.1, by omega⟩) mk z)
        omega
      · rw [mvG_out (by omega)] at z
        exact ren_new ok hp hp2 no (show k < n by omega) j1 mk z.symm
    · rw [ue] at gp w'
      have tt : totN (insE (cutE U e (e + 1)) g (renE l p2 l2 (T k))) n = totN U n := by
        have e2 := totN_ins (E := cutE U e (e + 1)) (e := renE l p2 l2 (T k)) (g := g) (n - 1) gp.1
        rw [show n - 1 + 1 = n by omega] at e2
        have e3 := totN_cut (E := U) (a := e) (b := e + 1) (by omega) (n - (e + 1))
        rw [show e + (n - (e + 1)) = n - 1 by omega, show e + 1 + (n - (e + 1)) = n by omega] at e3
        have e4 : totN U (e + 1) = totN U e + eN (U e) := rfl
        have e5 : eN (renE l p2 l2 (T k)) = eN (U e) := by rw [ue]; rfl
        omega
      exact hQ1 h' _ kb (arr_step ok hp hp2 no ha ea eb hk kb ar he ue gp) tt w' c6 pt' po' fr sh
  have none_ : (∀ i, i < n → ¬ mv p l (U i)) → k = b := fun z => by
    by_cases y : k = b
    · exact y
    · obtain ⟨i, i1, i2⟩ := ar.2.2 k (by omega)
      rw [mvG_out (by omega)] at i2
      exact absurd (by rw [i2]; exact (mi (by omega)).mpr ⟨hk, by omega⟩) (z i i1)
  have neg : (-1 : Int32) < 0 := by decide
  have neg' : ¬ (0 : Int32) ≤ -1 := by decide
  have lp : (∀ i, i < n → ¬ eP (U i) = p) → ∀ d f, f + d = n → (∀ i, i < f → ¬ blw p l (eP (U i))) → px_Wp sx 206 11 [some (.ref 619), some (.int (-1)), some (.int (nI f)), none, none, none] [] h Q := by
    intro np d
    induction d with
    | zero =>
      intro f hf q
      have hf : f = n := by omega
      subst hf
      have le : nI f ≤ nI f := Int32.le_refl _
      simp only [pc206_11, pc206_12, pc206_12n, pc206_13, pc206_16, pc206_47, pc206_48, pc206_51, pc206_52, px_op_some, px_kv_ap, px_ki_ap, px_kl_ap, px_kn_ap, px_kh_ap, px_op_none, px_K_some, px_K_none, px_K_thr, px_kill, ↓reduceIte, if_true, if_false, true_and, and_true, px_gf, h6, mf_20, hv, le, neg', nar_0]
      exact hQ0 (none_ (fun i hi z => z.elim (np i hi) (q i hi)))
    | succ d ih =>
      intro f hf q
      have ge : ¬ nI n ≤ nI f := nI_ge (by omega) (by omega)
      rw [pc206_11]
      simp only [pc206_12, pc206_12n, pc206_13, pc206_16, pc206_19, pc206_20, pc206_23, pc206_23n, pc206_24, pc206_25, pc206_25n, pc206_26, pc206_29, px_op_some, px_kv_ap, px_ki_ap, px_kl_ap, px_kn_ap, px_kh_ap, px_op_none, px_K_some, px_K_none, px_K_thr, px_kill, ↓reduceIte, if_true, if_false, true_and, and_true, px_gf, h6, mf_20, mf_32, hv, hv2, ge, neg', hcls]
      refine m_isBelow h6 w (by omega) pt hp (fun y hy => ?_)
      rcases hy with ⟨rfl, hy⟩ | ⟨rfl, hy⟩
      · obtain ⟨j, j1, jk, jb, uj⟩ := back f (by omega) (.inr hy)
        have kb : k < b := by omega
        obtain ⟨i, i1, i2⟩ := ar.2.2 k (by omega)
        rw [mvG_out (by omega)] at i2
        have mk : mv p l (U i) := by rw [i2]; exact (mi (by omega)).mpr ⟨hk, kb⟩
        have fi : f ≤ i := by
          by_cases z : i < f
          · exact absurd mk (fun m => m.elim (np i i1) (q i z))
          · omega
        have uf : U f = T k := by
          by_cases z : f = i
          · rw [z]; exact i2
          · have lt := ar.1 f i (by omega) i1
            rw [uj, i2] at lt
            by_cases y : j = k
            · rw [uj, y]
            · exact absurd (ok.2.2.1 k j (by omega) j1) (fun q => plt_asym q lt)
        have pf : (0 : Int32) ≤ nI f := nI_pos' (by omega)
        have step : px_Wp sx 206 11 [some (.ref 619), some (.int (nI f)), some (.int (nI (f + 1))), none, none, none] [] h Q := by
          by_cases z : f + 1 = n
          · have le : nI n ≤ nI (f + 1) := nI_le (by omega) (by omega)
            simp only [pc206_11, pc206_12, pc206_12n, pc206_13, pc206_16, pc206_47, pc206_48, px_op_some, px_kv_ap, px_ki_ap, px_kl_ap, px_kn_ap, px_kh_ap, px_op_none, px_K_some, px_K_none, px_K_thr, px_kill, ↓reduceIte, if_true, if_false, true_and, and_true, px_gf, h6, mf_20, hv, le, pf]
            exact go f _ (by omega) kb uf
          · have ge' : ¬ nI n ≤ nI (f + 1) := nI_ge (by omega) (by omega)
            simp only [pc206_11, pc206_12, pc206_12n, pc206_13, pc206_16, pc206_19, pc206_20, pc206_47, pc206_48, px_op_some, px_kv_ap, px_ki_ap, px_kl_ap, px_kn_ap, px_kh_ap, px_op_none, px_K_some, px_K_none, px_K_thr, px_kill, ↓reduceIte, if_true, if_false, true_and, and_true, px_gf, h6, mf_20, hv, ge', pf]
            exact go f _ (by omega) kb uf
        simp only [px_K_some, pc206_32, pc206_35, pc206_36, pc206_39, pc206_40, pc206_41, pc206_44, ne_1_0, if_false, nI_p1, px_kill]
        exact step
      · simp only [px_K_some, pc206_32, pc206_39, pc206_40, pc206_41, pc206_44, if_true, nI_p1, px_kill]
        refine ih (f + 1) (by omega) (fun i hi => ?_)
        by_cases z : i = f
        · subst z; exact hy
        · exact q i (by omega)
  simp only [pc206_0, pc206_0n, pc206_1, pc206_1n, pc206_2, pc206_5, px_op_some, px_kv_ap, px_ki_ap, px_kl_ap, px_kn_ap, px_kh_ap, px_op_none, px_K_some, px_K_none, px_K_thr, px_kill, ↓reduceIte, if_true, if_false, true_and, and_true, px_gf, h6, mf_32, hv2, hcls]
  refine m_entryOf h6 hv (by omega) w (fun i hi => hi) pt (pth_rng hp) (by omega) (Nat.le_refl _) (fun y hy => ?_)
  rw [cutP_all hp] at hy
  rcases hy with ⟨i, i1, i2, rfl⟩ | ⟨i1, rfl⟩
  · obtain ⟨j, j1, jk, jb, uj⟩ := back i i1 (.inl i2)
    have ja : j = a := srt_uniq ok j1 ha (by rw [← uj, i2, ea])
    have kj : k = j := by omega
    have pf : (0 : Int32) ≤ nI i := nI_pos' (by omega)
    have ge : ¬ nI n ≤ 0 := nI_ge (a := 0) (by omega) (by omega)
    simp only [px_K_some, pc206_8, pc206_9, pc206_10, pc206_11, pc206_12, pc206_12n, pc206_13, pc206_16, pc206_19, pc206_20, pc206_47, pc206_48, px_op_some, px_kv_ap, px_ki_ap, px_kl_ap, px_kn_ap, px_kh_ap, px_op_none, px_K_some, px_K_none, px_K_thr, px_kill, ↓reduceIte, if_true, if_false, true_and, and_true, px_gf, h6, mf_20, hv, ge, pf, px_kill]
    exact go i _ i1 (by omega) (by rw [kj]; exact uj)
  · simp only [px_K_some, pc206_8, pc206_9, pc206_10, px_kill]
    exact lp i1 n 0 (by omega) (fun i hi => absurd hi (Nat.not_lt_zero i))
set_option maxRecDepth 16384 in
theorem m_move (h6 : h.2[619]? = some (.inl (11, modF V))) (hv : V 20 = nI n) (hv2 : V 32 = nI l) (hv4 : V 34 = nI l2) (hf : V 43 = 0) (hn : n ≤ 80) (ok : tOK n T) (pa : tPA n T) (w : mtE h (fun i => i < n) T) (pt : mpt h p l) (hp : pth p l) (po : mpo h p2 l2) (hp2 : pth p2 l2) (q2 : pathAt p2 0 l2)
    (hQ1 : ∀ h' U a b, mvP n T p l p2 l2 → a < n → eP (T a) = p → endE n T a b → arr n (mvG T l p2 l2 a b) U → totN U n = totN T n → mtE h' (fun i => i < n) U → h'.2[619]? = some (.inl (11, modF V)) → mpt h' p l → mpo h' p2 l2 → frm mvA h h' → (shape h → shape h') → Q (.inl none) h')
    (hQ0 : ∀ h', ¬ mvP n T p l p2 l2 → h'.2[619]? = some (.inl (11, modF (px_up V 43 3))) → frm mvA h h' → (shape h → shape h') → Q (.inl none) h') :
    px_Wp sx 201 0 [some (.ref 619), none] [] h Q := by
  have hcls : px_cls h 619 = some 11 := by unfold px_cls; rw [h6]
  simp only [pc201_0, pc201_0n, pc201_1, hcls, true_and]
  refine m_mayMove h6 hv hv2 hv4 hn ok w pt hp po hp2 q2 (fun x h1 sa c6 pt1 po1 fr sh => ?_)
  have hc1 : px_cls h1 619 = some 11 := by unfold px_cls; rw [c6]
  have w1 : mtE h1 (fun i => i < n) T := mtE_frm w (fun r hr => by unfold mEA at hr; exact fr.2.2 r (by unfold swA; omega))
  rcases sa with ⟨rfl, sa⟩ | ⟨rfl, sa⟩
  · obtain ⟨a, ha, ea⟩ := sa.1
    obtain ⟨b, eb⟩ := end_ex ha
    have bn := eb.2.1
    have lp : ∀ d k, k + d = b → a ≤ k → ∀ h2 U, arr n (mvG T l p2 l2 a k) U → totN U n = totN T n → mtE h2 (fun i => i < n) U → h2.2[619]? = some (.inl (11, modF V)) → mpt h2 p l → mpo h2 p2 l2 → frm mvA h h2 → (shape h → shape h2) → px_Wp sx 201 15 [some (.ref 619), some (.int 1)] [] h2 Q := by
      intro d
      induction d with
      | zero =>
        intro k hk ka h2 U ar tu w2 c62 pt2 po2 fr2 sh2
        have hk : k = b := by omega
        subst hk
        have hc2 : px_cls h2 619 = some 11 := by unfold px_cls; rw [c62]
        rw [pc201_15]
        simp only [pc201_16, pc201_19, pc201_19n, pc201_20, ne_1_0, if_false, hc2, true_and]
        refine m_moveOne c62 hv hv2 hv4 hn ok pa q2 sa ha ea eb ka (Nat.le_refl _) ar w2 pt2 hp po2 hp2 (fun h3 U' kb => absurd kb (Nat.lt_irrefl _)) (fun _ => ?_)
        simp only [px_K_some, pc201_23, pc201_24, pc201_15, pc201_16, pc201_27, if_true, px_kill]
        exact hQ1 h2 U a k sa ha ea eb ar tu w2 c62 pt2 po2 fr2 sh2
      | succ d ih =>
        intro k hk ka h2 U ar tu w2 c62 pt2 po2 fr2 sh2
        have hc2 : px_cls h2 619 = some 11 := by unfold px_cls; rw [c62]
        rw [pc201_15]
        simp only [pc201_16, pc201_19, pc201_19n, pc201_20, ne_1_0, if_false, hc2, true_and]
        refine m_moveOne c62 hv hv2 hv4 hn ok pa q2 sa ha ea eb ka (by omega) ar w2 pt2 hp po2 hp2 (fun h3 U' kb ar' tu' w3 c63 pt3 po3 fr3 sh3 => ?_) (fun z => by omega)
        simp only [px_K_some, pc201_23, pc201_24, px_kill]
        exact ih (k + 1) (by omega) (by omega) h3 U' ar' (tu'.trans tu) w3 c63 pt3 po3 (frm_trans fr2 fr3) (fun s => sh3 (sh2 s))
    have g0 : mvG T l p2 l2 a a = T := funext fun j => mvG_out (by omega)
    have ar0 : arr n (mvG T l p2 l2 a a) T := by
      rw [g0]
      exact ⟨ok.2.2.1, fun i hi => ⟨i, hi, rfl⟩, fun i hi => ⟨i, hi, rfl⟩⟩
    simp only [px_K_some, pc201_4, pc201_13, pc201_14, ne_1_0, not_false_eq_true, if_true, px_kill]
    exact lp (b - a) a (by have := eb.1; omega) (Nat.le_refl _) h1 T ar0 rfl w1 c6 pt1 po1 (frm_mvS fr) sh
  · simp only [px_K_some, pc201_4, pc201_7, pc201_7n, pc201_8, pc201_9, not_true_eq_false, if_false, hc1, true_and]
    refine m_fail (x := 3) c6 hf ?_
    simp only [px_K_none, pc201_12]
    exact hQ0 _ sa (by rw [wr_at, if_pos rfl, if_pos ((List.getElem?_eq_some_iff.mp c6).1)]) (frm_wr (frm_mvS fr) (.inl rfl)) (fun s => shape_mod (sh s))
end MMOVE2
