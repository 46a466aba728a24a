/-! COMMANDS, the reference's: join -/
def jnA (r : Nat) : Prop := mEB r ∨ r = 647 ∨ r = 648
section MJOIN
variable {sx : Nat × (Nat → Int32)} {h : px_H} {n l l2 : Nat} {T : Nat → aE} {p p2 : Nat → Nat} {V : Nat → Int32} {Q : px_O → px_H → Prop}
set_option maxRecDepth 16384 in
theorem m_join (h6 : h.2[619]? = some (.inl (11, modF V))) (hv : V 20 = nI n) (hv2 : V 32 = nI l) (hv4 : V 34 = nI l2) (hf : V 43 = 0) (ok : tOK n T) (hn : n ≤ 40) (ht : totN T n ≤ 1000) (hb : ∀ i, i < n → eN (T i) ≤ totN T n) (w : mtE h (fun i => i < n) T) (pt : mpt h p l) (hp : pth p l) (po : mpo h p2 l2) (hp2 : pth p2 l2)
    (hQ1 : ∀ i j h', i < n → eP (T i) = p → eK (T i) = 2 → j < n → eP (T j) = p2 → eK (T j) = 2 → totN T n + eN (T j) ≤ 1000 → mtE h' (fun i => i < n) (px_up T i (ctE (T i) (eN (T j)) (eC (T j)))) → h'.2[619]? = some (.inl (11, modF V)) → frm jnA h h' → (shape h → shape h') → Q (.inl none) h')
    (hQ0 : ∀ (x : Nat) h', (¬ ((∃ i, i < n ∧ eP (T i) = p ∧ eK (T i) = 2) ∧ ∃ j, j < n ∧ eP (T j) = p2 ∧ eK (T j) = 2) ∧ x = 3 ∨ (∃ i, i < n ∧ eP (T i) = p ∧ eK (T i) = 2) ∧ (∃ j, j < n ∧ eP (T j) = p2 ∧ eK (T j) = 2 ∧ 1000 < totN T n + eN (T j)) ∧ x = 4) → h'.2[619]? = some (.inl (11, modF (px_up V 43 (nI x)))) → frm jnA h h' → (shape h → shape h') → Q (.inl none) h') :
    px_Wp sx 207 0 [some (.ref 619), none, none, none, none] [] h Q := by
  have hcls : px_cls h 619 = some 11 := by unfold px_cls; rw [h6]
  have l35 := hp.2.1
  have l35' := hp2.2.1
  have cutp := cutP_all hp
  have cutp2 := cutP_all hp2
  simp only [pc207_0, pc207_0n, pc207_1, pc207_1n, pc207_2, pc207_5, px_op_some, px_kv_ap, px_ki_ap, px_kl_ap, px_kn_ap, px_kh_ap, px_op_none, px_K_some, px_K_none, px_K_thr, px_kill, ↓reduceIte, if_true, if_false, true_and, and_true, px_gf, h6, mf_32, hv2, hcls]
  refine m_entryOf h6 hv (by omega) w (fun i hi => hi) pt (pth_rng hp) (by omega) (Nat.le_refl _) (fun x hx => ?_)
  rw [cutp] at hx
  simp only [px_K_some, pc207_8, pc207_9, pc207_9n, pc207_10, px_op_some, px_kv_ap, px_ki_ap, px_kl_ap, px_kn_ap, px_kh_ap, px_op_none, px_K_some, px_K_none, px_K_thr, px_kill, ↓reduceIte, if_true, if_false, true_and, and_true, px_kill, hcls]
  refine m_swap h6 hv2 hv4 pt po (by omega) (by omega) (fun h1 c6 pt1 po1 fr1 sh1 => ?_)
  have hcl1 : px_cls h1 619 = some 11 := by unfold px_cls; rw [c6]
  have w1 : mtE h1 (fun i => i < n) T := mtE_frm w (fun r hr => fr1.2.2 r (by unfold mEA at hr; unfold swA; omega))
  have u20 : swV V l l2 20 = nI n := by unfold swV; rw [up_ne (by decide), up_ne (by decide)]; exact hv
  have u32 : swV V l l2 32 = nI l2 := by unfold swV; rw [up_ne (by decide), up_same]
  have u34 : swV V l l2 34 = nI l := by unfold swV; rw [up_same]
  simp only [px_K_none, pc207_13, pc207_13n, pc207_14, pc207_14n, pc207_15, pc207_18, px_op_some, px_kv_ap, px_ki_ap, px_kl_ap, px_kn_ap, px_kh_ap, px_op_none, px_K_some, px_K_none, px_K_thr, px_kill, ↓reduceIte, if_true, if_false, true_and, and_true, px_gf, c6, mf_32, u32, hcl1]
  refine m_entryOf c6 u20 (by omega) w1 (fun i hi => hi) pt1 (pth_rng hp2) (by omega) (Nat.le_refl _) (fun y hy => ?_)
  rw [cutp2] at hy
  simp only [px_K_some, pc207_21, pc207_22, pc207_22n, pc207_23, px_op_some, px_kv_ap, px_ki_ap, px_kl_ap, px_kn_ap, px_kh_ap, px_op_none, px_K_some, px_K_none, px_K_thr, px_kill, ↓reduceIte, if_true, if_false, true_and, and_true, px_kill, hcl1]
  refine m_swap c6 u32 u34 pt1 po1 (by omega) (by omega) (fun h2 d6 pt2 po2 fr2 sh2 => ?_)
  rw [swV_2 hv2 hv4] at d6
  have hcl2 : px_cls h2 619 = some 11 := by unfold px_cls; rw [d6]
  have w2 : mtE h2 (fun i => i < n) T := mtE_frm w1 (fun r hr => fr2.2.2 r (by unfold mEA at hr; unfold swA; omega))
  have L2 : 619 < h2.2.length := (List.getElem?_eq_some_iff.mp d6).1
  have fr : frm jnA h h2 := frm_trans (frm_mono fr1 (fun r hr => by unfold swA at hr; unfold jnA mEB; omega)) (frm_mono fr2 (fun r hr => by unfold swA at hr; unfold jnA mEB; omega))
  have sh : shape h → shape h2 := fun z => sh2 (sh1 z)
  have bad : ∀ x : Nat, (¬ ((∃ i, i < n ∧ eP (T i) = p ∧ eK (T i) = 2) ∧ ∃ j, j < n ∧ eP (T j) = p2 ∧ eK (T j) = 2) ∧ x = 3 ∨ (∃ i, i < n ∧ eP (T i) = p ∧ eK (T i) = 2) ∧ (∃ j, j < n ∧ eP (T j) = p2 ∧ eK (T j) = 2 ∧ 1000 < totN T n + eN (T j)) ∧ x = 4) → Q (.inl none) (px_wr h2 619 (.inl (11, modF (px_up V 43 (nI x))))) := fun x hx =>
    hQ0 x _ hx (by rw [wr_at, if_pos rfl, if_pos L2]) (frm_wr fr (.inl (.inr rfl))) (fun z => shape_mod (sh z))
  have no3 : ¬ ((∃ i, i < n ∧ eP (T i) = p ∧ eK (T i) = 2) ∧ ∃ j, j < n ∧ eP (T j) = p2 ∧ eK (T j) = 2) → ∀ L, px_Wp sx 207 54 (some (.ref 619) :: L) [] h2 Q → px_Wp sx 207 54 (some (.ref 619) :: L) [] h2 Q := fun _ _ z => z
  have w2' := w2
  obtain ⟨P, LN, K, Z, C, ⟨a1, a2, a3, a4, a5⟩, we⟩ := w2'
  have lt0 : (-1 : Int32) < 0 := by decide
  rcases hx with ⟨i, i1, i2, rfl⟩ | ⟨nox, rfl⟩
  · have ng : ¬ nI i < 0 := nI_pos (by omega)
    obtain ⟨i82, oki, r1, r2, r3, r4, r5⟩ := we i i1
    have ii : px_in (nI i) 82 = true := px_inb i82 (by decide)
    have ci : (nI i).toNatClampNeg = i := nI_clamp (by omega)
    rcases hy with ⟨j, j1, j2, rfl⟩ | ⟨noy, rfl⟩
    · have ngj : ¬ nI j < 0 := nI_pos (by omega)
      obtain ⟨j82, okj, s1, s2, s3, s4, s5⟩ := we j j1
      have ij : px_in (nI j) 82 = true := px_inb j82 (by decide)
      have cj : (nI j).toNatClampNeg = j := nI_clamp (by omega)
      have bi := hb i i1
      have bj := hb j j1
      by_cases k2 : eK (T i) = 2
      · have e2 : nI (eK (T i)) = 2 := by rw [k2]; rfl
        by_cases q2 : eK (T j) = 2
        · have f2 : nI (eK (T j)) = 2 := by rw [q2]; rfl
          simp only [px_K_none, pc207_26, pc207_27, pc207_30, pc207_31, pc207_34, pc207_34n, pc207_35, pc207_38, pc207_39, pc207_40, pc207_41, pc207_44, pc207_44n, pc207_45, pc207_48, pc207_49, pc207_50, pc207_51, pc207_60, pc207_60n, pc207_61, pc207_64, pc207_65, pc207_66, pc207_67, pc207_67n, pc207_68, px_op_some, px_kv_ap, px_ki_ap, px_kl_ap, px_kn_ap, px_kh_ap, px_op_none, px_K_some, px_K_none, px_K_thr, px_kill, ↓reduceIte, if_true, if_false, true_and, and_true, px_gf, px_ai, d6, mf_23, mf_24, a3, a4, ng, ngj, ii, ci, ij, cj, r2, s2, s3, e2, f2, tg_i1, and_self, not_true_eq_false, px_kill, hcl2]
          refine m_total d6 hv (by omega) w2 (fun i hi => hi) ?_
          by_cases big : totN T n + eN (T j) ≤ 1000
          · have le : nI (totN T n + eN (T j)) ≤ 1000 := nI_le (b := 1000) big (by decide)
            simp only [px_K_some, pc207_71, pc207_72, pc207_73, pc207_76, pc207_79, pc207_79n, pc207_80, pc207_81, pc207_84, pc207_85, pc207_86, px_op_some, px_kv_ap, px_ki_ap, px_kl_ap, px_kn_ap, px_kh_ap, px_op_none, px_K_some, px_K_none, px_K_thr, px_kill, ↓reduceIte, if_true, if_false, true_and, and_true, nI_add, le, px_kill]
            have lp : ∀ d k, k + d = eN (T j) → ∀ h3 Z1 C1, adS h2 h3 Z1 C1 → Z1 i = nI (eN (T i) + k) → (∀ q, q ≠ i → Z1 q = Z q) → (∀ q, q < k → C1 (1001 * i + (eN (T i) + q)) = eC (T j) q) → (∀ q, q < 1001 * i + eN (T i) ∨ 1001 * i + (eN (T i) + k) ≤ q → C1 q = C q) → px_Wp sx 207 88 [some (.ref 619), some (.int (nI i)), some (.int (nI j)), some (.int (nI (eN (T j)))), some (.int (nI k))] [] h3 Q := by
              intro d
              induction d with
              | zero =>
                intro k hk h3 Z1 C1 s1 q1 q2' q3 q4
                have hk : k = eN (T j) := by omega
                subst hk
                have le : nI (eN (T j)) ≤ nI (eN (T j)) := Int32.le_refl _
                simp only [pc207_88, pc207_90, pc207_91, pc207_140, px_op_some, px_kv_ap, px_ki_ap, px_kl_ap, px_kn_ap, px_kh_ap, px_op_none, px_K_some, px_K_none, px_K_thr, px_kill, ↓reduceIte, if_true, if_false, true_and, and_true, le]
                exact hQ1 i j h3 i1 i2 k2 j1 j2 q2 big (add_end a1 a2 a3 we i1 k2 (by omega) s1 q1 q2' q3 q4) (frm_at s1.1 (by unfold adA; omega) d6) (frm_trans fr (frm_mono s1.1 (fun r hr => .inl (.inl (by unfold adA at hr; unfold mEA; omega))))) (fun z => s1.2.1 (sh z))
              | succ d ih =>
                intro k hk h3 Z1 C1 s1 q1 q2' q3 q4
                have s1' := s1
                obtain ⟨b1, b2, b3, b4⟩ := s1'
                have c6' : h3.2[619]? = some (.inl (11, modF V)) := frm_at b1 (by unfold adA; omega) d6
                have ge : ¬ nI (eN (T j)) ≤ nI k := nI_ge (by omega) (by omega)
                have it : px_in (nI (1001 * i + (eN (T i) + k))) 82082 = true := px_inb (by omega) (by decide)
                have ct : (nI (1001 * i + (eN (T i) + k))).toNatClampNeg = 1001 * i + (eN (T i) + k) := nI_clamp (by omega)
                have is_ : px_in (nI (1001 * j + k)) 82082 = true := px_inb (by omega) (by decide)
                have cs : (nI (1001 * j + k)).toNatClampNeg = 1001 * j + k := nI_clamp (by omega)
                have xk : C1 (1001 * j + k) = eC (T j) k := by
                  rw [q4 _ ?_]
                  · exact s5 k (by omega)
                  · by_cases z : j = i
                    · subst z; omega
                    · omega
                have s2' := adS_C (Y := px_up C1 (1001 * i + (eN (T i) + k)) (eC (T j) k)) s1
                have d6' := frm_at s2'.1 (show ¬ adA 619 by unfold adA; omega) d6
                have d3 := s2'.2.2.1
                rw [pc207_88]
                simp only [pc207_90, pc207_91, pc207_94, pc207_94n, pc207_95, pc207_98, pc207_101, pc207_102, pc207_103, pc207_103n, pc207_104, pc207_107, pc207_108, pc207_109, pc207_110, pc207_110n, pc207_111, pc207_114, pc207_117, pc207_118, pc207_119, pc207_121, pc207_122, pc207_123, pc207_124, pc207_124n, pc207_125, pc207_128, pc207_129, pc207_130, pc207_131, pc207_132, pc207_133, pc207_134, pc207_137, px_op_some, px_kv_ap, px_ki_ap, px_kl_ap, px_kn_ap, px_kh_ap, px_op_none, px_K_some, px_K_none, px_K_thr, px_kill, ↓reduceIte, if_true, if_false, true_and, and_true, px_gf, px_ai, px_wi, c6', mf_24, mf_25, b3, b4, ge, ii, ci, q1, mul_1001, nI_add, it, ct, is_, cs, xk, d6', d3, nar1, tg_i1, and_self, px_kill, nI_p1]
                refine ih (k + 1) (by omega) _ _ _ (adS_Z s2') (up_same _ _ _) (fun q hq => by rw [up_ne hq]; exact q2' q hq) (fun q hq => ?_) (fun q hq => ?_)
                · by_cases x : q = k
                  · subst x; exact up_same _ _ _
                  · rw [up_ne (by omega)]; exact q3 q (by omega)
                · rw [up_ne (by omega)]; exact q4 q (by omega)
            exact lp (eN (T j)) 0 (by omega) h2 Z C ⟨frm_refl _ _, fun z => z, a4, a5⟩ r3 (fun _ _ => rfl) (fun q hq => absurd hq (Nat.not_lt_zero q)) (fun _ _ => rfl)
          · have le : ¬ nI (totN T n + eN (T j)) ≤ 1000 := nI_ge (a := 1000) (by omega) (by omega)
            simp only [px_K_some, pc207_71, pc207_72, pc207_73, pc207_76, pc207_79, pc207_79n, pc207_80, pc207_81, px_op_some, px_kv_ap, px_ki_ap, px_kl_ap, px_kn_ap, px_kh_ap, px_op_none, px_K_some, px_K_none, px_K_thr, px_kill, ↓reduceIte, if_true, if_false, true_and, and_true, nI_add, le, hcl2]
            refine m_fail (x := 4) d6 hf ?_
            simp only [px_K_none, pc207_84]
            exact bad 4 (.inr ⟨⟨i, i1, i2, k2⟩, ⟨j, j1, j2, q2, by omega⟩, rfl⟩)
        · have f2 : ¬ nI (eK (T j)) = 2 := fun z => q2 ((nI_eq (b := 2) (by rcases okj.2 with ⟨z, -⟩ | ⟨z, -⟩ <;> omega) (by decide)).mp z)
          simp only [px_K_none, pc207_26, pc207_27, pc207_30, pc207_31, pc207_34, pc207_34n, pc207_35, pc207_38, pc207_39, pc207_40, pc207_41, pc207_44, pc207_44n, pc207_45, pc207_48, pc207_49, pc207_50, pc207_51, pc207_54, pc207_54n, pc207_55, pc207_56, px_op_some, px_kv_ap, px_ki_ap, px_kl_ap, px_kn_ap, px_kh_ap, px_op_none, px_K_some, px_K_none, px_K_thr, px_kill, ↓reduceIte, if_true, if_false, true_and, and_true, px_gf, px_ai, d6, mf_23, a3, ng, ngj, ii, ci, ij, cj, r2, s2, e2, f2, tg_i1, and_self, not_true_eq_false, hcl2]
          refine m_fail (x := 3) d6 hf ?_
          simp only [px_K_none, pc207_59]
          exact bad 3 (.inl ⟨fun ⟨_, q, q1, q2', q3⟩ => by rw [srt_uniq ok q1 j1 (q2'.trans j2.symm)] at q3; exact q2 q3, rfl⟩)
      · have e2 : ¬ nI (eK (T i)) = 2 := fun z => k2 ((nI_eq (b := 2) (by rcases oki.2 with ⟨z, -⟩ | ⟨z, -⟩ <;> omega) (by decide)).mp z)
        simp only [px_K_none, pc207_26, pc207_27, pc207_30, pc207_31, pc207_34, pc207_34n, pc207_35, pc207_38, pc207_39, pc207_40, pc207_41, pc207_54, pc207_54n, pc207_55, pc207_56, px_op_some, px_kv_ap, px_ki_ap, px_kl_ap, px_kn_ap, px_kh_ap, px_op_none, px_K_some, px_K_none, px_K_thr, px_kill, ↓reduceIte, if_true, if_false, true_and, and_true, px_gf, px_ai, d6, mf_23, a3, ng, ngj, ii, ci, r2, e2, tg_i1, and_self, not_false_eq_true, hcl2]
        refine m_fail (x := 3) d6 hf ?_
        simp only [px_K_none, pc207_59]
        exact bad 3 (.inl ⟨fun ⟨⟨q, q1, q2', q3⟩, _⟩ => by rw [srt_uniq ok q1 i1 (q2'.trans i2.symm)] at q3; exact k2 q3, rfl⟩)
    · simp only [px_K_none, pc207_26, pc207_27, pc207_30, pc207_31, pc207_54, pc207_54n, pc207_55, pc207_56, px_op_some, px_kv_ap, px_ki_ap, px_kl_ap, px_kn_ap, px_kh_ap, px_op_none, px_K_some, px_K_none, px_K_thr, px_kill, ↓reduceIte, if_true, if_false, true_and, and_true, ng, lt0, hcl2]
      refine m_fail (x := 3) d6 hf ?_
      simp only [px_K_none, pc207_59]
      exact bad 3 (.inl ⟨fun ⟨_, q, q1, q2', _⟩ => noy q q1 q2', rfl⟩)
  · simp only [px_K_none, pc207_26, pc207_27, pc207_54, pc207_54n, pc207_55, pc207_56, px_op_some, px_kv_ap, px_ki_ap, px_kl_ap, px_kn_ap, px_kh_ap, px_op_none, px_K_some, px_K_none, px_K_thr, px_kill, ↓reduceIte, if_true, if_false, true_and, and_true, lt0, hcl2]
    refine m_fail (x := 3) d6 hf ?_
    simp only [px_K_none, pc207_59]
    exact bad 3 (.inl ⟨fun ⟨⟨q, q1, q2', _⟩, _⟩ => nox q q1 q2', rfl⟩)
end MJOIN
