/-! A LINE OF COMMANDS, the reference's -/
section MRUN
variable {sx : Nat × (Nat → Int32)} {h : px_H} {nl f : Nat} {V X : Nat → Int32} {B : Nat → Nat} {t : aT} {Q : px_O → px_H → Prop}
/-- how the reference stands behind a line -/
def lnQ (r : Nat × aT) (h : px_H) (V : Nat → Int32) (Q : px_O → px_H → Prop) : Prop := ∀ h' V', V' 43 = nI r.1 → (r.1 = 0 → mtE h' (fun i => i < r.2.1) r.2.2 ∧ V' 20 = nI r.2.1) → h'.2[619]? = some (.inl (11, modF V')) → (∀ j, j ≠ 20 → j ≠ 32 → j ≠ 34 → j ≠ 43 → V' j = V j) → frm mvA h h' → shape h' → Q (.inl none) h'
set_option maxRecDepth 16384 in
theorem m_commands (hS : shape h) (h6 : h.2[619]? = some (.inl (11, modF V))) (hX : h.2[654]? = some (.inr (1, 9000, .inl X))) (hB : txM X nl B) (hnl : nl ≤ 200) (n4 : 4 ≤ nl) (h47 : V 47 = nI nl) (hf : V 43 = 0) (hv : V 20 = nI t.1) (w : mtE h (fun i => i < t.1) t.2) (sh : tSH t.1 t.2)
    (hQ : lnQ (runF B nl t) h V Q) : px_Wp sx 195 0 [some (.ref 619), none, none, none] [] h Q := by
  have lp : ∀ d f (u : aT) (h1 : px_H) (V1 : Nat → Int32) l2 l3, nl + 1 - f < d → f ≤ nl + 1 → tSH u.1 u.2 → mtE h1 (fun i => i < u.1) u.2 → V1 20 = nI u.1 → V1 43 = 0 → h1.2[619]? = some (.inl (11, modF V1)) → (∀ j, j ≠ 20 → j ≠ 32 → j ≠ 34 → j ≠ 43 → V1 j = V j) → frm mvA h h1 → shape h1 → rnF B nl d f u = runF B nl t → px_Wp sx 195 2 [some (.ref 619), some (.int (nI f)), l2, l3] [] h1 Q := by
    intro d
    induction d with
    | zero => intro f u h1 V1 l2 l3 hd; omega
    | succ d ih =>
      intro f u h1 V1 l2 l3 hd fn su w1 v20 v43 c6 ve fr hS1 re
      have v47 : V1 47 = nI nl := by rw [ve 47 (by decide) (by decide) (by decide) (by decide)]; exact h47
      have hc : px_cls h1 619 = some 11 := by unfold px_cls; rw [c6]
      have hX1 : h1.2[654]? = some (.inr (1, 9000, .inl X)) := frm_at fr (by unfold mvA; omega) hX
      by_cases big : nl < f
      · rw [rn_e big] at re
        have gt : nI nl < nI f := nI_lt big (by omega)
        simp only [pc195_2, pc195_2n, pc195_3, pc195_6, pc195_9, pc195_10, pc195_10n, pc195_11, pc195_14, pc195_105, px_op_some, px_kv_ap, px_ki_ap, px_kl_ap, px_kn_ap, px_kh_ap, px_op_none, px_K_some, px_K_none, px_K_thr, px_kill, ↓reduceIte, if_true, if_false, true_and, and_true, px_gf, c6, mf_43, mf_47, v43, v47, gt, not_true_eq_false]
        refine hQ h1 V1 ?_ (fun _ => ?_) c6 ve fr hS1
        · rw [← re]; exact v43
        · rw [← re]; exact ⟨w1, v20⟩
      have r := sg_rng (B := B) (show f ≤ nl by omega)
      have ngt : ¬ nI nl < nI f := nI_nlt (by omega) (by omega)
      -- the command
      have cmd : px_Wp sx 195 94 [some (.ref 619), some (.int (nI (sgS B nl f))), some (.int (nI (sgE B nl f))), some (.int (nI (sgQ B nl f + 1)))] [] h1 Q := by
        simp only [pc195_94, pc195_94n, pc195_95, pc195_96, pc195_97, hc, true_and]
        refine m_command (k := sgK B nl f) (t := u) hS1 c6 hX1 hB hnl r.2.1 (by omega) v43 v20 w1 su wK_s (fun h2 V2 x43 q2 c62 ve2 fr2 hS2 => ?_)
        have fr' := frm_trans fr fr2
        have ve' : ∀ j, j ≠ 20 → j ≠ 32 → j ≠ 34 → j ≠ 43 → V2 j = V j := fun j j1 j2 j3 j4 => (ve2 j j1 j2 j3 j4).trans (ve j j1 j2 j3 j4)
        simp only [px_K_none, pc195_100, pc195_101, pc195_102, px_kill]
        by_cases x0 : sgX B nl f u = 0
        · have e0 : cdX B (sgS B nl f) (sgE B nl f) (sgK B nl f) u = 0 := x0
          obtain ⟨w2, v202⟩ := q2 e0
          rw [e0] at x43
          rw [rn_s big x0] at re
          exact ih (sgQ B nl f + 1) (sgT B nl f u) h2 V2 _ _ (by omega) (by omega) (sg_sh (by omega) hnl su x0) w2 v202 x43 c62 ve' fr' hS2 re
        · have n0 : ¬ nI (cdX B (sgS B nl f) (sgE B nl f) (sgK B nl f) u) = 0 := fun z => x0 ((nI_eq (b := 0) (by have c4 : sgX B nl f u ≤ 4 := cdX_4le; omega) (by decide)).mp z)
          rw [rn_x big x0] at re
          simp only [pc195_2, pc195_2n, pc195_3, pc195_6, pc195_105, px_op_some, px_kv_ap, px_ki_ap, px_kl_ap, px_kn_ap, px_kh_ap, px_op_none, px_K_some, px_K_none, px_K_thr, px_kill, ↓reduceIte, if_true, if_false, true_and, and_true, px_gf, c62, mf_43, x43, n0, not_false_eq_true]
          refine hQ h2 V2 ?_ (fun z => ?_) c62 ve' fr' hS2
          · rw [← re]; exact x43
          · rw [← re] at z; exact absurd z x0
      have zI : ∀ {g}, g < nl → px_in (nI g) 9000 = true ∧ (nI g).toNatClampNeg = g ∧ X g = nI (B g) ∧ B g < 256 := fun {g} hg => ⟨px_inb (by omega) (by decide), nI_clamp (by omega), (hB g hg).1, (hB g hg).2⟩
      -- the spaces behind
      have lB : ∀ d, d ≤ sgQ B nl f - sgS B nl f → tmS B (sgS B nl f) d = sgE B nl f → px_Wp sx 195 70 [some (.ref 619), some (.int (nI (sgS B nl f))), some (.int (nI (sgS B nl f + d))), some (.int (nI (sgQ B nl f + 1)))] [] h1 Q := by
        intro d
        induction d with
        | zero =>
          intro _ e
          have le : nI (sgS B nl f) ≤ nI (sgS B nl f) := Int32.le_refl _
          have e : sgS B nl f = sgE B nl f := e
          simp only [pc195_70, pc195_71, pc195_72, Nat.add_zero, le, if_true]
          have := cmd
          rw [← e] at this
          exact this
        | succ d ih2 =>
          intro hd e
          have ge : ¬ nI (sgS B nl f + (d + 1)) ≤ nI (sgS B nl f) := nI_ge (by omega) (by omega)
          have sb2 : nI (sgS B nl f + (d + 1)) - 1 = nI (sgS B nl f + d) := by rw [show (1 : Int32) = nI 1 from rfl, nI_sub (by omega)]; congr 1
          have dec : nI (sgS B nl f + (d + 1)) + -1 = nI (sgS B nl f + d) := by rw [show sgS B nl f + (d + 1) = sgS B nl f + d + 1 by omega, nI_m1]
          obtain ⟨z1, z2, z3, z4⟩ := zI (show sgS B nl f + d < nl by omega)
          by_cases x : B (sgS B nl f + d) = 32
          · have x' : nI (B (sgS B nl f + d)) = 32 := by rw [x]; rfl
            rw [pc195_70]
            simp only [pc195_71, pc195_72, pc195_75, pc195_75n, pc195_76, pc195_79, pc195_80, pc195_81, pc195_82, pc195_83, pc195_85, pc195_88, pc195_91, px_op_some, px_kv_ap, px_ki_ap, px_kl_ap, px_kn_ap, px_kh_ap, px_op_none, px_K_some, px_K_none, px_K_thr, px_kill, ↓reduceIte, if_true, if_false, true_and, and_true, px_gf, px_ai, c6, mf_48, hX1, ge, sb2, dec, z1, z2, z3, x', not_true_eq_false, tg_i1, and_self, px_kill]
            refine ih2 (by omega) ?_
            have : tmS B (sgS B nl f) (d + 1) = tmS B (sgS B nl f) d := if_pos x
            rw [← this]; exact e
          · have x' : ¬ nI (B (sgS B nl f + d)) = 32 := fun z => x ((nI_eq (b := 32) (by omega) (by decide)).mp z)
            have : tmS B (sgS B nl f) (d + 1) = sgS B nl f + d + 1 := if_neg x
            rw [this] at e
            simp only [pc195_70, pc195_71, pc195_72, pc195_75, pc195_75n, pc195_76, pc195_79, pc195_80, pc195_81, pc195_82, pc195_83, pc195_85, px_op_some, px_kv_ap, px_ki_ap, px_kl_ap, px_kn_ap, px_kh_ap, px_op_none, px_K_some, px_K_none, px_K_thr, px_kill, ↓reduceIte, if_true, if_false, true_and, and_true, px_gf, px_ai, c6, mf_48, hX1, ge, sb2, z1, z2, z3, x', not_false_eq_true, tg_i1, and_self]
            rw [show sgS B nl f + (d + 1) = sgE B nl f by omega]
            exact cmd
      -- the spaces before
      have lA : ∀ d g, g + d = sgQ B nl f → f ≤ g → skS B g d = sgS B nl f → px_Wp sx 195 48 [some (.ref 619), some (.int (nI g)), some (.int (nI (sgQ B nl f))), some (.int (nI (sgQ B nl f + 1)))] [] h1 Q := by
        have out : px_Wp sx 195 70 [some (.ref 619), some (.int (nI (sgS B nl f))), some (.int (nI (sgQ B nl f))), some (.int (nI (sgQ B nl f + 1)))] [] h1 Q := by
          have := lB (sgQ B nl f - sgS B nl f) (Nat.le_refl _) rfl
          rw [show sgS B nl f + (sgQ B nl f - sgS B nl f) = sgQ B nl f by omega] at this
          exact this
        intro d
        induction d with
        | zero =>
          intro g hg fg e
          have le : nI (sgQ B nl f) ≤ nI g := nI_le (by omega) (by omega)
          have e : g = sgS B nl f := e
          simp only [pc195_48, pc195_49, pc195_50, le, if_true]
          rw [e]
          exact out
        | succ d ih2 =>
          intro g hg fg e
          have ge : ¬ nI (sgQ B nl f) ≤ nI g := nI_ge (by omega) (by omega)
          obtain ⟨z1, z2, z3, z4⟩ := zI (show g < nl by omega)
          by_cases x : B g = 32
          · have x' : nI (B g) = 32 := by rw [x]; rfl
            rw [pc195_48]
            simp only [pc195_49, pc195_50, pc195_53, pc195_53n, pc195_54, pc195_57, pc195_58, pc195_59, pc195_61, pc195_64, pc195_67, px_op_some, px_kv_ap, px_ki_ap, px_kl_ap, px_kn_ap, px_kh_ap, px_op_none, px_K_some, px_K_none, px_K_thr, px_kill, ↓reduceIte, if_true, if_false, true_and, and_true, px_gf, px_ai, c6, mf_48, hX1, ge, z1, z2, z3, x', not_true_eq_false, tg_i1, and_self, nI_p1, px_kill]
            refine ih2 (g + 1) (by omega) (by omega) ?_
            have : skS B g (d + 1) = skS B (g + 1) d := if_pos x
            rw [← this]; exact e
          · have x' : ¬ nI (B g) = 32 := fun z => x ((nI_eq (b := 32) (by omega) (by decide)).mp z)
            have : skS B g (d + 1) = g := if_neg x
            rw [this] at e
            simp only [pc195_48, pc195_49, pc195_50, pc195_53, pc195_53n, pc195_54, pc195_57, pc195_58, pc195_59, pc195_61, px_op_some, px_kv_ap, px_ki_ap, px_kl_ap, px_kn_ap, px_kh_ap, px_op_none, px_K_some, px_K_none, px_K_thr, px_kill, ↓reduceIte, if_true, if_false, true_and, and_true, px_gf, px_ai, c6, mf_48, hX1, ge, z1, z2, z3, x', not_false_eq_true, tg_i1, and_self]
            rw [e]
            exact out
      -- where the command ends
      have lQ : ∀ d g, g + d = nl → f ≤ g → fnd B 59 g d = sgQ B nl f → px_Wp sx 195 19 [some (.ref 619), some (.int (nI f)), some (.int (nI g)), l3] [] h1 Q := by
        have out : px_Wp sx 195 44 [some (.ref 619), some (.int (nI f)), some (.int (nI (sgQ B nl f))), l3] [] h1 Q := by
          simp only [pc195_44, pc195_45, pc195_46, pc195_47, nI_p1, px_kill]
          exact lA (sgQ B nl f - f) f (by omega) (Nat.le_refl _) rfl
        intro d
        induction d with
        | zero =>
          intro g hg fg e
          have le : nI nl ≤ nI g := nI_le (by omega) (by omega)
          have e : g = sgQ B nl f := e
          simp only [pc195_19, pc195_20, pc195_20n, pc195_21, pc195_24, px_op_some, px_kv_ap, px_ki_ap, px_kl_ap, px_kn_ap, px_kh_ap, px_op_none, px_K_some, px_K_none, px_K_thr, px_kill, ↓reduceIte, if_true, if_false, true_and, and_true, px_gf, c6, mf_47, v47, le]
          rw [e]
          exact out
        | succ d ih2 =>
          intro g hg fg e
          have ge : ¬ nI nl ≤ nI g := nI_ge (by omega) (by omega)
          obtain ⟨z1, z2, z3, z4⟩ := zI (show g < nl by omega)
          by_cases x : B g = 59
          · have x' : nI (B g) = 59 := by rw [x]; rfl
            have : fnd B 59 g (d + 1) = g := if_pos x
            rw [this] at e
            simp only [pc195_19, pc195_20, pc195_20n, pc195_21, pc195_24, pc195_27, pc195_27n, pc195_28, pc195_31, pc195_32, pc195_33, pc195_35, px_op_some, px_kv_ap, px_ki_ap, px_kl_ap, px_kn_ap, px_kh_ap, px_op_none, px_K_some, px_K_none, px_K_thr, px_kill, ↓reduceIte, if_true, if_false, true_and, and_true, px_gf, px_ai, c6, mf_47, mf_48, v47, hX1, ge, z1, z2, z3, x', tg_i1, and_self]
            rw [e]
            exact out
          · have x' : ¬ nI (B g) = 59 := fun z => x ((nI_eq (b := 59) (by omega) (by decide)).mp z)
            have : fnd B 59 g (d + 1) = fnd B 59 (g + 1) d := if_neg x
            rw [this] at e
            rw [pc195_19]
            simp only [pc195_20, pc195_20n, pc195_21, pc195_24, pc195_27, pc195_27n, pc195_28, pc195_31, pc195_32, pc195_33, pc195_35, pc195_38, pc195_41, px_op_some, px_kv_ap, px_ki_ap, px_kl_ap, px_kn_ap, px_kh_ap, px_op_none, px_K_some, px_K_none, px_K_thr, px_kill, ↓reduceIte, if_true, if_false, true_and, and_true, px_gf, px_ai, c6, mf_47, mf_48, v47, hX1, ge, z1, z2, z3, x', tg_i1, and_self, nI_p1, px_kill]
            exact ih2 (g + 1) (by omega) (by omega) e
      rw [pc195_2]
      simp only [pc195_3, pc195_6, pc195_9, pc195_10, pc195_10n, pc195_11, pc195_14, pc195_17, pc195_18, px_op_some, px_kv_ap, px_ki_ap, px_kl_ap, px_kn_ap, px_kh_ap, px_op_none, px_K_some, px_K_none, px_K_thr, px_kill, ↓reduceIte, if_true, if_false, true_and, and_true, px_gf, c6, mf_43, mf_47, v43, v47, ngt, not_true_eq_false, px_kill]
      exact lQ (nl - f) f (by omega) (Nat.le_refl _) rfl
  simp only [pc195_0, pc195_1, px_kill]
  exact lp (nl + 2) 4 t h V _ _ (by omega) (by omega) sh w hv hf h6 (fun j _ _ _ _ => rfl) (frm_refl _ _) hS (by unfold runF; rw [Nat.min_eq_left n4])
end MRUN
