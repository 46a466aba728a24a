/-! A LINE OF COMMANDS -/
def skS (B : Nat → Nat) : Nat → Nat → Nat
  | f, 0 => f
  | f, d + 1 => if B f = 32 then skS B (f + 1) d else f
def tmS (B : Nat → Nat) (s : Nat) : Nat → Nat
  | 0 => s
  | d + 1 => if B (s + d) = 32 then tmS B s d else s + d + 1
def sgQ (B : Nat → Nat) (nl f : Nat) : Nat := fnd B 59 f (nl - f)
def sgS (B : Nat → Nat) (nl f : Nat) : Nat := skS B f (sgQ B nl f - f)
def sgE (B : Nat → Nat) (nl f : Nat) : Nat := tmS B (sgS B nl f) (sgQ B nl f - sgS B nl f)
noncomputable def wK (B : Nat → Nat) (s f : Nat) : Nat := pif (wrd B s f (wd 0)) 0 (pif (wrd B s f (wd 1)) 1 (pif (wrd B s f (wd 2)) 2 (pif (wrd B s f (wd 3)) 3 (pif (wrd B s f (wd 4)) 4 (pif (wrd B s f (wd 5)) 5 6)))))
noncomputable def sgK (B : Nat → Nat) (nl f : Nat) : Nat := wK B (sgS B nl f) (fnd B 32 (sgS B nl f) (sgE B nl f - sgS B nl f))
noncomputable def sgX (B : Nat → Nat) (nl f : Nat) (t : aT) : Nat := cdX B (sgS B nl f) (sgE B nl f) (sgK B nl f) t
noncomputable def sgT (B : Nat → Nat) (nl f : Nat) (t : aT) : aT := dnF B (sgS B nl f) (sgE B nl f) (sgK B nl f) t
noncomputable def rnF (B : Nat → Nat) (nl : Nat) : Nat → Nat → aT → Nat × aT
  | 0, _, t => (0, t)
  | d + 1, f, t => if nl < f then (0, t) else if sgX B nl f t = 0 then rnF B nl d (sgQ B nl f + 1) (sgT B nl f t) else (sgX B nl f t, t)
noncomputable def runF (B : Nat → Nat) (nl : Nat) (t : aT) : Nat × aT := rnF B nl (nl + 2) (min 4 nl) t
section RUN
variable {sx : Nat × (Nat → Int32)} {h : px_H} {nl f s e : Nat} {ff : Nat → Int32} {B : Nat → Nat} {t : aT} {Q : px_O → px_H → Prop}
set_option maxRecDepth 16384 in
theorem sk_rng : ∀ d f, f ≤ skS B f d ∧ skS B f d ≤ f + d
  | 0, f => ⟨Nat.le_refl _, Nat.le_refl _⟩
  | d + 1, f => by
    have := sk_rng d (f + 1)
    show f ≤ (if B f = 32 then skS B (f + 1) d else f) ∧ (if B f = 32 then skS B (f + 1) d else f) ≤ f + (d + 1)
    split <;> omega
set_option maxRecDepth 16384 in
theorem tm_rng : ∀ d, s ≤ tmS B s d ∧ tmS B s d ≤ s + d
  | 0 => ⟨Nat.le_refl _, Nat.le_refl _⟩
  | d + 1 => by
    have := tm_rng d
    show s ≤ (if B (s + d) = 32 then tmS B s d else s + d + 1) ∧ (if B (s + d) = 32 then tmS B s d else s + d + 1) ≤ s + (d + 1)
    split <;> omega
set_option maxRecDepth 16384 in
theorem sg_rng (hf : f ≤ nl) : f ≤ sgS B nl f ∧ sgS B nl f ≤ sgE B nl f ∧ sgE B nl f ≤ sgQ B nl f ∧ sgQ B nl f ≤ nl := by
  have a := fnd_rng (B := B) (c := 59) (nl - f) f
  have b := sk_rng (B := B) (sgQ B nl f - f) f
  have c := tm_rng (B := B) (s := sgS B nl f) (sgQ B nl f - sgS B nl f)
  have a' : f ≤ sgQ B nl f ∧ sgQ B nl f ≤ f + (nl - f) := a
  have b' : f ≤ sgS B nl f ∧ sgS B nl f ≤ f + (sgQ B nl f - f) := b
  have c' : sgS B nl f ≤ sgE B nl f ∧ sgE B nl f ≤ sgS B nl f + (sgQ B nl f - sgS B nl f) := c
  omega
set_option maxRecDepth 16384 in
theorem wK_s : wdK B s e (wK B s e) := by
  unfold wK
  by_cases a0 : wrd B s e (wd 0)
  · rw [pif_t a0]; exact .inl ⟨by decide, a0⟩
  rw [pif_f a0]
  by_cases a1 : wrd B s e (wd 1)
  · rw [pif_t a1]; exact .inl ⟨by decide, a1⟩
  rw [pif_f a1]
  by_cases a2 : wrd B s e (wd 2)
  · rw [pif_t a2]; exact .inl ⟨by decide, a2⟩
  rw [pif_f a2]
  by_cases a3 : wrd B s e (wd 3)
  · rw [pif_t a3]; exact .inl ⟨by decide, a3⟩
  rw [pif_f a3]
  by_cases a4 : wrd B s e (wd 4)
  · rw [pif_t a4]; exact .inl ⟨by decide, a4⟩
  rw [pif_f a4]
  by_cases a5 : wrd B s e (wd 5)
  · rw [pif_t a5]; exact .inl ⟨by decide, a5⟩
  rw [pif_f a5]
  refine .inr ⟨rfl, fun j hj => ?_⟩
  have : j = 0 ∨ j = 1 ∨ j = 2 ∨ j = 3 ∨ j = 4 ∨ j = 5 := by omega
  rcases this with rfl | rfl | rfl | rfl | rfl | rfl <;> assumption
set_option maxRecDepth 16384 in
theorem wK_c {x : Int32} (c : cmR B s e x) : wK B s e < 6 ∧ x = nI (wK B s e) ∨ wK B s e = 6 ∧ x = -1 := by
  have w := wK_s (B := B) (s := s) (e := e)
  rcases c with ⟨k, k1, k2, rfl⟩ | ⟨c1, rfl⟩
  · rcases w with ⟨w1, w2⟩ | ⟨-, w2⟩
    · have := wd_inj k k1 _ w1 (wrd_uniq k2 w2)
      exact .inl ⟨w1, by rw [this]⟩
    · exact absurd k2 (w2 k k1)
  · rcases w with ⟨w1, w2⟩ | ⟨w1, -⟩
    · exact absurd w2 (c1 _ w1)
    · exact .inr ⟨w1, rfl⟩
set_option maxRecDepth 16384 in
theorem rn_e {d : Nat} (h1 : nl < f) : rnF B nl (d + 1) f t = (0, t) := if_pos h1
set_option maxRecDepth 16384 in
theorem rn_s {d : Nat} (h1 : ¬ nl < f) (h2 : sgX B nl f t = 0) : rnF B nl (d + 1) f t = rnF B nl d (sgQ B nl f + 1) (sgT B nl f t) := by
  show (if nl < f then (0, t) else _) = _
  rw [if_neg h1, if_pos h2]
set_option maxRecDepth 16384 in
theorem rn_x {d : Nat} (h1 : ¬ nl < f) (h2 : ¬ sgX B nl f t = 0) : rnF B nl (d + 1) f t = (sgX B nl f t, t) := by
  show (if nl < f then (0, t) else _) = _
  rw [if_neg h1, if_neg h2]
set_option maxRecDepth 16384 in
theorem sg_lm (hf : f ≤ nl) (hn : nl ≤ 200) {k : Nat} : cLm B (sgS B nl f) (sgE B nl f) k ≤ 1000 := by
  have := sg_rng (B := B) hf
  unfold cLm; omega
set_option maxRecDepth 16384 in
theorem sg_pT {k : Nat} (hs : s ≤ e) : pT B s e k ≤ e := by unfold pT; omega
set_option maxRecDepth 16384 in
theorem sg_sh (hf : f ≤ nl) (hn : nl ≤ 200) (sh : tSH t.1 t.2) (x0 : sgX B nl f t = 0) : tSH (sgT B nl f t).1 (sgT B nl f t).2 := cdX_sh sh (sg_lm hf hn) x0
set_option maxRecDepth 16384 in
theorem sg_by (hf : f ≤ nl) (hB : ∀ j, j < nl → B j < 256) (hb : tBY t) (x0 : sgX B nl f t = 0) : tBY (sgT B nl f t) := by
  have r := sg_rng (B := B) hf
  exact cdX_by hb (fun j hj => hB j (by omega)) (sg_pT r.2.1) x0
/-! what the whole line leaves is as it must be -/
set_option maxRecDepth 16384 in
theorem rn_sh (hn : nl ≤ 200) (hB : ∀ j, j < nl → B j < 256) : ∀ d f t, tSH t.1 t.2 → tBY t → (rnF B nl d f t).1 = 0 → tSH (rnF B nl d f t).2.1 (rnF B nl d f t).2.2 ∧ tBY (rnF B nl d f t).2
  | 0, f, t, sh, hb, _ => ⟨sh, hb⟩
  | d + 1, f, t, sh, hb, x0 => by
    by_cases h1 : nl < f
    · rw [rn_e h1]; exact ⟨sh, hb⟩
    · by_cases h2 : sgX B nl f t = 0
      · rw [rn_s h1 h2] at x0 ⊢
        exact rn_sh hn hB d _ _ (sg_sh (by omega) hn sh h2) (sg_by (by omega) hB hb h2) x0
      · rw [rn_x h1 h2] at x0
        exact absurd x0 h2
set_option maxRecDepth 16384 in
theorem rn_4 : ∀ d f t, (rnF B nl d f t).1 ≤ 4
  | 0, f, t => Nat.zero_le _
  | d + 1, f, t => by
    by_cases h1 : nl < f
    · rw [rn_e h1]; exact Nat.zero_le _
    · by_cases h2 : sgX B nl f t = 0
      · rw [rn_s h1 h2]; exact rn_4 d _ _
      · rw [rn_x h1 h2]; exact cdX_4le
/-! a line that is too short -/
set_option maxRecDepth 16384 in
theorem run_3 (hn : nl < 4) : runF B nl t = (1, t) := by
  have e4 : min 4 nl = nl := Nat.min_eq_right (by omega)
  have r := sg_rng (B := B) (Nat.le_refl nl)
  have s1 : sgS B nl nl = nl := by omega
  have e1 : sgE B nl nl = nl := by omega
  have f1 : fnd B 32 nl (nl - nl) = nl := by
    have := fnd_rng (B := B) (c := 32) (nl - nl) nl
    omega
  have k6 : sgK B nl nl = 6 := by
    unfold sgK
    rw [s1, e1, f1]
    rcases wK_s (B := B) (s := nl) (e := nl) with ⟨a, b⟩ | ⟨a, -⟩
    · have := b.1
      have l0 : ∀ k, k < 6 → (wd k).length ≠ 0 := by decide
      have := l0 _ a
      omega
    · exact a
  have x1 : sgX B nl nl t = 1 := by unfold sgX; rw [k6]; exact cdX_1 (fun z => by omega)
  unfold runF
  rw [e4, rn_x (Nat.lt_irrefl _) (by omega), x1]
set_option maxRecDepth 16384 in
theorem c_runLine (hS : shape h) (w : rowAt h 83 200 nl ff) (hB : txA ff nl B) (tr : trS h 249 t.1 t.2) (sh : tSH t.1 t.2)
    (hQ : ∀ h', tre h' 249 → ((runF B nl t).1 = 0 → trR h' 249 (runF B nl t).2.1 (runF B nl t).2.2) → frm cdA h h' → shape h' → Q (.inl (some (.int (nI (runF B nl t).1)))) h') :
    px_Wp sx 119 0 [some (.ref 414), some (.ref 83), some (.ref 249), none, none, none, none, none] [] h Q := by
  have n200 := w.2.2.1
  have ok := sh.1
  have lp : ∀ d f (u : aT) M fm h1 l5 l6 l7, nl + 1 - f < d → (4 ≤ f ∨ nl < 4) → f ≤ nl + 1 → M ≤ 125 * (f - 4) → tSH u.1 u.2 → trR h1 249 u.1 u.2 → rowAt h1 415 26000 M fm → frm cdA h h1 → shape h1 → rnF B nl d f u = runF B nl t → px_Wp sx 119 20 [some (.ref 414), some (.ref 83), some (.ref 249), some (.int 0), some (.int (nI f)), l5, l6, l7] [] h1 Q := by
    intro d
    induction d with
    | zero => intro f u M fm h1 l5 l6 l7 hd; omega
    | succ d ih =>
      intro f u M fm h1 l5 l6 l7 hd f4 fn hM su tr1 md fr hS1 re
      have w1 : rowAt h1 83 200 nl ff := row_f w (fr.2.2 83 (by unfold cdA tpA trA; omega)) (fr.2.2 84 (by unfold cdA tpA trA; omega))
      have w11 := w1.1
      have hc8 : px_cls h1 83 = some 1 := by unfold px_cls; rw [w11]
      have hc4 : px_cls h1 414 = some 9 := by unfold px_cls; rw [at_414 hS1]
      by_cases big : nl < f
      · rw [rn_e big] at re
        have gt : nI nl < nI f := nI_lt big (by omega)
        simp only [pc119_20, pc119_21, pc119_24, pc119_26, pc119_26n, pc119_27, pc119_30, pc119_143, pc119_144, px_op_some, px_kv_ap, px_ki_ap, px_kl_ap, px_kn_ap, px_kh_ap, px_op_none, px_K_some, px_K_none, px_K_thr, px_kill, ↓reduceIte, if_true, if_false, true_and, and_true, px_gf, w11, gt, List.getElem?_cons_zero, List.getElem?_cons_succ, not_true_eq_false]
        have := hQ h1
        rw [← re] at this
        exact this (tre_of tr1) (fun _ => tr1) fr hS1
      have r := sg_rng (B := B) (show f ≤ nl by omega)
      have ngt : ¬ nI nl < nI f := nI_nlt (by omega) (by omega)
      have sb : nI (sgQ B nl f + 1) - 1 = nI (sgQ B nl f) := by rw [show (1 : Int32) = nI 1 from rfl, nI_sub (by omega), Nat.add_sub_cancel]
      -- the command
      have cmd : px_Wp sx 119 105 [some (.ref 414), some (.ref 83), some (.ref 249), some (.int 0), some (.int (nI (sgS B nl f))), some (.int (nI (sgQ B nl f + 1))), some (.int (nI (sgE B nl f))), l7] [] h1 Q := by
        have rF := fnd_rng (B := B) (c := 32) (sgE B nl f - sgS B nl f) (sgS B nl f)
        simp only [pc119_105, pc119_105n, pc119_106, pc119_108, pc119_108n, pc119_109, pc119_111, pc119_113, pc119_115, hc8, true_and]
        refine c_rfind (c := 32) w1 hB (by decide) r.2.1 (by omega) ?_
        simp only [px_K_some, pc119_118]
        refine c_wordOf w1 hB rF.1 (by omega) (fun x hx => ?_)
        have kx := wK_c hx
        simp only [px_K_some, pc119_121, pc119_123, pc119_123n, pc119_124, pc119_126, pc119_126n, pc119_127, pc119_129, pc119_131, pc119_131n, pc119_132, hc4, true_and, px_kill]
        refine c_command (k := sgK B nl f) (t := u) hS1 w1 hB r.2.1 (by omega) kx (fun hk => ?_) tr1 su (fun _ => md) (fun _ => by omega) (fun _ z => by omega) (fun h2 te q2 fr2 hS2 => ?_)
        · rcases wK_s (B := B) (s := sgS B nl f) (e := fnd B 32 (sgS B nl f) (sgE B nl f - sgS B nl f)) with ⟨-, a⟩ | ⟨a, -⟩
          · exact a
          · exfalso
            have : sgK B nl f = 6 := a
            omega
        · have fr' := frm_trans fr fr2
          by_cases x0 : sgX B nl f u = 0
          · have e0 : nI (cdX B (sgS B nl f) (sgE B nl f) (sgK B nl f) u) = 0 := by
              have : cdX B (sgS B nl f) (sgE B nl f) (sgK B nl f) u = 0 := x0
              rw [this]; rfl
            obtain ⟨tr2, q3⟩ := q2 x0
            obtain ⟨M', f', md2, hM2⟩ := q3 md
            rw [rn_s big x0] at re
            simp only [px_K_some, pc119_135, pc119_136, pc119_138, pc119_140, e0, px_kill]
            exact ih (sgQ B nl f + 1) (sgT B nl f u) M' f' h2 _ _ _ (by omega) (by omega) (by omega) (by omega) (sg_sh (by omega) n200 su x0) tr2 md2 fr' hS2 re
          · have e0 : ¬ nI (cdX B (sgS B nl f) (sgE B nl f) (sgK B nl f) u) = 0 := fun z => x0 ((nI_eq (b := 0) (by have c4 : sgX B nl f u ≤ 4 := cdX_4le; omega) (by decide)).mp z)
            rw [rn_x big x0] at re
            simp only [px_K_some, pc119_135, pc119_136, pc119_138, pc119_140, pc119_20, pc119_21, pc119_143, pc119_144, e0, not_false_eq_true, if_true, px_kill]
            have := hQ h2
            rw [← re] at this
            exact this te (fun z => absurd z x0) fr' hS2
      -- the spaces behind
      have lB : ∀ d, d ≤ sgQ B nl f - sgS B nl f → tmS B (sgS B nl f) d = sgE B nl f → px_Wp sx 119 79 [some (.ref 414), some (.ref 83), some (.ref 249), some (.int 0), some (.int (nI (sgS B nl f))), some (.int (nI (sgQ B nl f + 1))), some (.int (nI (sgS B nl f + d))), l7] [] h1 Q := by
        intro d
        induction d with
        | zero =>
          intro _ e
          have le : nI (sgS B nl f) ≤ nI (sgS B nl f) := Int32.le_refl _
          have e : sgS B nl f = sgE B nl f := e
          simp only [pc119_79, pc119_81, pc119_83, Nat.add_zero, le, if_true]
          rw [← e] at cmd
          exact cmd
        | succ d ih2 =>
          intro hd e
          have ge : ¬ nI (sgS B nl f + (d + 1)) ≤ nI (sgS B nl f) := nI_ge (by omega) (by omega)
          have sb2 : nI (sgS B nl f + (d + 1)) - 1 = nI (sgS B nl f + d) := by rw [show (1 : Int32) = nI 1 from rfl, nI_sub (by omega)]; congr 1
          have dec : nI (sgS B nl f + (d + 1)) + -1 = nI (sgS B nl f + d) := by rw [show sgS B nl f + (d + 1) = sgS B nl f + d + 1 by omega, nI_m1]
          rw [pc119_79]
          simp only [pc119_81, pc119_83, pc119_86, pc119_86n, pc119_87, pc119_89, pc119_90, pc119_91, ge, if_false, sb2, hc8, true_and]
          rw [r_atT w1 hB (show sgS B nl f + d < nl by omega)]
          have bd := (hB (sgS B nl f + d) (by omega)).2
          by_cases x : B (sgS B nl f + d) = 32
          · have x' : nI (B (sgS B nl f + d)) = 32 := by rw [x]; rfl
            simp only [px_K_some, pc119_94, pc119_96, pc119_99, pc119_102, x', not_true_eq_false, if_false, dec, px_kill]
            refine ih2 (by omega) ?_
            have : tmS B (sgS B nl f) (d + 1) = tmS B (sgS B nl f) d := if_pos x
            rw [← this]; exact e
          · have x' : ¬ nI (B (sgS B nl f + d)) = 32 := fun z => x ((nI_eq (b := 32) (by omega) (by decide)).mp z)
            have : tmS B (sgS B nl f) (d + 1) = sgS B nl f + d + 1 := if_neg x
            rw [this] at e
            simp only [px_K_some, pc119_94, pc119_96, x', not_false_eq_true, if_true]
            rw [show sgS B nl f + (d + 1) = sgE B nl f by omega]
            exact cmd
      -- the spaces before
      have lA : ∀ d g, g + d = sgQ B nl f → f ≤ g → skS B g d = sgS B nl f → px_Wp sx 119 55 [some (.ref 414), some (.ref 83), some (.ref 249), some (.int 0), some (.int (nI g)), some (.int (nI (sgQ B nl f + 1))), some (.int (nI (sgQ B nl f))), l7] [] h1 Q := by
        have out : px_Wp sx 119 79 [some (.ref 414), some (.ref 83), some (.ref 249), some (.int 0), some (.int (nI (sgS B nl f))), some (.int (nI (sgQ B nl f + 1))), some (.int (nI (sgQ B nl f))), l7] [] h1 Q := by
          have := lB (sgQ B nl f - sgS B nl f) (Nat.le_refl _) rfl
          rw [show sgS B nl f + (sgQ B nl f - sgS B nl f) = sgQ B nl f by omega] at this
          exact this
        intro d
        induction d with
        | zero =>
          intro g hg fg e
          have le : nI (sgQ B nl f) ≤ nI g := nI_le (by omega) (by omega)
          have e : g = sgS B nl f := e
          simp only [pc119_55, pc119_57, pc119_59, le, if_true]
          rw [e]
          exact out
        | succ d ih2 =>
          intro g hg fg e
          have ge : ¬ nI (sgQ B nl f) ≤ nI g := nI_ge (by omega) (by omega)
          have bd := (hB g (by omega)).2
          rw [pc119_55]
          simp only [pc119_57, pc119_59, pc119_62, pc119_62n, pc119_63, pc119_65, ge, if_false, hc8, true_and]
          rw [r_atT w1 hB (show g < nl by omega)]
          by_cases x : B g = 32
          · have x' : nI (B g) = 32 := by rw [x]; rfl
            simp only [px_K_some, pc119_68, pc119_70, pc119_73, pc119_76, x', not_true_eq_false, if_false, nI_p1, px_kill]
            refine ih2 (g + 1) (by omega) (by omega) ?_
            have : skS B g (d + 1) = skS B (g + 1) d := if_pos x
            rw [← this]; exact e
          · have x' : ¬ nI (B g) = 32 := fun z => x ((nI_eq (b := 32) (by omega) (by decide)).mp z)
            have : skS B g (d + 1) = g := if_neg x
            rw [this] at e
            simp only [px_K_some, pc119_68, pc119_70, x', not_false_eq_true, if_true]
            rw [e]
            exact out
      rw [pc119_20]
      simp only [pc119_21, pc119_24, pc119_26, pc119_26n, pc119_27, pc119_30, pc119_33, pc119_33n, pc119_34, pc119_36, pc119_38, pc119_38n, pc119_39, pc119_42, px_op_some, px_kv_ap, px_ki_ap, px_kl_ap, px_kn_ap, px_kh_ap, px_op_none, px_K_some, px_K_none, px_K_thr, px_kill, ↓reduceIte, if_true, if_false, true_and, and_true, px_gf, w11, ngt, List.getElem?_cons_zero, List.getElem?_cons_succ, not_true_eq_false, hc8]
      refine c_rfind (c := 59) w1 hB (by decide) (by omega) (Nat.le_refl _) ?_
      rw [px_K_some]
      show px_Wp sx 119 45 _ [.int (nI (sgQ B nl f))] h1 Q
      simp only [pc119_45, pc119_46, pc119_47, pc119_49, pc119_51, pc119_52, pc119_53, nI_p1, sb, px_kill]
      exact lA (sgQ B nl f - f) f (by omega) (Nat.le_refl _) rfl
  have a14 := at_414 hS
  have a15 := at_415 hS
  have a16 := at_416 hS
  have l15 : 415 < h.2.length := (List.getElem?_eq_some_iff.mp a15).1
  generalize hh0 : px_wr h 415 (.inl (1, [.ref 416, .int 0])) = h0
  have ne0 : ∀ r, r ≠ 415 → h0.2[r]? = h.2[r]? := fun r hr => by rw [← hh0, wr_at, if_neg (fun z => hr z.symm)]
  have hS0 : shape h0 := by rw [← hh0]; exact shape_int (k := 1) hS a15 rfl
  have md0 : rowAt h0 415 26000 0 (iA h 416) := ⟨by rw [← hh0, wr_at, if_pos rfl, if_pos l15]; rfl, by rw [ne0 _ (by decide)]; exact a16, by decide, by decide⟩
  have tr0 : trR h0 249 t.1 t.2 := trS_R (trS_frm tr ok.1 (fun r hr => ne0 r (by unfold trA at hr; omega)) (fun r hr => ⟨ne0 r (by omega), ne0 (r + 1) (by omega)⟩))
  have w0 : h0.2[83]? = some (.inl (1, [.ref 84, .int (nI nl)])) := (ne0 83 (by decide)).trans w.1
  have mn : (if nI nl < 4 then nI nl else (4 : Int32)) = nI (min 4 nl) := min_nI (a := 4) (b := nl) (by decide) (by omega)
  simp only [pc119_0, pc119_0n, pc119_1, pc119_4, pc119_5, pc119_8, pc119_9, pc119_10, pc119_11, pc119_11n, pc119_12, pc119_15, pc119_18, px_op_some, px_kv_ap, px_ki_ap, px_kl_ap, px_kn_ap, px_kh_ap, px_op_none, px_K_some, px_K_none, px_K_thr, px_kill, ↓reduceIte, if_true, if_false, true_and, and_true, px_gf, px_pf, a14, a15, hh0, w0, mn, List.getElem?_cons_zero, List.getElem?_cons_succ, List.length_cons, List.length_nil, List.set_cons_zero, List.set_cons_succ, px_fit, Nat.reduceAdd, Nat.reduceLT, and_self, px_kill]
  exact lp (nl + 2) (min 4 nl) t 0 (iA h 416) h0 none none none (by omega) (by omega) (by omega) (Nat.zero_le _) sh tr0 md0 (by rw [← hh0]; exact frm_wr (frm_refl _ _) (.inr (.inr (.inl rfl)))) hS0 rfl
end RUN
