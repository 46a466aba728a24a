/-! A COMMAND'S PARTS, the class's -/
def pS (B : Nat → Nat) (s e : Nat) : Nat := min (fnd B 32 s (e - s) + 1) e
def pE (B : Nat → Nat) (s e k : Nat) : Nat := if k = 0 ∨ k = 1 then e else fnd B 32 (pS B s e) (e - pS B s e)
def pT (B : Nat → Nat) (s e k : Nat) : Nat := min (pE B s e k + 1) e
/-- the parts are as they must be -/
def ptG (B : Nat → Nat) (s e k : Nat) : Prop := pathAt B (pS B s e) (pE B s e k - pS B s e) ∧ (k = 4 ∨ k = 5 → pathAt B (pT B s e k) (e - pT B s e k))
set_option maxRecDepth 16384 in
theorem min_nI {a b : Nat} (ha : a < 2 ^ 31) (hb : b < 2 ^ 31) : (if nI b < nI a then nI b else nI a) = nI (min a b) := by
  by_cases x : b < a
  · rw [if_pos (nI_lt x ha), Nat.min_eq_right (by omega)]
  · rw [if_neg (nI_nlt (by omega) hb), Nat.min_eq_left (by omega)]
set_option maxRecDepth 16384 in
theorem pS_rng {B : Nat → Nat} {s e : Nat} (h : s ≤ e) : s ≤ pS B s e ∧ pS B s e ≤ e := by
  have := fnd_rng (B := B) (c := 32) (e - s) s
  unfold pS; omega
set_option maxRecDepth 16384 in
theorem pE_rng {B : Nat → Nat} {s e k : Nat} (h : s ≤ e) : pS B s e ≤ pE B s e k ∧ pE B s e k ≤ e := by
  have a := pS_rng (B := B) h
  have b := fnd_rng (B := B) (c := 32) (e - pS B s e) (pS B s e)
  unfold pE
  split <;> omega
def tpA (r : Nat) : Prop := r = 414 ∨ 417 ≤ r ∧ r ≤ 420
section PARTS
variable {sx : Nat × (Nat → Int32)} {h : px_H} {n s e k : Nat} {f : Nat → Int32} {B : Nat → Nat} {Q : px_O → px_H → Prop}
set_option maxRecDepth 16384 in
theorem chg_tpA {O : Nat} {h1 h2 : px_H} (c : chg O h1 h2) (hO : O = 417 ∨ O = 419) (fr : frm tpA h h1) : frm tpA h h2 := frm_trans fr (frm_mono c.1 (fun r hr => by unfold tpA; omega))
set_option maxRecDepth 16384 in
theorem enP_tp {O l : Nat} {kd st cn : Int32} {src : Value} {g : Nat → Int32} {p : Nat → Nat} (hl : O + 1 < h.2.length) (hg : ∀ j, j < l → g j = nI (p j)) (l35 : l ≤ 35) : enP (tpH h O l kd src st cn g) O l p := ⟨⟨_, _, _, _, tpH_o hl⟩, ⟨g, tpH_p hl, hg⟩, l35⟩
set_option maxRecDepth 16384 in
theorem c_takeParts (hS : shape h) (w : rowAt h 83 200 n f) (hB : txA f n B) (hs : s ≤ e) (he : e ≤ n) (hk : k < 6)
    (hQ1 : ∀ h1, ptG B s e k → h1.2[414]? = some (.inl (9, [.ref 415, .ref 417, .ref 419, .int (nI (pT B s e k))])) → enP h1 417 (pE B s e k - pS B s e) (patF B (pS B s e) (pE B s e k - pS B s e)) → (k = 4 ∨ k = 5 → enP h1 419 (e - pT B s e k) (patF B (pT B s e k) (e - pT B s e k))) → frm tpA h h1 → shape h1 → Q (.inl (some (.int 1))) h1)
    (hQ0 : ∀ h1, ¬ ptG B s e k → frm tpA h h1 → shape h1 → Q (.inl (some (.int 0))) h1) :
    px_Wp sx 122 0 [some (.ref 414), some (.int (nI k)), some (.ref 83), some (.int (nI s)), some (.int (nI e)), none, none] [] h Q := by
  have n200 := w.2.2.1
  have hcl : px_cls h 83 = some 1 := by unfold px_cls; rw [w.1]
  have rs := pS_rng (B := B) hs
  have re := pE_rng (B := B) (k := k) hs
  have rf := fnd_rng (B := B) (c := 32) (e - s) s
  have hl := hS.1
  have mn : (if nI e < nI (fnd B 32 s (e - s) + 1) then nI e else nI (fnd B 32 s (e - s) + 1)) = nI (pS B s e) := min_nI (by omega) (by omega)
  -- behind the path's end
  have go : px_Wp sx 122 42 [some (.ref 414), some (.int (nI k)), some (.ref 83), some (.int (nI s)), some (.int (nI e)), some (.int (nI (pS B s e))), none] [.int (nI (pE B s e k))] h Q := by
    have mn2 : (if nI e < nI (pE B s e k + 1) then nI e else nI (pE B s e k + 1)) = nI (pT B s e k) := min_nI (by omega) (by omega)
    have nk : ¬ nI k = -1 := by rw [nI_nm1 (by omega)]; exact fun z => z
    generalize hh1 : px_wr h 414 (.inl (9, [.ref 415, .ref 417, .ref 419, .int (nI (pT B s e k))])) = h1
    have hS1 : shape h1 := by rw [← hh1]; exact shape_int (k := 3) hS (at_414 hS) rfl
    have a1 : ∀ r, r ≠ 414 → h1.2[r]? = h.2[r]? := fun r hr => by rw [← hh1, wr_at, if_neg (fun z => hr z.symm)]
    have b1 : h1.2[414]? = some (.inl (9, [.ref 415, .ref 417, .ref 419, .int (nI (pT B s e k))])) := by rw [← hh1, wr_at, if_pos rfl, if_pos (by omega)]
    have fr1 : frm tpA h h1 := by rw [← hh1]; exact frm_wr (frm_refl _ _) (.inl rfl)
    have w1 : rowAt h1 83 200 n f := ⟨by rw [a1 _ (by decide)]; exact w.1, by rw [a1 _ (by decide)]; exact w.2.1, w.2.2⟩
    have hc17 : px_cls h1 417 = some 2 := by
      obtain ⟨_, _, _, _, _, _, z, -⟩ := ent_it hS1 entT_417 (by decide)
      unfold px_cls; rw [z]
    have hl1 := hS1.1
    simp only [pc122_42, pc122_44, pc122_44n, pc122_45, pc122_47, pc122_48, pc122_49, pc122_51, pc122_54, pc122_57, pc122_58, pc122_59, pc122_62, pc122_62n, pc122_63, pc122_66, pc122_66n, pc122_67, pc122_69, pc122_71, px_op_some, px_kv_ap, px_ki_ap, px_kl_ap, px_kn_ap, px_kh_ap, px_op_none, px_K_some, px_K_none, px_K_thr, px_kill, ↓reduceIte, if_true, if_false, true_and, and_true, px_gf, px_pf, at_414 hS, b1, List.getElem?_cons_zero, List.getElem?_cons_succ, List.length_cons, List.length_nil, Nat.reduceAdd, Nat.reduceLT, px_fit, and_self, List.set_cons_succ, List.set_cons_zero, nI_p1, mn2, hh1, nk, hc17, px_kill]
    have tp := c_takePath (sx := sx) (Q := px_K sx 122 74 [some (.ref 414), some (.int (nI k)), some (.ref 83), some (.int (nI s)), some (.int (nI e)), some (.int (nI (pS B s e))), some (.int (nI (pE B s e k)))] [] Q) (O := 417) (fm := pS B s e) (l := pE B s e k - pS B s e) (B := B) entT_417 (ent_it hS1 entT_417 (by decide)) w1 (by decide) (by decide) (by decide) (by omega) (fun j hj => hB _ (by omega)) (fun kd src st cn g pa hg => ?_) (fun h2 npa ch => ?_)
    · rw [show pS B s e + (pE B s e k - pS B s e) = pE B s e k by omega] at tp
      exact tp
    · have l35 := path_35 pa
      generalize hh2 : tpH h1 417 (pE B s e k - pS B s e) kd src st cn g = h2
      have hS2 : shape h2 := by rw [← hh2]; exact ent_shape_t entT_417 hS1
      have fr2 : frm tpA h h2 := by rw [← hh2]; exact frm_trans fr1 (frm_mono tpH_frm (fun r hr => by unfold tpA; omega))
      have a2 : ∀ r, r ≠ 417 → r ≠ 418 → h2.2[r]? = h1.2[r]? := fun r x y => by rw [← hh2, tpH_at x y]
      have en2 : enP h2 417 (pE B s e k - pS B s e) (patF B (pS B s e) (pE B s e k - pS B s e)) := by rw [← hh2]; exact enP_tp (by omega) (fun j hj => by rw [patF_lt hj]; exact hg j hj) l35
      have b2 : h2.2[414]? = some (.inl (9, [.ref 415, .ref 417, .ref 419, .int (nI (pT B s e k))])) := by rw [a2 _ (by decide) (by decide)]; exact b1
      by_cases k45 : k = 4 ∨ k = 5
      · have w2 : rowAt h2 83 200 n f := ⟨by rw [a2 _ (by decide) (by decide)]; exact w1.1, by rw [a2 _ (by decide) (by decide)]; exact w1.2.1, w1.2.2⟩
        have hc19 : px_cls h2 419 = some 2 := by
          obtain ⟨_, _, _, _, _, _, z, -⟩ := ent_it hS2 entT_419 (by decide)
          unfold px_cls; rw [z]
        have hl2 := hS2.1
        have rt : pT B s e k ≤ e := by unfold pT; omega
        have pre : px_Wp sx 122 89 [some (.ref 414), some (.int (nI k)), some (.ref 83), some (.int (nI s)), some (.int (nI e)), some (.int (nI (pS B s e))), some (.int (nI (pE B s e k)))] [] h2 Q := by
          simp only [pc122_89, pc122_89n, pc122_90, pc122_93, pc122_93n, pc122_94, pc122_94n, pc122_95, pc122_98, pc122_100, px_op_some, px_kv_ap, px_ki_ap, px_kl_ap, px_kn_ap, px_kh_ap, px_op_none, px_K_some, px_K_none, px_K_thr, px_kill, ↓reduceIte, if_true, if_false, true_and, and_true, px_gf, b2, List.getElem?_cons_zero, List.getElem?_cons_succ, hc19]
          have tp := c_takePath (sx := sx) (Q := px_K sx 122 103 [some (.ref 414), some (.int (nI k)), some (.ref 83), some (.int (nI s)), some (.int (nI e)), some (.int (nI (pS B s e))), some (.int (nI (pE B s e k)))] [] Q) (O := 419) (fm := pT B s e k) (l := e - pT B s e k) (B := B) entT_419 (ent_it hS2 entT_419 (by decide)) w2 (by decide) (by decide) (by decide) (by omega) (fun j hj => hB _ (by omega)) (fun kd src st cn g pa2 hg => ?_) (fun h3 npa ch => ?_)
          · rw [show pT B s e k + (e - pT B s e k) = e by omega] at tp
            exact tp
          · have l35' := path_35 pa2
            simp only [px_K_some, pc122_103, pc122_106, pc122_107, pc122_110, pc122_111, px_op_some, px_kv_ap, px_ki_ap, px_kl_ap, px_kn_ap, px_kh_ap, px_op_none, px_K_some, px_K_none, px_K_thr, px_kill, ↓reduceIte, if_true, if_false, true_and, and_true, ne_1_0, nar_1]
            refine hQ1 _ ⟨pa, fun _ => pa2⟩ (by rw [tpH_at (by decide) (by decide)]; exact b2) ?_ (fun _ => enP_tp (by omega) (fun j hj => by rw [patF_lt hj]; exact hg j hj) l35') (frm_trans fr2 (frm_mono tpH_frm (fun r hr => by unfold tpA; omega))) (ent_shape_t entT_419 hS2)
            obtain ⟨⟨x1, x2, x3, x4, x5⟩, ⟨g5, x6, x7⟩, x8⟩ := en2
            exact ⟨⟨x1, x2, x3, x4, by rw [tpH_at (by decide) (by decide)]; exact x5⟩, ⟨g5, by rw [tpH_at (by decide) (by decide)]; exact x6, x7⟩, x8⟩
          · simp only [px_K_some, pc122_103, pc122_110, pc122_111, px_op_some, px_kv_ap, px_ki_ap, px_kl_ap, px_kn_ap, px_kh_ap, px_op_none, px_K_some, px_K_none, px_K_thr, px_kill, ↓reduceIte, if_true, if_false, true_and, and_true, nar_0]
            exact hQ0 h3 (fun z => npa (z.2 k45)) (chg_tpA ch (.inr rfl) fr2) (ch.2.1 hS2)
        rcases k45 with k4 | k5
        · have e4 : nI k = 4 := by rw [k4]; rfl
          simp only [px_K_some, pc122_74, pc122_79, pc122_80, pc122_81, px_op_some, px_kv_ap, px_ki_ap, px_kl_ap, px_kn_ap, px_kh_ap, px_op_none, px_K_some, px_K_none, px_K_thr, px_kill, ↓reduceIte, if_true, if_false, true_and, and_true, e4, ne_1_0, not_false_eq_true]
          rw [← e4]; exact pre
        · have e4 : ¬ nI k = 4 := by rw [k5]; decide
          have e5 : nI k = 5 := by rw [k5]; rfl
          simp only [px_K_some, pc122_74, pc122_79, pc122_80, pc122_81, pc122_84, pc122_85, pc122_86, px_op_some, px_kv_ap, px_ki_ap, px_kl_ap, px_kn_ap, px_kh_ap, px_op_none, px_K_some, px_K_none, px_K_thr, px_kill, ↓reduceIte, if_true, if_false, true_and, and_true, e4, ne_1_0, not_false_eq_true]
          simp only [e5, not_true_eq_false, px_op_some, px_kv_ap, px_ki_ap, px_kl_ap, px_kn_ap, px_kh_ap, px_op_none, px_K_some, px_K_none, px_K_thr, px_kill, ↓reduceIte, if_true, if_false, true_and, and_true]
          rw [← e5]; exact pre
      · have e4 : ¬ nI k = 4 := fun z => k45 (.inl ((nI_eq (b := 4) (by omega) (by decide)).mp z))
        have e5 : ¬ nI k = 5 := fun z => k45 (.inr ((nI_eq (b := 5) (by omega) (by decide)).mp z))
        simp only [px_K_some, pc122_74, pc122_79, pc122_80, pc122_81, pc122_84, pc122_85, pc122_86, pc122_106, pc122_107, pc122_110, pc122_111, px_op_some, px_kv_ap, px_ki_ap, px_kl_ap, px_kn_ap, px_kh_ap, px_op_none, px_K_some, px_K_none, px_K_thr, px_kill, ↓reduceIte, if_true, if_false, true_and, and_true, e4, e5, ne_1_0, not_false_eq_true, nar_1]
        exact hQ1 h2 ⟨pa, fun z => absurd z k45⟩ b2 en2 (fun z => absurd z k45) fr2 hS2
    · simp only [px_K_some, pc122_74, pc122_77, pc122_78, px_op_some, px_kv_ap, px_ki_ap, px_kl_ap, px_kn_ap, px_kh_ap, px_op_none, px_K_some, px_K_none, px_K_thr, px_kill, ↓reduceIte, if_true, if_false, true_and, and_true, not_true_eq_false, nar_0]
      exact hQ0 h2 (fun z => npa z.1) (chg_tpA ch (.inl rfl) fr1) (ch.2.1 hS1)
  simp only [pc122_0, pc122_0n, pc122_1, pc122_3, pc122_4, pc122_6, px_op_some, px_kv_ap, px_ki_ap, px_kl_ap, px_kn_ap, px_kh_ap, px_op_none, px_K_some, px_K_none, px_K_thr, px_kill, ↓reduceIte, if_true, if_false, true_and, and_true, hcl]
  refine c_rfind (c := 32) w hB (by decide) hs he ?_
  by_cases k0 : k = 0
  · have e0 : nI k = 0 := by rw [k0]; rfl
    have ep : pE B s e k = e := if_pos (.inl k0)
    rw [ep] at go
    simp only [px_K_some, pc122_9, pc122_10, pc122_11, pc122_13, pc122_16, pc122_18, pc122_19, pc122_22, pc122_23, pc122_24, pc122_27, pc122_29, px_op_some, px_kv_ap, px_ki_ap, px_kl_ap, px_kn_ap, px_kh_ap, px_op_none, px_K_some, px_K_none, px_K_thr, px_kill, ↓reduceIte, if_true, if_false, true_and, and_true, nI_p1, mn, e0, px_kill]
    rw [e0] at go
    exact go
  · have e0 : ¬ nI k = 0 := fun z => k0 ((nI_eq (b := 0) (by omega) (by decide)).mp z)
    by_cases k1 : k = 1
    · have e1 : nI k = 1 := by rw [k1]; rfl
      have ep : pE B s e k = e := if_pos (.inr k1)
      rw [ep] at go
      simp only [px_K_some, pc122_9, pc122_10, pc122_11, pc122_13, pc122_16, pc122_18, pc122_19, pc122_22, pc122_23, pc122_24, pc122_27, pc122_29, px_op_some, px_kv_ap, px_ki_ap, px_kl_ap, px_kn_ap, px_kh_ap, px_op_none, px_K_some, px_K_none, px_K_thr, px_kill, ↓reduceIte, if_true, if_false, true_and, and_true, nI_p1, mn, e0, px_kill]
      simp only [e1, not_true_eq_false, px_op_some, px_kv_ap, px_ki_ap, px_kl_ap, px_kn_ap, px_kh_ap, px_op_none, px_K_some, px_K_none, px_K_thr, px_kill, ↓reduceIte, if_true, if_false, true_and, and_true]
      rw [e1] at go
      exact go
    · have e1 : ¬ nI k = 1 := fun z => k1 ((nI_eq (b := 1) (by omega) (by decide)).mp z)
      have ep : pE B s e k = fnd B 32 (pS B s e) (e - pS B s e) := if_neg (by omega)
      simp only [px_K_some, pc122_9, pc122_10, pc122_11, pc122_13, pc122_16, pc122_18, pc122_19, pc122_22, pc122_23, pc122_24, pc122_27, pc122_29, pc122_32, pc122_32n, pc122_33, pc122_35, pc122_37, pc122_39, px_op_some, px_kv_ap, px_ki_ap, px_kl_ap, px_kn_ap, px_kh_ap, px_op_none, px_K_some, px_K_none, px_K_thr, px_kill, ↓reduceIte, if_true, if_false, true_and, and_true, nI_p1, mn, e0, e1, not_false_eq_true, px_kill, hcl]
      refine c_rfind (c := 32) w hB (by decide) rs.2 he ?_
      simp only [px_K_some]
      rw [← ep]; exact go
end PARTS
