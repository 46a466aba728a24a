/-! A COMMAND, the reference's -/
set_option maxRecDepth 16384 in
theorem gap_ex {n l : Nat} {E : Nat → aE} {p : Nat → Nat} (ok : tOK n E) (hp : pth p l) (no : ¬ inT n E p) : ∃ g, gapE n E p g := by
  have : ∀ m, m ≤ n → ∃ g, gapE m E p g := by
    intro m
    induction m with
    | zero => exact fun _ => ⟨0, Nat.le_refl _, fun i hi => absurd hi (Nat.not_lt_zero i), fun i _ hi => absurd hi (Nat.not_lt_zero i)⟩
    | succ m ih =>
      intro hm
      obtain ⟨g, g1, g2, g3⟩ := ih (by omega)
      rcases plt_tri' (ok.2.1 m (by omega)).1 hp with x | x | x
      · exact absurd ⟨m, by omega, x⟩ no
      · refine ⟨m + 1, Nat.le_refl _, fun i hi => ?_, fun i h1 h2 => by omega⟩
        by_cases y : i = m
        · subst y; exact x
        · exact plt_trans (ok.2.2.1 i m (by omega) (by omega)) x
      · refine ⟨g, by omega, g2, fun i h1 h2 => ?_⟩
        by_cases y : i = m
        · subst y; exact x
        · exact g3 i h1 (by omega)
  exact this n (Nat.le_refl _)
set_option maxRecDepth 16384 in
theorem path_32 {B : Nat → Nat} {f l j : Nat} (h : pathAt B f l) (hj : j < l) : B (f + j) ≠ 32 := fun z => by
  rcases h.1 j hj with ⟨a, -⟩ | ⟨-, a, -⟩
  · omega
  · unfold nmS at a; omega
/-- where the first path of a command ends -/
def pF (B : Nat → Nat) (s e : Nat) : Nat := fnd B 32 (pS B s e) (e - pS B s e)
section MCOM
variable {sx : Nat × (Nat → Int32)} {h : px_H} {nl s e k n : Nat} {V X : Nat → Int32} {B : Nat → Nat} {t : aT} {Q : px_O → px_H → Prop}
set_option maxRecDepth 16384 in
theorem pF_rng (hs : s ≤ e) : pS B s e ≤ pF B s e ∧ pF B s e ≤ e := by
  have a := pS_rng (B := B) hs
  have b := fnd_rng (B := B) (c := 32) (e - pS B s e) (pS B s e)
  unfold pF; omega
set_option maxRecDepth 16384 in
theorem ptG_1 (hs : s ≤ e) (hk : k = 0 ∨ k = 1) : ptG B s e k ↔ pathAt B (pS B s e) (pF B s e - pS B s e) ∧ pF B s e = e := by
  have rs := pS_rng (B := B) hs
  have rf := pF_rng (B := B) hs
  have pe : pE B s e k = e := if_pos hk
  unfold ptG
  rw [pe]
  constructor
  · rintro ⟨g, -⟩
    have ee : pF B s e = e := by
      by_cases x : pF B s e < e
      · have := fnd_is (B := B) (c := 32) (e - pS B s e) (pS B s e) (by show pF B s e < _; omega)
        have q := path_32 g (j := pF B s e - pS B s e) (by omega)
        rw [show pS B s e + (pF B s e - pS B s e) = pF B s e by omega] at q
        exact absurd this q
      · omega
    rw [ee]; exact ⟨g, rfl⟩
  · rintro ⟨g, ee⟩
    rw [ee] at g
    exact ⟨g, fun z => by omega⟩
set_option maxRecDepth 16384 in
theorem pE_2 (hk : 2 ≤ k) : pE B s e k = pF B s e := if_neg (by omega)
set_option maxRecDepth 16384 in
theorem m_isPathE {A NA f0 f1 : Nat} {f : Nat → Int32} (hA : h.2[A]? = some (.inr (1, NA, .inl f))) (hNA : NA ≤ 100000) (h01 : f0 ≤ f1) (ha : f1 ≤ NA) (hB : ∀ j, j < f1 → f j = nI (B j) ∧ B j < 1000) (hQ : ∀ x, says x (pathAt B f0 (f1 - f0)) → Q (.inl (some (.int x))) h) :
    px_Wp sx 178 0 [some (.ref A), some (.int (nI f0)), some (.int (nI f1)), none, none, none, none] [] h Q := by
  have := m_isPath (sx := sx) (h := h) (A := A) (NA := NA) (f0 := f0) (l := f1 - f0) (f := f) (B := B) (Q := Q) hA hNA (by omega) (fun j hj => hB _ (by omega)) hQ
  rw [show f0 + (f1 - f0) = f1 by omega] at this
  exact this
set_option maxRecDepth 16384 in
theorem m_takePathE {f0 f1 : Nat} (hS : shape h) (h6 : h.2[619]? = some (.inl (11, modF V))) (hX : h.2[654]? = some (.inr (1, 9000, .inl X))) (h01 : f0 ≤ f1) (hs : f1 ≤ 9000) (hc : f1 - f0 ≤ 240) (hx : ∀ j, j < f1 → X j = nI (B j))
    (hQ : ∀ h1, h1.2[619]? = some (.inl (11, modF (px_up V 32 (nI (f1 - f0))))) → mpt h1 (patF B f0 (f1 - f0)) (f1 - f0) → frm (fun r => r = 619 ∨ r = 647) h h1 → shape h1 → Q (.inl none) h1) :
    px_Wp sx 193 0 [some (.ref 619), some (.int (nI f0)), some (.int (nI f1)), none] [] h Q := by
  have := m_takePath (sx := sx) (h := h) (V := V) (X := X) (s := f0) (c := f1 - f0) (B := B) (Q := Q) hS h6 hX (by omega) hc (fun j hj => hx _ (by omega)) hQ
  rw [show f0 + (f1 - f0) = f1 by omega] at this
  exact this
set_option maxRecDepth 16384 in
theorem m_takeOtherE {f0 f1 : Nat} (hS : shape h) (h6 : h.2[619]? = some (.inl (11, modF V))) (hX : h.2[654]? = some (.inr (1, 9000, .inl X))) (h01 : f0 ≤ f1) (hs : f1 ≤ 9000) (hc : f1 - f0 ≤ 240) (hx : ∀ j, j < f1 → X j = nI (B j))
    (hQ : ∀ h1, h1.2[619]? = some (.inl (11, modF (px_up V 34 (nI (f1 - f0))))) → mpo h1 (patF B f0 (f1 - f0)) (f1 - f0) → frm (fun r => r = 619 ∨ r = 648) h h1 → shape h1 → Q (.inl none) h1) :
    px_Wp sx 197 0 [some (.ref 619), some (.int (nI f0)), some (.int (nI f1)), none] [] h Q := by
  have := m_takeOther (sx := sx) (h := h) (V := V) (X := X) (s := f0) (c := f1 - f0) (B := B) (Q := Q) hS h6 hX (by omega) hc (fun j hj => hx _ (by omega)) hQ
  rw [show f0 + (f1 - f0) = f1 by omega] at this
  exact this
/-- how the reference stands behind a command -/
def cmQ (B : Nat → Nat) (s e k : Nat) (t : aT) (h : px_H) (V : Nat → Int32) (Q : px_O → px_H → Prop) : Prop := ∀ h' V', V' 43 = nI (cdX B s e k t) → (cdX B s e k t = 0 → mtE h' (fun i => i < (dnF B s e k t).1) (dnF B s e k t).2 ∧ V' 20 = nI (dnF B s e k t).1) → h'.2[619]? = some (.inl (11, modF V')) → (∀ j, j ≠ 20 → j ≠ 32 → j ≠ 34 → j ≠ 43 → V' j = V j) → frm mvA h h' → shape h' → Q (.inl none) h'
set_option maxRecDepth 16384 in
theorem cmQ_bad {x : Nat} {h1 : px_H} {V1 : Nat → Int32} (q : cmQ B s e k t h V Q) (hx : cdX B s e k t = x) (x0 : x ≠ 0) (h6 : h1.2[619]? = some (.inl (11, modF (px_up V1 43 (nI x))))) (hv : ∀ j, j ≠ 20 → j ≠ 32 → j ≠ 34 → j ≠ 43 → V1 j = V j) (fr : frm mvA h h1) (sh : shape h1) : Q (.inl none) h1 :=
  q h1 _ (by rw [up_same, hx]) (fun z => by omega) h6 (fun j j1 j2 j3 j4 => by rw [up_ne j4]; exact hv j j1 j2 j3 j4) fr sh
set_option maxRecDepth 16384 in
theorem cmQ_ok {t' : aT} {h1 : px_H} {V1 : Nat → Int32} (q : cmQ B s e k t h V Q) (ok : tOK t.1 t.2) (kg : k < 6 ∧ ptG B s e k) (d : dnR B s e k t t') (nb : ¬ tooB t'.1 t'.2) (w : mtE h1 (fun i => i < t'.1) t'.2) (v20 : V1 20 = nI t'.1) (v43 : V1 43 = 0) (h6 : h1.2[619]? = some (.inl (11, modF V1))) (hv : ∀ j, j ≠ 20 → j ≠ 32 → j ≠ 34 → j ≠ 43 → V1 j = V j) (fr : frm mvA h h1) (sh : shape h1) : Q (.inl none) h1 := by
  obtain ⟨e1, e2⟩ := dnF_e ok d
  refine q h1 V1 (by rw [cdX_0 ok kg d nb]; exact v43) (fun _ => ⟨mtE_mono w (fun i hi => ?_), by rw [e1]; exact v20⟩) h6 hv fr sh
  rw [e1] at hi
  exact ⟨hi, (e2 i hi).symm⟩
set_option maxRecDepth 16384 in
theorem m_com_t0 {l1 l3 l4 l5 l7 l8 l9 l10 : Option Value} (hS : shape h) (h6 : h.2[619]? = some (.inl (11, modF V))) (hX : h.2[654]? = some (.inr (1, 9000, .inl X))) (hB : txM X nl B) (hnl : nl ≤ 200) (hs : s ≤ e) (he : e ≤ nl) (hf : V 43 = 0) (hv : V 20 = nI t.1) (w : mtE h (fun i => i < t.1) t.2) (sh : tSH t.1 t.2) (g : ptG B s e 0) (hv2 : V 32 = nI (cLn B s e 0)) (pt : mpt h (cPt B s e 0) (cLn B s e 0))
    (hQ : cmQ B s e 0 t h V Q) :
    px_Wp sx 196 293 [some (.ref 619), l1, some (.int (nI e)), l3, l4, l5, some (.int (nI (pT B s e 0))), l7, l8, l9, l10] [] h Q := by
  have hcls : px_cls h 619 = some 11 := by unfold px_cls; rw [h6]
  have ok := sh.1
  have n40 := sh.2.2.1
  have t1000 := sh.2.2.2
  obtain ⟨hp, pp⟩ := ptG_p g
  have kg : 0 < 6 ∧ ptG B s e 0 := ⟨by decide, g⟩
  have re := pE_rng (B := B) (k := 0) hs
  have rT : pT B s e 0 ≤ e := by unfold pT; omega
  have hl6 : 619 < h.2.length := (List.getElem?_eq_some_iff.mp h6).1
  have s6 : ∀ x : px_C, (px_wr h 619 x).2[619]? = some x := fun x => by rw [wr_at, if_pos rfl, if_pos hl6]
  have fr6 : ∀ x : px_C, frm mvA h (px_wr h 619 x) := fun x => frm_wr (frm_refl _ _) (.inl rfl)
  simp only [pc196_293, pc196_293n, pc196_294, hcls, true_and]
  refine m_mkdir h6 hv hv2 hf ok n40 w pt hp (fun gg h1 V1 a1 a2 a3 a4 w1 c6 v20 ve f1 s1 => ?_) (fun x hx => ?_)
  · simp only [px_K_none, pc196_297, pc196_368]
    have tt := totN_ins (E := t.2) (e := dirE (cLn B s e 0) (cPt B s e 0)) t.1 a4.1
    have e0 : eN (dirE (cLn B s e 0) (cPt B s e 0)) = 0 := rfl
    exact cmQ_ok (t' := (t.1 + 1, insE t.2 gg (dirE (cLn B s e 0) (cPt B s e 0)))) hQ ok kg (.inl ⟨rfl, a1, a2, gg, a4, rfl⟩) (fun z => by rcases z with z | z; have z : 40 < t.1 + 1 := z; omega; have z : 1000 < totN (insE t.2 gg (dirE (cLn B s e 0) (cPt B s e 0))) (t.1 + 1) := z; omega) w1 v20 (by rw [ve 43 (by decide)]; exact hf) c6 (fun j j1 _ _ _ => ve j j1) (frm_mvB f1) (s1 hS)
  · simp only [px_K_none, pc196_297, pc196_368]
    rcases hx with ⟨hx, rfl⟩ | ⟨⟨a1, a2⟩, a3, rfl⟩
    · refine cmQ_bad hQ (cdX_3 kg (fun ⟨t', d⟩ => ?_)) (by decide) (s6 _) (fun j _ _ _ _ => rfl) (fr6 _) (shape_mod hS)
      rcases d with ⟨-, b1, b2, -⟩ | ⟨a0, -⟩ | ⟨a0, -⟩ | ⟨a0, -⟩ | ⟨a0, -⟩ | ⟨a0, -⟩
      · exact hx.elim b1 (fun z => z b2)
      all_goals omega
    · obtain ⟨gg, hg⟩ := gap_ex ok hp a1
      exact cmQ_bad hQ (cdX_4 (t' := (t.1 + 1, insE t.2 gg (dirE (cLn B s e 0) (cPt B s e 0)))) ok kg (.inl ⟨rfl, a1, a2, gg, hg, rfl⟩) (.inl (by show 40 < t.1 + 1; omega))) (by decide) (s6 _) (fun j _ _ _ _ => rfl) (fr6 _) (shape_mod hS)
set_option maxRecDepth 16384 in
theorem m_com_t1 {l1 l3 l4 l5 l7 l8 l9 l10 : Option Value} (hS : shape h) (h6 : h.2[619]? = some (.inl (11, modF V))) (hX : h.2[654]? = some (.inr (1, 9000, .inl X))) (hB : txM X nl B) (hnl : nl ≤ 200) (hs : s ≤ e) (he : e ≤ nl) (hf : V 43 = 0) (hv : V 20 = nI t.1) (w : mtE h (fun i => i < t.1) t.2) (sh : tSH t.1 t.2) (g : ptG B s e 1) (hv2 : V 32 = nI (cLn B s e 1)) (pt : mpt h (cPt B s e 1) (cLn B s e 1))
    (hQ : cmQ B s e 1 t h V Q) :
    px_Wp sx 196 286 [some (.ref 619), l1, some (.int (nI e)), l3, l4, l5, some (.int (nI (pT B s e 1))), l7, l8, l9, l10] [] h Q := by
  have hcls : px_cls h 619 = some 11 := by unfold px_cls; rw [h6]
  have ok := sh.1
  have n40 := sh.2.2.1
  have t1000 := sh.2.2.2
  obtain ⟨hp, pp⟩ := ptG_p g
  have kg : 1 < 6 ∧ ptG B s e 1 := ⟨by decide, g⟩
  have re := pE_rng (B := B) (k := 1) hs
  have rT : pT B s e 1 ≤ e := by unfold pT; omega
  have hl6 : 619 < h.2.length := (List.getElem?_eq_some_iff.mp h6).1
  have s6 : ∀ x : px_C, (px_wr h 619 x).2[619]? = some x := fun x => by rw [wr_at, if_pos rfl, if_pos hl6]
  have fr6 : ∀ x : px_C, frm mvA h (px_wr h 619 x) := fun x => frm_wr (frm_refl _ _) (.inl rfl)
  simp only [pc196_286, pc196_286n, pc196_287, hcls, true_and]
  refine m_rm h6 (at_636 hS) hv hv2 hf ok w pt hp (fun i b h1 V1 a1 a2 a3 w1 c6 v20 ve f1 s1 => ?_) (fun no => ?_)
  · simp only [px_K_none, pc196_290, pc196_368]
    have b1 := a3.1
    have tt := totN_cut2 (E := t.2) (n := t.1) (a := i) (b := b) (by omega) a3.2.1
    exact cmQ_ok (t' := (t.1 - (b - i), cutE t.2 i b)) hQ ok kg (.inr (.inl ⟨rfl, i, b, a1, a2, a3, rfl⟩)) (fun z => by rcases z with z | z; have z : 40 < t.1 - (b - i) := z; omega; have z : 1000 < totN (cutE t.2 i b) (t.1 - (b - i)) := z; omega) w1 v20 (by rw [ve 43 (by decide)]; exact hf) c6 (fun j j1 _ _ _ => ve j j1) (frm_mvB f1) (s1 hS)
  · simp only [px_K_none, pc196_290, pc196_368]
    refine cmQ_bad (x := 3) hQ (cdX_3 kg (fun ⟨t', d⟩ => ?_)) (by decide) (s6 _) (fun j _ _ _ _ => rfl) (fr6 _) (shape_mod hS)
    rcases d with ⟨a0, -⟩ | ⟨-, i, b, a1, a2, -⟩ | ⟨a0, -⟩ | ⟨a0, -⟩ | ⟨a0, -⟩ | ⟨a0, -⟩
    · omega
    · exact no ⟨i, a1, a2⟩
    all_goals omega
set_option maxRecDepth 16384 in
theorem m_putC (hS : shape h) (h6 : h.2[619]? = some (.inl (11, modF V))) (hX : h.2[654]? = some (.inr (1, 9000, .inl X))) (hB : txM X nl B) (hnl : nl ≤ 200) (hs : s ≤ e) (he : e ≤ nl) (hf : V 43 = 0) (hv : V 20 = nI t.1) (w : mtE h (fun i => i < t.1) t.2) (sh : tSH t.1 t.2) (g : ptG B s e 2) (hv2 : V 32 = nI (cLn B s e 2)) (pt : mpt h (cPt B s e 2) (cLn B s e 2))
    (hQ : cmQ B s e 2 t h V Q) :
    px_Wp sx 194 0 [some (.ref 619), some (.int (nI (pT B s e 2))), some (.int (nI e)), none, none, none] [] h Q := by
  have hcls : px_cls h 619 = some 11 := by unfold px_cls; rw [h6]
  have ok := sh.1
  have n40 := sh.2.2.1
  have t1000 := sh.2.2.2
  obtain ⟨hp, pp⟩ := ptG_p g
  have kg : 2 < 6 ∧ ptG B s e 2 := ⟨by decide, g⟩
  have re := pE_rng (B := B) (k := 2) hs
  have rT : pT B s e 2 ≤ e := by unfold pT; omega
  have hl6 : 619 < h.2.length := (List.getElem?_eq_some_iff.mp h6).1
  have s6 : ∀ x : px_C, (px_wr h 619 x).2[619]? = some x := fun x => by rw [wr_at, if_pos rfl, if_pos hl6]
  have fr6 : ∀ x : px_C, frm mvA h (px_wr h 619 x) := fun x => frm_wr (frm_refl _ _) (.inl rfl)
  have hc : ∀ j, j < cLm B s e 2 → X (pT B s e 2 + j) = cTx B s e 2 j := fun j hj => (hB _ (by unfold cLm at hj; omega)).1
  have hb : ∀ i, i < t.1 → eN (t.2 i) ≤ totN t.2 t.1 := fun i hi => eN_tot _ i hi
  have eE : pT B s e 2 + cLm B s e 2 = e := by unfold cLm; omega
  have key := m_putFile (sx := sx) (s := pT B s e 2) (m := cLm B s e 2) (Q := Q) h6 hv hv2 hf hX ok n40 t1000 hb w pt hp (by omega) hc (fun i h1 a1 a2 a3 a4 w1 c6 f1 s1 => ?_) (fun gg h1 V1 a1 a2 a3 a4 a5 w1 c6 v20 ve f1 s1 => ?_) (fun x hx => ?_)
  · rw [eE] at key; exact key
  · have k2 : eK (t.2 i) = 2 := by rcases (ok.2.1 i a1).2 with z | z; exact absurd z.1 a3; exact z.1
    have tt := totN_up (E := t.2) (e := (cLn B s e 2, cPt B s e 2, 2, cLm B s e 2, cTx B s e 2)) (i := i) t.1 a1
    have e0 : eN ((cLn B s e 2, cPt B s e 2, 2, cLm B s e 2, cTx B s e 2) : aE) = cLm B s e 2 := rfl
    have hbi := hb i a1
    exact cmQ_ok (t' := (t.1, px_up t.2 i (cLn B s e 2, cPt B s e 2, 2, cLm B s e 2, cTx B s e 2))) hQ ok kg (.inr (.inr (.inl ⟨rfl, homed_of ok hp a1 a2, .inl ⟨i, a1, a2, k2, rfl⟩⟩))) (fun z => by rcases z with z | z; have z : 40 < t.1 := z; omega; have z : 1000 < totN (px_up t.2 i (cLn B s e 2, cPt B s e 2, 2, cLm B s e 2, cTx B s e 2)) t.1 := z; omega) w1 hv hf c6 (fun j _ _ _ _ => rfl) (frm_mvB f1) (s1 hS)
  · have tt := totN_ins (E := t.2) (e := (cLn B s e 2, cPt B s e 2, 2, cLm B s e 2, cTx B s e 2)) t.1 a5.1
    have e0 : eN ((cLn B s e 2, cPt B s e 2, 2, cLm B s e 2, cTx B s e 2) : aE) = cLm B s e 2 := rfl
    exact cmQ_ok (t' := (t.1 + 1, insE t.2 gg (cLn B s e 2, cPt B s e 2, 2, cLm B s e 2, cTx B s e 2))) hQ ok kg (.inr (.inr (.inl ⟨rfl, a2, .inr ⟨a1, gg, a5, rfl⟩⟩))) (fun z => by rcases z with z | z; have z : 40 < t.1 + 1 := z; omega; have z : 1000 < totN (insE t.2 gg (cLn B s e 2, cPt B s e 2, 2, cLm B s e 2, cTx B s e 2)) (t.1 + 1) := z; omega) w1 v20 (by rw [ve 43 (by decide)]; exact hf) c6 (fun j j1 _ _ _ => ve j j1) (frm_mvB f1) (s1 hS)
  · rcases hx with ⟨hx, rfl⟩ | ⟨⟨i, a1, a2, a3, a4⟩, rfl⟩ | ⟨⟨⟨a1, a2⟩, a3⟩, rfl⟩
    · refine cmQ_bad hQ (cdX_3 kg (fun ⟨t', d⟩ => ?_)) (by decide) (s6 _) (fun j _ _ _ _ => rfl) (fr6 _) (shape_mod hS)
      rcases d with ⟨a0, -⟩ | ⟨a0, -⟩ | ⟨-, b1, b2⟩ | ⟨a0, -⟩ | ⟨a0, -⟩ | ⟨a0, -⟩
      · omega
      · omega
      · rcases hx with ⟨j, j1, j2, j3⟩ | ⟨-, no⟩
        · rcases b2 with ⟨i, x1, x2, x3, -⟩ | ⟨x1, -⟩
          · rw [srt_uniq ok x1 j1 (x2.trans j2.symm)] at x3; omega
          · exact x1 ⟨j, j1, j2⟩
        · exact no b1
      all_goals omega
    · have k2 : eK (t.2 i) = 2 := by rcases (ok.2.1 i a1).2 with z | z; exact absurd z.1 a3; exact z.1
      have tt := totN_up (E := t.2) (e := (cLn B s e 2, cPt B s e 2, 2, cLm B s e 2, cTx B s e 2)) (i := i) t.1 a1
      have e0 : eN ((cLn B s e 2, cPt B s e 2, 2, cLm B s e 2, cTx B s e 2) : aE) = cLm B s e 2 := rfl
      have hbi := hb i a1
      exact cmQ_bad hQ (cdX_4 (t' := (t.1, px_up t.2 i (cLn B s e 2, cPt B s e 2, 2, cLm B s e 2, cTx B s e 2))) ok kg (.inr (.inr (.inl ⟨rfl, homed_of ok hp a1 a2, .inl ⟨i, a1, a2, k2, rfl⟩⟩))) (.inr (by show 1000 < totN (px_up t.2 i (cLn B s e 2, cPt B s e 2, 2, cLm B s e 2, cTx B s e 2)) t.1; omega))) (by decide) (s6 _) (fun j _ _ _ _ => rfl) (fr6 _) (shape_mod hS)
    · obtain ⟨gg, hg⟩ := gap_ex ok hp a1
      have tt := totN_ins (E := t.2) (e := (cLn B s e 2, cPt B s e 2, 2, cLm B s e 2, cTx B s e 2)) t.1 hg.1
      have e0 : eN ((cLn B s e 2, cPt B s e 2, 2, cLm B s e 2, cTx B s e 2) : aE) = cLm B s e 2 := rfl
      refine cmQ_bad hQ (cdX_4 (t' := (t.1 + 1, insE t.2 gg (cLn B s e 2, cPt B s e 2, 2, cLm B s e 2, cTx B s e 2))) ok kg (.inr (.inr (.inl ⟨rfl, a2, .inr ⟨a1, gg, hg, rfl⟩⟩))) ?_) (by decide) (s6 _) (fun j _ _ _ _ => rfl) (fr6 _) (shape_mod hS)
      rcases a3 with a3 | a3
      · exact .inr (by show 1000 < totN (insE t.2 gg (cLn B s e 2, cPt B s e 2, 2, cLm B s e 2, cTx B s e 2)) (t.1 + 1); omega)
      · exact .inl (by show 40 < t.1 + 1; omega)
set_option maxRecDepth 16384 in
theorem m_com_t2 {l1 l3 l4 l5 l7 l8 l9 l10 : Option Value} (hS : shape h) (h6 : h.2[619]? = some (.inl (11, modF V))) (hX : h.2[654]? = some (.inr (1, 9000, .inl X))) (hB : txM X nl B) (hnl : nl ≤ 200) (hs : s ≤ e) (he : e ≤ nl) (hf : V 43 = 0) (hv : V 20 = nI t.1) (w : mtE h (fun i => i < t.1) t.2) (sh : tSH t.1 t.2) (g : ptG B s e 2) (hv2 : V 32 = nI (cLn B s e 2)) (pt : mpt h (cPt B s e 2) (cLn B s e 2))
    (hQ : cmQ B s e 2 t h V Q) :
    px_Wp sx 196 321 [some (.ref 619), l1, some (.int (nI e)), l3, l4, l5, some (.int (nI (pT B s e 2))), l7, l8, l9, l10] [] h Q := by
  have hcls : px_cls h 619 = some 11 := by unfold px_cls; rw [h6]
  have ok := sh.1
  have n40 := sh.2.2.1
  have t1000 := sh.2.2.2
  obtain ⟨hp, pp⟩ := ptG_p g
  have kg : 2 < 6 ∧ ptG B s e 2 := ⟨by decide, g⟩
  have re := pE_rng (B := B) (k := 2) hs
  have rT : pT B s e 2 ≤ e := by unfold pT; omega
  have hl6 : 619 < h.2.length := (List.getElem?_eq_some_iff.mp h6).1
  have s6 : ∀ x : px_C, (px_wr h 619 x).2[619]? = some x := fun x => by rw [wr_at, if_pos rfl, if_pos hl6]
  have fr6 : ∀ x : px_C, frm mvA h (px_wr h 619 x) := fun x => frm_wr (frm_refl _ _) (.inl rfl)
  simp only [pc196_321, pc196_321n, pc196_322, pc196_324, pc196_325, hcls, true_and]
  refine m_putC hS h6 hX hB hnl hs he hf hv w sh g hv2 pt (fun h' V' a1 a2 a3 a4 a5 a6 => ?_)
  simp only [px_K_none, pc196_328, pc196_368]
  exact hQ h' V' a1 a2 a3 a4 a5 a6
set_option maxRecDepth 16384 in
theorem m_com_t3 {l1 l3 l4 l5 l7 l8 l9 l10 : Option Value} (hS : shape h) (h6 : h.2[619]? = some (.inl (11, modF V))) (hX : h.2[654]? = some (.inr (1, 9000, .inl X))) (hB : txM X nl B) (hnl : nl ≤ 200) (hs : s ≤ e) (he : e ≤ nl) (hf : V 43 = 0) (hv : V 20 = nI t.1) (w : mtE h (fun i => i < t.1) t.2) (sh : tSH t.1 t.2) (g : ptG B s e 3) (hv2 : V 32 = nI (cLn B s e 3)) (pt : mpt h (cPt B s e 3) (cLn B s e 3))
    (hQ : cmQ B s e 3 t h V Q) :
    px_Wp sx 196 331 [some (.ref 619), l1, some (.int (nI e)), l3, l4, l5, some (.int (nI (pT B s e 3))), l7, l8, l9, l10] [] h Q := by
  have hcls : px_cls h 619 = some 11 := by unfold px_cls; rw [h6]
  have ok := sh.1
  have n40 := sh.2.2.1
  have t1000 := sh.2.2.2
  obtain ⟨hp, pp⟩ := ptG_p g
  have kg : 3 < 6 ∧ ptG B s e 3 := ⟨by decide, g⟩
  have re := pE_rng (B := B) (k := 3) hs
  have rT : pT B s e 3 ≤ e := by unfold pT; omega
  have hl6 : 619 < h.2.length := (List.getElem?_eq_some_iff.mp h6).1
  have s6 : ∀ x : px_C, (px_wr h 619 x).2[619]? = some x := fun x => by rw [wr_at, if_pos rfl, if_pos hl6]
  have fr6 : ∀ x : px_C, frm mvA h (px_wr h 619 x) := fun x => frm_wr (frm_refl _ _) (.inl rfl)
  have hc : ∀ j, j < cLm B s e 3 → X (pT B s e 3 + j) = cTx B s e 3 j := fun j hj => (hB _ (by unfold cLm at hj; omega)).1
  have hb : ∀ i, i < t.1 → eN (t.2 i) ≤ totN t.2 t.1 := fun i hi => eN_tot _ i hi
  have eE : pT B s e 3 + cLm B s e 3 = e := by unfold cLm; omega
  simp only [pc196_331, pc196_331n, pc196_332, pc196_334, pc196_335, hcls, true_and]
  have key := m_addText (sx := sx) (s := pT B s e 3) (m := cLm B s e 3) (Q := px_K sx 196 338 [some (.ref 619), l1, some (.int (nI e)), l3, l4, l5, some (.int (nI (pT B s e 3))), l7, l8, l9, l10] [] Q) h6 hv hv2 hf hX ok n40 t1000 hb w pt hp (by omega) hc (fun i h1 a1 a2 a3 a4 w1 c6 f1 s1 => ?_) (fun x hx => ?_)
  · rw [eE] at key; exact key
  · simp only [px_K_none, pc196_338, pc196_368]
    have tt := totN_up (E := t.2) (e := ctE (t.2 i) (cLm B s e 3) (cTx B s e 3)) (i := i) t.1 a1
    have e0 : eN (ctE (t.2 i) (cLm B s e 3) (cTx B s e 3)) = eN (t.2 i) + cLm B s e 3 := rfl
    exact cmQ_ok (t' := (t.1, px_up t.2 i (ctE (t.2 i) (cLm B s e 3) (cTx B s e 3)))) hQ ok kg (.inr (.inr (.inr (.inl ⟨rfl, i, a1, a2, a3, rfl⟩)))) (fun z => by rcases z with z | z; have z : 40 < t.1 := z; omega; have z : 1000 < totN (px_up t.2 i (ctE (t.2 i) (cLm B s e 3) (cTx B s e 3))) t.1 := z; omega) w1 hv hf c6 (fun j _ _ _ _ => rfl) (frm_mvB f1) (s1 hS)
  · simp only [px_K_none, pc196_338, pc196_368]
    rcases hx with ⟨hx, rfl⟩ | ⟨⟨i, a1, a2, a3⟩, a4, rfl⟩
    · refine cmQ_bad hQ (cdX_3 kg (fun ⟨t', d⟩ => ?_)) (by decide) (s6 _) (fun j _ _ _ _ => rfl) (fr6 _) (shape_mod hS)
      rcases d with ⟨a0, -⟩ | ⟨a0, -⟩ | ⟨a0, -⟩ | ⟨-, i, a1, a2, a3, -⟩ | ⟨a0, -⟩ | ⟨a0, -⟩
      · omega
      · omega
      · omega
      · exact hx ⟨i, a1, a2, a3⟩
      all_goals omega
    · have tt := totN_up (E := t.2) (e := ctE (t.2 i) (cLm B s e 3) (cTx B s e 3)) (i := i) t.1 a1
      have e0 : eN (ctE (t.2 i) (cLm B s e 3) (cTx B s e 3)) = eN (t.2 i) + cLm B s e 3 := rfl
      exact cmQ_bad hQ (cdX_4 (t' := (t.1, px_up t.2 i (ctE (t.2 i) (cLm B s e 3) (cTx B s e 3)))) ok kg (.inr (.inr (.inr (.inl ⟨rfl, i, a1, a2, a3, rfl⟩)))) (.inr (by show 1000 < totN (px_up t.2 i (ctE (t.2 i) (cLm B s e 3) (cTx B s e 3))) t.1; omega))) (by decide) (s6 _) (fun j _ _ _ _ => rfl) (fr6 _) (shape_mod hS)
set_option maxRecDepth 16384 in
theorem m_com_t4 {l1 l3 l4 l5 l7 l8 l9 l10 : Option Value} (hS : shape h) (h6 : h.2[619]? = some (.inl (11, modF V))) (hX : h.2[654]? = some (.inr (1, 9000, .inl X))) (hB : txM X nl B) (hnl : nl ≤ 200) (hs : s ≤ e) (he : e ≤ nl) (hf : V 43 = 0) (hv : V 20 = nI t.1) (w : mtE h (fun i => i < t.1) t.2) (sh : tSH t.1 t.2) (g : ptG B s e 4) (hv2 : V 32 = nI (cLn B s e 4)) (pt : mpt h (cPt B s e 4) (cLn B s e 4)) (hv4 : V 34 = nI (cLm B s e 4)) (po : mpo h (cPq B s e 4) (cLm B s e 4))
    (hQ : cmQ B s e 4 t h V Q) :
    px_Wp sx 196 357 [some (.ref 619), l1, some (.int (nI e)), l3, l4, l5, some (.int (nI (pT B s e 4))), l7, l8, l9, l10] [] h Q := by
  have hcls : px_cls h 619 = some 11 := by unfold px_cls; rw [h6]
  have ok := sh.1
  have n40 := sh.2.2.1
  have t1000 := sh.2.2.2
  obtain ⟨hp, pp⟩ := ptG_p g
  have kg : 4 < 6 ∧ ptG B s e 4 := ⟨by decide, g⟩
  have re := pE_rng (B := B) (k := 4) hs
  have rT : pT B s e 4 ≤ e := by unfold pT; omega
  have hl6 : 619 < h.2.length := (List.getElem?_eq_some_iff.mp h6).1
  have s6 : ∀ x : px_C, (px_wr h 619 x).2[619]? = some x := fun x => by rw [wr_at, if_pos rfl, if_pos hl6]
  have fr6 : ∀ x : px_C, frm mvA h (px_wr h 619 x) := fun x => frm_wr (frm_refl _ _) (.inl rfl)
  obtain ⟨hq, qq⟩ := ptG_q g (.inl rfl)
  simp only [pc196_357, pc196_357n, pc196_358, hcls, true_and]
  refine m_move h6 hv hv2 hv4 hf (by omega) ok sh.2.1 w pt hp po hq qq (fun h1 U a b a1 a2 a3 a4 a5 a6 w1 c6 _ _ f1 s1 => ?_) (fun h1 no c6 f1 s1 => ?_)
  · simp only [px_K_none, pc196_361, pc196_368]
    exact cmQ_ok (t' := (t.1, U)) hQ ok kg (.inr (.inr (.inr (.inr (.inl ⟨rfl, a1, rfl, a, b, a2, a3, a4, a5, a6⟩))))) (fun z => by rcases z with z | z; have z : 40 < t.1 := z; omega; have z : 1000 < totN U t.1 := z; omega) w1 hv hf c6 (fun j _ _ _ _ => rfl) f1 (s1 hS)
  · simp only [px_K_none, pc196_361, pc196_368]
    refine cmQ_bad (x := 3) hQ (cdX_3 kg (fun ⟨t', d⟩ => ?_)) (by decide) c6 (fun j _ _ _ _ => rfl) f1 (s1 hS)
    rcases d with ⟨a0, -⟩ | ⟨a0, -⟩ | ⟨a0, -⟩ | ⟨a0, -⟩ | ⟨-, a1, -⟩ | ⟨a0, -⟩
    · omega
    · omega
    · omega
    · omega
    · exact no a1
    · omega
set_option maxRecDepth 16384 in
theorem m_com_t5 {l1 l3 l4 l5 l7 l8 l9 l10 : Option Value} (hS : shape h) (h6 : h.2[619]? = some (.inl (11, modF V))) (hX : h.2[654]? = some (.inr (1, 9000, .inl X))) (hB : txM X nl B) (hnl : nl ≤ 200) (hs : s ≤ e) (he : e ≤ nl) (hf : V 43 = 0) (hv : V 20 = nI t.1) (w : mtE h (fun i => i < t.1) t.2) (sh : tSH t.1 t.2) (g : ptG B s e 5) (hv2 : V 32 = nI (cLn B s e 5)) (pt : mpt h (cPt B s e 5) (cLn B s e 5)) (hv4 : V 34 = nI (cLm B s e 5)) (po : mpo h (cPq B s e 5) (cLm B s e 5))
    (hQ : cmQ B s e 5 t h V Q) :
    px_Wp sx 196 364 [some (.ref 619), l1, some (.int (nI e)), l3, l4, l5, some (.int (nI (pT B s e 5))), l7, l8, l9, l10] [] h Q := by
  have hcls : px_cls h 619 = some 11 := by unfold px_cls; rw [h6]
  have ok := sh.1
  have n40 := sh.2.2.1
  have t1000 := sh.2.2.2
  obtain ⟨hp, pp⟩ := ptG_p g
  have kg : 5 < 6 ∧ ptG B s e 5 := ⟨by decide, g⟩
  have re := pE_rng (B := B) (k := 5) hs
  have rT : pT B s e 5 ≤ e := by unfold pT; omega
  have hl6 : 619 < h.2.length := (List.getElem?_eq_some_iff.mp h6).1
  have s6 : ∀ x : px_C, (px_wr h 619 x).2[619]? = some x := fun x => by rw [wr_at, if_pos rfl, if_pos hl6]
  have fr6 : ∀ x : px_C, frm mvA h (px_wr h 619 x) := fun x => frm_wr (frm_refl _ _) (.inl rfl)
  obtain ⟨hq, qq⟩ := ptG_q g (.inr rfl)
  have hb : ∀ i, i < t.1 → eN (t.2 i) ≤ totN t.2 t.1 := fun i hi => eN_tot _ i hi
  have frj : ∀ {h1 : px_H}, frm jnA h h1 → frm mvA h h1 := fun f => frm_mono f (fun r hr => by unfold jnA mEB mEA at hr; unfold mvA; omega)
  simp only [pc196_364, pc196_364n, pc196_365, hcls, true_and]
  refine m_join h6 hv hv2 hv4 hf ok n40 t1000 hb w pt hp po hq (fun i j h1 a1 a2 a3 a4 a5 a6 a7 w1 c6 f1 s1 => ?_) (fun x h1 hx c6 f1 s1 => ?_)
  · simp only [px_K_none, pc196_368]
    have tt := totN_up (E := t.2) (e := ctE (t.2 i) (eN (t.2 j)) (eC (t.2 j))) (i := i) t.1 a1
    have e0 : eN (ctE (t.2 i) (eN (t.2 j)) (eC (t.2 j))) = eN (t.2 i) + eN (t.2 j) := rfl
    exact cmQ_ok (t' := (t.1, px_up t.2 i (ctE (t.2 i) (eN (t.2 j)) (eC (t.2 j))))) hQ ok kg (.inr (.inr (.inr (.inr (.inr ⟨rfl, i, j, a1, a2, a3, a4, a5, a6, rfl⟩))))) (fun z => by rcases z with z | z; have z : 40 < t.1 := z; omega; have z : 1000 < totN (px_up t.2 i (ctE (t.2 i) (eN (t.2 j)) (eC (t.2 j)))) t.1 := z; omega) w1 hv hf c6 (fun j _ _ _ _ => rfl) (frj f1) (s1 hS)
  · simp only [px_K_none, pc196_368]
    rcases hx with ⟨hx, rfl⟩ | ⟨⟨i, a1, a2, a3⟩, ⟨j, a4, a5, a6, a7⟩, rfl⟩
    · refine cmQ_bad hQ (cdX_3 kg (fun ⟨t', d⟩ => ?_)) (by decide) c6 (fun j _ _ _ _ => rfl) (frj f1) (s1 hS)
      rcases d with ⟨a0, -⟩ | ⟨a0, -⟩ | ⟨a0, -⟩ | ⟨a0, -⟩ | ⟨a0, -⟩ | ⟨-, i, j, a1, a2, a3, a4, a5, a6, -⟩
      · omega
      · omega
      · omega
      · omega
      · omega
      · exact hx ⟨⟨i, a1, a2, a3⟩, ⟨j, a4, a5, a6⟩⟩
    · have tt := totN_up (E := t.2) (e := ctE (t.2 i) (eN (t.2 j)) (eC (t.2 j))) (i := i) t.1 a1
      have e0 : eN (ctE (t.2 i) (eN (t.2 j)) (eC (t.2 j))) = eN (t.2 i) + eN (t.2 j) := rfl
      exact cmQ_bad hQ (cdX_4 (t' := (t.1, px_up t.2 i (ctE (t.2 i) (eN (t.2 j)) (eC (t.2 j))))) ok kg (.inr (.inr (.inr (.inr (.inr ⟨rfl, i, j, a1, a2, a3, a4, a5, a6, rfl⟩))))) (.inr (by show 1000 < totN (px_up t.2 i (ctE (t.2 i) (eN (t.2 j)) (eC (t.2 j)))) t.1; omega))) (by decide) c6 (fun j _ _ _ _ => rfl) (frj f1) (s1 hS)
end MCOM
