/-! WHAT A COMMAND DOES -/
abbrev aT : Type := Nat × (Nat → aE)
def cLn (B : Nat → Nat) (s e k : Nat) : Nat := pE B s e k - pS B s e
def cPt (B : Nat → Nat) (s e k : Nat) : Nat → Nat := patF B (pS B s e) (cLn B s e k)
def cLm (B : Nat → Nat) (s e k : Nat) : Nat := e - pT B s e k
def cPq (B : Nat → Nat) (s e k : Nat) : Nat → Nat := patF B (pT B s e k) (cLm B s e k)
def cTx (B : Nat → Nat) (s e k : Nat) : Nat → Int32 := fun j => nI (B (pT B s e k + j))
def dnR (B : Nat → Nat) (s e k : Nat) (t t' : aT) : Prop :=
  (k = 0 ∧ ¬ inT t.1 t.2 (cPt B s e k) ∧ homed t.1 t.2 (cPt B s e k) (cLn B s e k) ∧ ∃ g, gapE t.1 t.2 (cPt B s e k) g ∧ t' = (t.1 + 1, insE t.2 g (dirE (cLn B s e k) (cPt B s e k)))) ∨
  (k = 1 ∧ ∃ i b, i < t.1 ∧ eP (t.2 i) = cPt B s e k ∧ endE t.1 t.2 i b ∧ t' = (t.1 - (b - i), cutE t.2 i b)) ∨
  (k = 2 ∧ homed t.1 t.2 (cPt B s e k) (cLn B s e k) ∧ ((∃ i, i < t.1 ∧ eP (t.2 i) = cPt B s e k ∧ eK (t.2 i) = 2 ∧ t' = (t.1, px_up t.2 i (cLn B s e k, cPt B s e k, 2, cLm B s e k, cTx B s e k))) ∨ (¬ inT t.1 t.2 (cPt B s e k) ∧ ∃ g, gapE t.1 t.2 (cPt B s e k) g ∧ t' = (t.1 + 1, insE t.2 g (cLn B s e k, cPt B s e k, 2, cLm B s e k, cTx B s e k))))) ∨
  (k = 3 ∧ ∃ i, i < t.1 ∧ eP (t.2 i) = cPt B s e k ∧ eK (t.2 i) = 2 ∧ t' = (t.1, px_up t.2 i (ctE (t.2 i) (cLm B s e k) (cTx B s e k)))) ∨
  (k = 4 ∧ mvP t.1 t.2 (cPt B s e k) (cLn B s e k) (cPq B s e k) (cLm B s e k) ∧ t'.1 = t.1 ∧ mvR t.1 t.2 (cPt B s e k) (cLn B s e k) (cPq B s e k) (cLm B s e k) t'.2) ∨
  (k = 5 ∧ ∃ i j, i < t.1 ∧ eP (t.2 i) = cPt B s e k ∧ eK (t.2 i) = 2 ∧ j < t.1 ∧ eP (t.2 j) = cPq B s e k ∧ eK (t.2 j) = 2 ∧ t' = (t.1, px_up t.2 i (ctE (t.2 i) (eN (t.2 j)) (eC (t.2 j)))))
section DONE
variable {B : Nat → Nat} {s e k : Nat} {t t' u : aT}
set_option maxRecDepth 16384 in
theorem gap_in {n : Nat} {E : Nat → aE} {p : Nat → Nat} {g : Nat} (h : gapE n E p g) : ¬ inT n E p := gap_not h
set_option maxRecDepth 16384 in
theorem dn_det (ok : tOK t.1 t.2) (h1 : dnR B s e k t t') (h2 : dnR B s e k t u) : t'.1 = u.1 ∧ ∀ i, i < t'.1 → t'.2 i = u.2 i := by
  rcases h1 with ⟨a0, a1, a2, g, a3, rfl⟩ | ⟨a0, i, b, a1, a2, a3, rfl⟩ | ⟨a0, a1, a2⟩ | ⟨a0, i, a1, a2, a3, rfl⟩ | ⟨a0, a1, a2, a3⟩ | ⟨a0, i, j, a1, a2, a3, a4, a5, a6, rfl⟩
  · rcases h2 with ⟨b0, b1, b2, g', b3, rfl⟩ | ⟨b0, -⟩ | ⟨b0, -⟩ | ⟨b0, -⟩ | ⟨b0, -⟩ | ⟨b0, -⟩
    · rw [gap_det a3 b3]; exact ⟨rfl, fun _ _ => rfl⟩
    all_goals omega
  · rcases h2 with ⟨b0, -⟩ | ⟨b0, i', b', b1, b2, b3, rfl⟩ | ⟨b0, -⟩ | ⟨b0, -⟩ | ⟨b0, -⟩ | ⟨b0, -⟩
    · omega
    · have : i = i' := srt_uniq ok a1 b1 (a2.trans b2.symm)
      subst this
      rw [end_det a3 b3]; exact ⟨rfl, fun _ _ => rfl⟩
    all_goals omega
  · rcases h2 with ⟨b0, -⟩ | ⟨b0, -⟩ | ⟨b0, b1, b2⟩ | ⟨b0, -⟩ | ⟨b0, -⟩ | ⟨b0, -⟩
    · omega
    · omega
    · rcases a2 with ⟨i, x1, x2, x3, rfl⟩ | ⟨x1, g, x2, rfl⟩
      · rcases b2 with ⟨i', y1, y2, y3, rfl⟩ | ⟨y1, g', y2, rfl⟩
        · rw [srt_uniq ok x1 y1 (x2.trans y2.symm)]; exact ⟨rfl, fun _ _ => rfl⟩
        · exact absurd ⟨i, x1, x2⟩ y1
      · rcases b2 with ⟨i', y1, y2, y3, rfl⟩ | ⟨y1, g', y2, rfl⟩
        · exact absurd ⟨i', y1, y2⟩ x1
        · rw [gap_det x2 y2]; exact ⟨rfl, fun _ _ => rfl⟩
    all_goals omega
  · rcases h2 with ⟨b0, -⟩ | ⟨b0, -⟩ | ⟨b0, -⟩ | ⟨b0, i', b1, b2, b3, rfl⟩ | ⟨b0, -⟩ | ⟨b0, -⟩
    · omega
    · omega
    · omega
    · rw [srt_uniq ok a1 b1 (a2.trans b2.symm)]; exact ⟨rfl, fun _ _ => rfl⟩
    all_goals omega
  · rcases h2 with ⟨b0, -⟩ | ⟨b0, -⟩ | ⟨b0, -⟩ | ⟨b0, -⟩ | ⟨b0, b1, b2, b3⟩ | ⟨b0, -⟩
    · omega
    · omega
    · omega
    · omega
    · exact ⟨a2.trans b2.symm, fun i hi => mvR_det ok a3 b3 i (by omega)⟩
    · omega
  · rcases h2 with ⟨b0, -⟩ | ⟨b0, -⟩ | ⟨b0, -⟩ | ⟨b0, -⟩ | ⟨b0, -⟩ | ⟨b0, i', j', b1, b2, b3, b4, b5, b6, rfl⟩
    · omega
    · omega
    · omega
    · omega
    · omega
    · rw [srt_uniq ok a1 b1 (a2.trans b2.symm), srt_uniq ok a4 b4 (a5.trans b5.symm)]; exact ⟨rfl, fun _ _ => rfl⟩
set_option maxRecDepth 16384 in
theorem homed_of {n i l : Nat} {E : Nat → aE} {p : Nat → Nat} (ok : tOK n E) (hp : pth p l) (hi : i < n) (ei : eP (E i) = p) : homed n E p l := by
  have li : eL (E i) = l := pth_len (by rw [← ei]; exact (ok.2.1 i hi).1) hp
  by_cases x : homeL p l = 0
  · exact .inl x
  · have := ok.2.2.2 i hi (by rw [ei, li]; exact x)
    rw [ei, li] at this
    exact .inr this
def tBY (t : aT) : Prop := ∀ i, i < t.1 → byE (t.2 i)
set_option maxRecDepth 16384 in
theorem ptG_p (g : ptG B s e k) : pth (cPt B s e k) (cLn B s e k) ∧ pathAt (cPt B s e k) 0 (cLn B s e k) := ⟨path_pth g.1, pat_pat g.1⟩
set_option maxRecDepth 16384 in
theorem ptG_q (g : ptG B s e k) (hk : k = 4 ∨ k = 5) : pth (cPq B s e k) (cLm B s e k) ∧ pathAt (cPq B s e k) 0 (cLm B s e k) := ⟨path_pth (g.2 hk), pat_pat (g.2 hk)⟩
set_option maxRecDepth 16384 in
theorem no_kid {n i : Nat} {E : Nat → aE} (ok : tOK n E) (hi : i < n) (k2 : eK (E i) = 2) : ∀ j, j < n → homeL (eP (E j)) (eL (E j)) ≠ 0 → ¬ eP (E i) = cutP (eP (E j)) (homeL (eP (E j)) (eL (E j))) := fun j hj h0 z => by
  obtain ⟨q, q1, q2, q3⟩ := ok.2.2.2 j hj h0
  rw [srt_uniq ok hi q1 (z.trans q2.symm)] at k2
  omega
set_option maxRecDepth 16384 in
theorem file_ok {n i m : Nat} {E : Nat → aE} {c : Nat → Int32} (h : tSH n E) (hi : i < n) (k2 : eK (E i) = 2) (nb : ¬ tooB n (px_up E i (eL (E i), eP (E i), 2, m, c))) : tSH n (px_up E i (eL (E i), eP (E i), 2, m, c)) := by
  obtain ⟨ok, pa, n40, tt⟩ := h
  have t1 : totN (px_up E i (eL (E i), eP (E i), 2, m, c)) n ≤ 1000 := by unfold tooB at nb; omega
  have m1 : m ≤ 1000 := by
    have := eN_tot (E := px_up E i (eL (E i), eP (E i), 2, m, c)) n i hi
    rw [up_same] at this
    have e : eN ((eL (E i), eP (E i), 2, m, c) : aE) = m := rfl
    omega
  refine ⟨set_ok (l := 0) (m := 0) (p := fun _ => 0) ok hi ⟨(ok.2.1 i hi).1, .inr ⟨rfl, m1⟩⟩ rfl rfl (.inr (no_kid ok hi k2)), fun j hj => ?_, n40, t1⟩
  by_cases x : j = i
  · subst x; rw [up_same]; exact pa j hj
  · rw [up_ne x]; exact pa j hj
set_option maxRecDepth 16384 in
theorem ins_sh {n g : Nat} {E : Nat → aE} {y : aE} (h : tSH n E) (he : eOK y) (py : pathAt (eP y) 0 (eL y)) (gp : gapE n E (eP y) g) (hd : homed n E (eP y) (eL y)) (nb : ¬ tooB (n + 1) (insE E g y)) : tSH (n + 1) (insE E g y) := by
  obtain ⟨ok, pa, n40, tt⟩ := h
  have gn := gp.1
  refine ⟨ins_ok ok (by omega) he gp hd, fun i hi => ?_, by unfold tooB at nb; omega, by unfold tooB at nb; omega⟩
  unfold insE
  by_cases x : i < g
  · rw [if_pos x]; exact pa i (by omega)
  · rw [if_neg x]
    by_cases z : i = g
    · rw [if_pos z]; exact py
    · rw [if_neg z]; exact pa _ (by omega)
set_option maxRecDepth 16384 in
theorem dn_ok (h : tSH t.1 t.2) (g : ptG B s e k) (hm : cLm B s e k ≤ 1000) (d : dnR B s e k t t') (nb : ¬ tooB t'.1 t'.2) : tSH t'.1 t'.2 := by
  obtain ⟨hp, pp⟩ := ptG_p g
  have ok := h.1
  rcases d with ⟨a0, a1, a2, gg, a3, rfl⟩ | ⟨a0, i, b, a1, a2, a3, rfl⟩ | ⟨a0, a1, a2⟩ | ⟨a0, i, a1, a2, a3, rfl⟩ | ⟨a0, a1, a2, a3⟩ | ⟨a0, i, j, a1, a2, a3, a4, a5, a6, rfl⟩
  · exact ins_sh (y := dirE (cLn B s e k) (cPt B s e k)) h ⟨hp, .inl ⟨rfl, rfl⟩⟩ pp a3 a2 nb
  · have ap : apR t.1 t.2 3 (cLn B s e k) (cPt B s e k) 0 (fun _ => 0) (t.1 - (b - i)) (cutE t.2 i b) := .inl ⟨i, b, a1, a2, a3, .inl ⟨rfl, rfl, rfl⟩⟩
    exact ⟨ap_ok ok hp (by omega) ap, ap_pa h.2.1 pp ap, by unfold tooB at nb; show t.1 - (b - i) ≤ 40; have := h.2.2.1; omega, by unfold tooB at nb; omega⟩
  · rcases a2 with ⟨i, x1, x2, x3, rfl⟩ | ⟨x1, gg, x2, rfl⟩
    · have li : eL (t.2 i) = cLn B s e k := pth_len (by rw [← x2]; exact (ok.2.1 i x1).1) hp
      have := file_ok (m := cLm B s e k) (c := cTx B s e k) h x1 x3
      rw [li, x2] at this
      exact this nb
    · exact ins_sh (y := (cLn B s e k, cPt B s e k, 2, cLm B s e k, cTx B s e k)) h ⟨hp, .inr ⟨rfl, hm⟩⟩ pp x2 a1 nb
  · exact file_ok h a1 a3 nb
  · obtain ⟨hq, qq⟩ := ptG_q g (.inl a0)
    obtain ⟨c1, c2⟩ := mv_ok ok h.2.1 hp hq qq a1 a3
    rw [a2] at nb ⊢
    exact ⟨c1, c2, by unfold tooB at nb; omega, by unfold tooB at nb; omega⟩
  · exact file_ok h a1 a3 nb
set_option maxRecDepth 16384 in
theorem ctE_by {x : aE} {m : Nat} {c : Nat → Int32} (hx : byE x) (hc : ∀ j, j < m → c j &&& 255 = c j) : byE (ctE x m c) := fun q hq => by
  have hq' : q < eN x + m := hq
  show (if q < eN x then eC x q else c (q - eN x)) &&& 255 = (if q < eN x then eC x q else c (q - eN x))
  by_cases z : q < eN x
  · rw [if_pos z]; exact hx q z
  · rw [if_neg z]; exact hc _ (by omega)
set_option maxRecDepth 16384 in
theorem up_by {n i : Nat} {E : Nat → aE} {y : aE} (h : tBY (n, E)) (hy : byE y) : tBY (n, px_up E i y) := fun j hj => by
  show byE (px_up E i y j)
  by_cases x : j = i
  · subst x; rw [up_same]; exact hy
  · rw [up_ne x]; exact h j hj
set_option maxRecDepth 16384 in
theorem ins_by {n g : Nat} {E : Nat → aE} {y : aE} (h : tBY (n, E)) (hg : g ≤ n) (hy : byE y) : tBY (n + 1, insE E g y) := fun j hj => by
  have hj' : j < n + 1 := hj
  show byE (insE E g y j)
  unfold insE
  by_cases x : j < g
  · rw [if_pos x]; exact h j (show j < n by omega)
  · rw [if_neg x]
    by_cases z : j = g
    · rw [if_pos z]; exact hy
    · rw [if_neg z]; exact h _ (show j - 1 < n by omega)
set_option maxRecDepth 16384 in
theorem dn_by (h : tBY t) (hB : ∀ j, j < e → B j < 256) (hT : pT B s e k ≤ e) (d : dnR B s e k t t') : tBY t' := by
  have hc : ∀ j, j < cLm B s e k → cTx B s e k j &&& 255 = cTx B s e k j := fun j hj => by
    unfold cLm at hj
    exact nI_small (hB _ (by omega))
  rcases d with ⟨a0, a1, a2, gg, a3, rfl⟩ | ⟨a0, i, b, a1, a2, a3, rfl⟩ | ⟨a0, a1, a2⟩ | ⟨a0, i, a1, a2, a3, rfl⟩ | ⟨a0, a1, a2, a3⟩ | ⟨a0, i, j, a1, a2, a3, a4, a5, a6, rfl⟩
  · exact ins_by h a3.1 (fun q hq => absurd hq (Nat.not_lt_zero q))
  · intro j hj
    have hj' : j < t.1 - (b - i) := hj
    show byE (cutE t.2 i b j)
    unfold cutE
    by_cases x : j < i
    · rw [if_pos x]; exact h j (by omega)
    · rw [if_neg x]; exact h _ (by omega)
  · rcases a2 with ⟨i, x1, x2, x3, rfl⟩ | ⟨x1, gg, x2, rfl⟩
    · exact up_by h hc
    · exact ins_by h x2.1 hc
  · exact up_by h (ctE_by (h i a1) hc)
  · obtain ⟨aa, bb, c1, c2, c3, c4, -⟩ := a3
    intro j hj
    obtain ⟨q, q1, q2⟩ := c4.2.1 j (by omega)
    rw [q2]
    unfold mvG
    split
    · exact h q q1
    · exact h q q1
  · exact up_by h (ctE_by (h i a1) (h j a4))
set_option maxRecDepth 16384 in
theorem tooB_congr {n : Nat} {E E' : Nat → aE} (h : ∀ i, i < n → E i = E' i) : tooB n E ↔ tooB n E' := by
  unfold tooB
  rw [totN_congr (E := E') (E' := E) n (fun i hi => by rw [h i hi])]
noncomputable def dnF (B : Nat → Nat) (s e k : Nat) (t : aT) : aT := @Classical.epsilon aT ⟨t⟩ (fun t' => dnR B s e k t t')
set_option maxRecDepth 16384 in
theorem dnF_s (d : dnR B s e k t t') : dnR B s e k t (dnF B s e k t) := Classical.epsilon_spec (p := fun t' => dnR B s e k t t') ⟨t', d⟩
set_option maxRecDepth 16384 in
theorem dnF_e (ok : tOK t.1 t.2) (d : dnR B s e k t t') : (dnF B s e k t).1 = t'.1 ∧ ∀ i, i < t'.1 → t'.2 i = (dnF B s e k t).2 i := by
  have := dn_det ok d (dnF_s d)
  exact ⟨this.1.symm, this.2⟩
/-- the fault: 0, 1, 3, 4; k = 6: no such command -/
noncomputable def cdX (B : Nat → Nat) (s e k : Nat) (t : aT) : Nat := pif (k < 6 ∧ ptG B s e k) (pif (∃ t', dnR B s e k t t') (pif (tooB (dnF B s e k t).1 (dnF B s e k t).2) 4 0) 3) 1
set_option maxRecDepth 16384 in
theorem cdX_1 (h : ¬ (k < 6 ∧ ptG B s e k)) : cdX B s e k t = 1 := pif_f h
set_option maxRecDepth 16384 in
theorem cdX_3 (h : k < 6 ∧ ptG B s e k) (no : ¬ ∃ t', dnR B s e k t t') : cdX B s e k t = 3 := (pif_t h).trans (pif_f no)
set_option maxRecDepth 16384 in
theorem cdX_4 (ok : tOK t.1 t.2) (h : k < 6 ∧ ptG B s e k) (d : dnR B s e k t t') (b : tooB t'.1 t'.2) : cdX B s e k t = 4 := by
  obtain ⟨e1, e2⟩ := dnF_e ok d
  refine (pif_t h).trans ((pif_t ⟨t', d⟩).trans (pif_t ?_))
  rw [e1]
  exact (tooB_congr e2).mp b
set_option maxRecDepth 16384 in
theorem cdX_0 (ok : tOK t.1 t.2) (h : k < 6 ∧ ptG B s e k) (d : dnR B s e k t t') (b : ¬ tooB t'.1 t'.2) : cdX B s e k t = 0 := by
  obtain ⟨e1, e2⟩ := dnF_e ok d
  refine (pif_t h).trans ((pif_t ⟨t', d⟩).trans (pif_f ?_))
  rw [e1]
  exact fun z => b ((tooB_congr e2).mpr z)
set_option maxRecDepth 16384 in
theorem cdX_i (x0 : cdX B s e k t = 0) : (k < 6 ∧ ptG B s e k) ∧ dnR B s e k t (dnF B s e k t) ∧ ¬ tooB (dnF B s e k t).1 (dnF B s e k t).2 := by
  rcases Classical.em (k < 6 ∧ ptG B s e k) with h | h
  · rcases Classical.em (∃ t', dnR B s e k t t') with d | d
    · obtain ⟨t', d⟩ := d
      refine ⟨h, dnF_s d, fun z => ?_⟩
      have : cdX B s e k t = 4 := (pif_t h).trans ((pif_t ⟨t', d⟩).trans (pif_t z))
      omega
    · have := cdX_3 h d; omega
  · have := cdX_1 (t := t) h; omega
set_option maxRecDepth 16384 in
theorem cdX_sh (h : tSH t.1 t.2) (hm : cLm B s e k ≤ 1000) (x0 : cdX B s e k t = 0) : tSH (dnF B s e k t).1 (dnF B s e k t).2 := by
  obtain ⟨g, d, nb⟩ := cdX_i x0
  exact dn_ok h g.2 hm d nb
set_option maxRecDepth 16384 in
theorem cdX_by (h : tBY t) (hB : ∀ j, j < e → B j < 256) (hT : pT B s e k ≤ e) (x0 : cdX B s e k t = 0) : tBY (dnF B s e k t) := by
  obtain ⟨g, d, nb⟩ := cdX_i x0
  exact dn_by h hB hT d
set_option maxRecDepth 16384 in
theorem cdX_4le : cdX B s e k t ≤ 4 := by
  rcases Classical.em (k < 6 ∧ ptG B s e k) with h | h
  · rcases Classical.em (∃ t', dnR B s e k t t') with d | d
    · rcases Classical.em (tooB (dnF B s e k t).1 (dnF B s e k t).2) with z | z
      · have : cdX B s e k t = 4 := (pif_t h).trans ((pif_t d).trans (pif_t z)); omega
      · have : cdX B s e k t = 0 := (pif_t h).trans ((pif_t d).trans (pif_f z)); omega
    · have := cdX_3 h d; omega
  · have := cdX_1 (t := t) h; omega
/-! what adds bytes takes seven signs -/
set_option maxRecDepth 16384 in
theorem add_7 (hs : s ≤ e) (hw : wrd B s (fnd B 32 s (e - s)) (wd k)) (hk : k = 3 ∨ k = 5) (g : ptG B s e k) (hm : k = 5 ∨ cLm B s e k ≠ 0) : s + 7 ≤ e := by
  have r1 := fnd_rng (B := B) (c := 32) (e - s) s
  have l1 := (path_pth g.1).1
  have f1 : fnd B 32 s (e - s) ≥ s + 3 := by
    have := hw.1
    rcases hk with rfl | rfl
    · have : fnd B 32 s (e - s) = s + 3 := this
      omega
    · have : fnd B 32 s (e - s) = s + 4 := this
      omega
  have re := pE_rng (B := B) (k := k) hs
  have m1 : 1 ≤ e - pT B s e k := by
    rcases hm with hm | hm
    · exact (path_pth (g.2 (.inr hm))).1
    · unfold cLm at hm; omega
  unfold pT at m1
  have : pS B s e ≥ s + 4 := by unfold pS at *; omega
  omega
end DONE
