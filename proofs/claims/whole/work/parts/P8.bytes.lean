/-! THE CHANGES: bytes; and a step of a build -/
section CHB
variable {n m i j a d : Nat} {E F : Nat → aE} {g : Nat → Int32}
set_option maxRecDepth 16384 in
theorem itB_255 {k : Nat} {e : aE} (ok : eOK e) (hk : k ≤ 4) (hb : k = 2 → byE e) (hg : ∀ x, x < a → g x &&& 255 = g x) : ∀ x, x < a + itmN k e → itmB g a k e x &&& 255 = itmB g a k e x := fun x hx => by
  have l35 := ok.1.2.1
  have n1000 := eN_le ok
  have m1000 : itmM k e ≤ 1000 := by unfold itmM; split <;> omega
  by_cases k0 : k = 0
  · unfold itmN at hx
    rw [if_pos k0] at hx
    unfold itmB
    rw [if_pos (.inl k0)]
    exact hg x (by omega)
  · rw [itN_s k0] at hx
    by_cases x0 : x < a
    · rw [itB_lt x0]; exact hg x x0
    · by_cases x1 : x = a
      · rw [x1, itB_0 k0]; exact nI_small (by omega)
      · by_cases x2 : x = a + 1
        · rw [x2, itB_1 k0]; exact nI_small (by omega)
        · by_cases x3 : x < a + 2 + eL e
          · have := itB_p (g := g) (a := a) (e := e) (t := x - (a + 2)) k0 (by omega)
            rw [show a + 2 + (x - (a + 2)) = x by omega] at this
            have pp := pth_pos ok.1 (show x - (a + 2) < eL e by omega)
            rw [this]; exact nI_small (by omega)
          · by_cases x4 : x = a + 2 + eL e
            · rw [x4, itB_m k0]; exact nI_small (by omega)
            · by_cases x5 : x = a + 2 + eL e + 1
              · rw [x5, itB_n k0]; exact nI_small (by omega)
              · have := itB_c (g := g) (a := a) (e := e) (t := x - (a + 2 + eL e + 2)) k0
                rw [show a + 2 + eL e + 2 + (x - (a + 2 + eL e + 2)) = x by omega] at this
                rw [this]
                by_cases k2 : k = 2
                · refine hb k2 _ ?_
                  have : itmM k e = eN e := if_pos k2
                  omega
                · have : itmM k e = 0 := if_neg k2
                  omega
set_option maxRecDepth 16384 in
theorem gonK_c : gonK n E m F i = 3 ∨ gonK n E m F i = 0 := by
  unfold gonK
  rcases Classical.em (gonP n E m F i) with z | z
  · rw [pif_t z]; exact .inl rfl
  · rw [pif_f z]; exact .inr rfl
set_option maxRecDepth 16384 in
theorem chF_255 (ok : tOK n E) (ok' : tOK m F) (hb : ∀ j, j < m → byE (F j)) : ∀ d i j a g, (∀ x, x < a → g x &&& 255 = g x) → ∀ x, x < (chF n E m F d i j a g).1 → (chF n E m F d i j a g).2 x &&& 255 = (chF n E m F d i j a g).2 x := by
  intro d
  induction d with
  | zero => intro i j a g hg x hx; exact hg x hx
  | succ d ih =>
    intro i j a g hg
    by_cases e : n ≤ i ∧ m ≤ j
    · rw [chF_e e.1 e.2]; exact hg
    · rcases Classical.em (befO n E m F i j) with z | z
      · rw [chF_o z]
        refine ih _ _ _ _ (itB_255 (ok.2.1 i z.1) (by rcases gonK_c (n := n) (E := E) (m := m) (F := F) (i := i) with q | q <;> omega) (fun q => ?_) hg)
        rcases gonK_c (n := n) (E := E) (m := m) (F := F) (i := i) with q' | q' <;> omega
      · rcases Classical.em (befN n E m F i j) with y | y
        · rw [chF_n y]
          exact ih _ _ _ _ (itB_255 (ok'.2.1 j y.1) (by rcases (ok'.2.1 j y.1).2 with q | q <;> omega) (fun _ => hb j y.1) hg)
        · have : i < n ∧ j < m ∧ eP (E i) = eP (F j) := by
            rcases Nat.lt_or_ge i n with x | x
            · rcases Nat.lt_or_ge j m with v | v
              · rcases plt_tri' (ok.2.1 i x).1 (ok'.2.1 j v).1 with u | u | u
                · exact ⟨x, v, u⟩
                · exact absurd ⟨x, fun _ => u⟩ z
                · exact absurd ⟨v, fun _ => u⟩ y
              · exact absurd ⟨x, fun q => absurd q (by omega)⟩ z
            · exact absurd ⟨by omega, fun q => absurd q (by omega)⟩ y
          rw [chF_b this.1 this.2.1 this.2.2]
          exact ih _ _ _ _ (itB_255 (ok'.2.1 j this.2.1) bot_4 (fun _ => hb j this.2.1) hg)
end CHB
/-- the bytes of the layer from t to u -/
noncomputable def lyF (t u : aT) : Nat × (Nat → Int32) := chF t.1 t.2 u.1 u.2 81 0 0 0 (fun _ => 0)
set_option maxRecDepth 16384 in
theorem lyF_ok {t u : aT} (h : tSH t.1 t.2) (h' : tSH u.1 u.2) (hb : tBY u) : (lyF t u).1 ≤ 4120 ∧ ∀ x, x < (lyF t u).1 → (lyF t u).2 x &&& 255 = (lyF t u).2 x := by
  refine ⟨?_, chF_255 h.1 h'.1 hb 81 0 0 0 _ (fun x hx => absurd hx (Nat.not_lt_zero x))⟩
  have := chF_le h.1 h'.1 81 0 0 0 (fun _ => 0) (Nat.zero_le _) (Nat.zero_le _) (Nat.zero_le _)
  have a1 := h.2.2.1
  have a2 := h'.2.2.1
  have a3 := h'.2.2.2
  show (chF t.1 t.2 u.1 u.2 81 0 0 0 (fun _ => 0)).1 ≤ 4120
  omega
def addL (m : aM) (d : Int64) : aM := ((iL m + 1, px_up (iD m) (iL m) d), m.2)
noncomputable def lnF (cp : Bool) (L : Nat × (Nat → Nat)) (t : aT) : Nat × aT := if cp = true then copF L.2 L.1 t else runF L.2 L.1 t
/-- what keeping a layer comes to -/
def klR (S : yS) (m : aM) (key : Int64) (A : Nat × (Nat → Int32)) (x : Nat) (S' : yS) (m' : aM) : Prop :=
  (keepN S A.2 A.1 ∧ x = 5 ∧ S' = S ∧ m' = m) ∨ ∃ S1, keepY S A.2 A.1 S1 ∧ ((remN S1 key (dig A.2 A.1) ∧ x = 5 ∧ S' = S1 ∧ m' = m) ∨ (remY S1 key (dig A.2 A.1) S' ∧ x = 0 ∧ m' = addL m (dig A.2 A.1)))
/-- the layer that a key is known by -/
def knw (S : yS) (key v : Int64) : Prop := ∃ k, k < yK S ∧ yX S k = key ∧ yE S k = v ∧ hasD S v
def bOK (S : yS) (m : aM) : Prop := yOK S ∧ imOK m ∧ ∀ i, i < iL m → hasD S (iD m i)
/-- a step: fault, yard, image, hits -/
def bsR (S : yS) (m : aM) (key : Int64) (L : Nat × (Nat → Nat)) (cp : Bool) (x : Nat) (S' : yS) (m' : aM) (hit : Nat) : Prop :=
  (∃ v, knw S key v ∧ x = 0 ∧ S' = S ∧ m' = addL m v ∧ hit = 1) ∨
  ((∀ v, ¬ knw S key v) ∧ hit = 0 ∧ ∃ t, grw S (iL m) (iD m) t ∧ ((tooB t.1 t.2 ∧ x = 4 ∧ S' = S ∧ m' = m) ∨ (¬ tooB t.1 t.2 ∧ ((¬ (lnF cp L t).1 = 0 ∧ x = (lnF cp L t).1 ∧ S' = S ∧ m' = m) ∨ ((lnF cp L t).1 = 0 ∧ klR S m key (lyF t (lnF cp L t).2) x S' m')))))
section STEPR
variable {S S' S1 S2 : yS} {m m' m1 m2 : aM} {key : Int64} {L : Nat × (Nat → Nat)} {cp : Bool} {x x1 x2 hit h1 h2 : Nat} {A : Nat × (Nat → Int32)}
set_option maxRecDepth 16384 in
theorem klR_det (ok : yOK S) (hA : A.1 ≤ 4120 ∧ ∀ x, x < A.1 → A.2 x &&& 255 = A.2 x) (a : klR S m key A x1 S1 m1) (b : klR S m key A x2 S2 m2) : x1 = x2 ∧ S1 = S2 ∧ m1 = m2 := by
  have hw := (yOK_good ok).1
  rcases a with ⟨a1, rfl, rfl, rfl⟩ | ⟨T, a1, a2⟩ <;> rcases b with ⟨b1, rfl, rfl, rfl⟩ | ⟨T', b1, b2⟩
  · exact ⟨rfl, rfl, rfl⟩
  · exact (keepYN hw b1 a1).elim
  · exact (keepYN hw a1 b1).elim
  · have : T = T' := keepY_det a1 b1
    subst this
    have hk := (yOK_good (keep_ok ok hA.1 hA.2 a1)).2.1
    rcases a2 with ⟨c1, rfl, rfl, rfl⟩ | ⟨c1, rfl, rfl⟩ <;> rcases b2 with ⟨d1, rfl, rfl, rfl⟩ | ⟨d1, rfl, rfl⟩
    · exact ⟨rfl, rfl, rfl⟩
    · exact (remYN d1 c1).elim
    · exact (remYN c1 d1).elim
    · exact ⟨rfl, remY_det hk c1 d1, rfl⟩
set_option maxRecDepth 16384 in
theorem grw_sh {t : aT} (g : grw S (iL m) (iD m) t) (nb : ¬ tooB t.1 t.2) : tSH t.1 t.2 := ⟨grw_ok g, grw_pa g, by unfold tooB at nb; omega, by unfold tooB at nb; omega⟩
end STEPR
section BYT
variable {n : Nat} {E : Nat → aE}
set_option maxRecDepth 16384 in
theorem ap_by {k l m n' : Nat} {p : Nat → Nat} {c : Nat → Int32} {E' : Nat → aE} (h : tBY (n, E)) (hc : ∀ j, c j &&& 255 = c j) (w : apR n E k l p m c n' E') : tBY (n', E') := by
  have cut : ∀ a b, tBY (n - (b - a), cutE E a b) := fun a b i hi => by
    have hi' : i < n - (b - a) := hi
    show byE (cutE E a b i)
    unfold cutE
    by_cases x : i < a
    · rw [if_pos x]; exact h i (show i < n by omega)
    · rw [if_neg x]; exact h _ (show i + (b - a) < n by omega)
  have d0 : byE (dirE l p) := fun q hq => absurd hq (Nat.not_lt_zero q)
  have f0 : byE (l, p, 2, m, c) := fun q _ => hc q
  rcases w with ⟨i, b, i1, i2, i3, i4⟩ | ⟨i1, i2, i3, i4, a, i5, rfl, rfl⟩ | ⟨-, rfl, rfl⟩
  · rcases i4 with ⟨-, rfl, rfl⟩ | ⟨-, -, rfl, rfl⟩ | ⟨-, -, rfl, rfl⟩ | ⟨-, -, -, rfl, rfl⟩ | ⟨-, -, -, rfl, rfl⟩
    · exact cut i b
    · exact cut (i + 1) b
    · exact up_by h d0
    · exact up_by (cut (i + 1) b) f0
    · exact up_by h f0
  · refine ins_by h i5.1 ?_
    unfold iE
    split
    · exact f0
    · exact d0
  · exact h
set_option maxRecDepth 16384 in
theorem ly_by {B : Nat → Nat} {L : Nat} {t t' : aT} (hB : ∀ j, B j < 256) (h : tBY t) (w : lyA B L t t') : tBY t' := by
  rcases w with ⟨N, -, rfl⟩ | ⟨N, ts, il, rfl, rfl, a⟩
  · exact h
  · have : ∀ i, i ≤ N → tBY (ts i) := by
      intro i
      induction i with
      | zero => intro _; exact h
      | succ i ih =>
        intro hi
        exact ap_by (ih (by omega)) (fun j => nI_small (hB _)) (a i (by omega))
    exact this N (Nat.le_refl _)
set_option maxRecDepth 16384 in
theorem grw_by {S : yS} {nl : Nat} {Ly : Nat → Int64} {t : aT} (g : grw S nl Ly t) : tBY t := by
  obtain ⟨ts, e0, e1, e⟩ := g
  have : ∀ i, i ≤ nl → tBY (ts i) := by
    intro i
    induction i with
    | zero => intro _; rw [e0]; exact fun j hj => absurd hj (Nat.not_lt_zero j)
    | succ i ih =>
      intro hi
      obtain ⟨k, -, -, l⟩ := e i (by omega)
      exact ly_by (fun j => (bvF_ok _ j).2) (ih (by omega)) l
  rw [← e1]; exact this nl (Nat.le_refl _)
end BYT
section STEPR2
variable {S S' S1 S2 : yS} {m m' m1 m2 : aM} {key : Int64} {L : Nat × (Nat → Nat)} {cp : Bool} {x x1 x2 hit h1 h2 : Nat} {A : Nat × (Nat → Int32)} {t : aT}
set_option maxRecDepth 16384 in
theorem ln_ok (hn : L.1 ≤ 200) (hB : ∀ j, j < L.1 → L.2 j < 256) (sh : tSH t.1 t.2) (hb : tBY t) (x0 : (lnF cp L t).1 = 0) : tSH (lnF cp L t).2.1 (lnF cp L t).2.2 ∧ tBY (lnF cp L t).2 := by
  unfold lnF at x0 ⊢
  by_cases c : cp = true
  · rw [if_pos c] at x0 ⊢
    have lm : cLm L.2 0 L.1 2 ≤ 1000 := by unfold cLm; omega
    exact ⟨cdX_sh sh lm x0, cdX_by hb hB (sg_pT (Nat.zero_le _)) x0⟩
  · rw [if_neg c] at x0 ⊢
    exact rn_sh hn hB _ _ _ sh hb x0
set_option maxRecDepth 16384 in
theorem ln_4 : (lnF cp L t).1 ≤ 4 := by
  unfold lnF
  by_cases c : cp = true
  · rw [if_pos c]; exact cdX_4le
  · rw [if_neg c]; exact rn_4 _ _ _
set_option maxRecDepth 16384 in
theorem knw_det (hk : WKy S) {v v' : Int64} (a : knw S key v) (b : knw S key v') : v = v' := by
  obtain ⟨k, a1, a2, rfl, -⟩ := a
  obtain ⟨k', b1, b2, rfl, -⟩ := b
  rw [hk k k' a1 b1 (a2.trans b2.symm)]
set_option maxRecDepth 16384 in
theorem bs_det (ok : yOK S) (hn : L.1 ≤ 200) (hB : ∀ j, j < L.1 → L.2 j < 256) (a : bsR S m key L cp x1 S1 m1 h1) (b : bsR S m key L cp x2 S2 m2 h2) : x1 = x2 ∧ S1 = S2 ∧ m1 = m2 ∧ h1 = h2 := by
  have g := yOK_good ok
  rcases a with ⟨v, a1, rfl, rfl, rfl, rfl⟩ | ⟨a1, rfl, t, a2, a3⟩ <;> rcases b with ⟨v', b1, rfl, rfl, rfl, rfl⟩ | ⟨b1, rfl, t', b2, b3⟩
  · rw [knw_det g.2.1 a1 b1]; exact ⟨rfl, rfl, rfl, rfl⟩
  · exact absurd a1 (b1 v)
  · exact absurd b1 (a1 v')
  · have : t = t' := grw_det g.1 (fun _ _ => rfl) a2 b2
    subst this
    rcases a3 with ⟨c1, rfl, rfl, rfl⟩ | ⟨c1, c2⟩ <;> rcases b3 with ⟨d1, rfl, rfl, rfl⟩ | ⟨d1, d2⟩
    · exact ⟨rfl, rfl, rfl, rfl⟩
    · exact absurd c1 d1
    · exact absurd d1 c1
    · rcases c2 with ⟨e1, rfl, rfl, rfl⟩ | ⟨e1, e2⟩ <;> rcases d2 with ⟨f1, rfl, rfl, rfl⟩ | ⟨f1, f2⟩
      · exact ⟨rfl, rfl, rfl, rfl⟩
      · exact absurd f1 e1
      · exact absurd e1 f1
      · have sh := grw_sh a2 c1
        have lo := ln_ok (cp := cp) hn hB sh (grw_by a2) e1
        obtain ⟨y1, y2, y3⟩ := klR_det ok (lyF_ok sh lo.1 lo.2) e2 f2
        exact ⟨y1, y2, y3, rfl⟩
set_option maxRecDepth 16384 in
theorem hasD_keep {bb : Nat → Int32} {c : Nat} {v : Int64} (k : keepY S bb c S') (h : hasD S v) : hasD S' v := by
  rcases k with ⟨rfl, -⟩ | ⟨rfl, -⟩
  · exact h
  · obtain ⟨i, i1, i2⟩ := h
    refine ⟨i, show i < yB S + 1 by omega, ?_⟩
    show px_up (yD S) (yB S) (dig bb c) i = v
    rw [up_ne (by omega)]; exact i2
set_option maxRecDepth 16384 in
theorem hasD_kept {bb : Nat → Int32} {c : Nat} (k : keepY S bb c S') : hasD S' (dig bb c) := by
  rcases k with ⟨rfl, i, i1, i2, -⟩ | ⟨rfl, -⟩
  · exact ⟨i, i1, i2⟩
  · exact ⟨yB S, show yB S < yB S + 1 by omega, up_same _ _ _⟩
set_option maxRecDepth 16384 in
theorem hasD_rem {a v w : Int64} (k : remY S a v S') (h : hasD S w) : hasD S' w := by
  rcases k with ⟨rfl, -⟩ | ⟨-, k, -⟩
  · exact h
  · rcases k with ⟨k, -, -, rfl⟩ | ⟨-, -, rfl⟩
    · exact h
    · exact h
set_option maxRecDepth 16384 in
theorem addL_ok {v : Int64} (ok : imOK m) (h12 : iL m < 12) : imOK (addL m v) := ⟨by show iL m + 1 ≤ 12; omega, ok.2⟩
set_option maxRecDepth 16384 in
theorem addL_has {v : Int64} (h : ∀ i, i < iL m → hasD S (iD m i)) (hv : hasD S v) : ∀ i, i < iL (addL m v) → hasD S (iD (addL m v) i) := fun i hi => by
  have hi' : i < iL m + 1 := hi
  show hasD S (px_up (iD m) (iL m) v i)
  by_cases x : i = iL m
  · subst x; rw [up_same]; exact hv
  · rw [up_ne x]; exact h i (by omega)
set_option maxRecDepth 16384 in
theorem bs_ok (ok : bOK S m) (h12 : iL m < 12) (hn : L.1 ≤ 200) (hB : ∀ j, j < L.1 → L.2 j < 256) (a : bsR S m key L cp x S' m' hit) : yOK S' ∧ (x = 0 → bOK S' m') ∧ x ≤ 5 := by
  obtain ⟨o1, o2, o3⟩ := ok
  rcases a with ⟨v, a1, rfl, rfl, rfl, rfl⟩ | ⟨a1, rfl, t, a2, a3⟩
  · obtain ⟨k, c1, c2, c3, c4⟩ := a1
    exact ⟨o1, fun _ => ⟨o1, addL_ok o2 h12, addL_has o3 c4⟩, by omega⟩
  · rcases a3 with ⟨c1, rfl, rfl, rfl⟩ | ⟨c1, c2⟩
    · exact ⟨o1, fun z => by omega, by omega⟩
    · rcases c2 with ⟨e1, rfl, rfl, rfl⟩ | ⟨e1, e2⟩
      · exact ⟨o1, fun z => absurd z e1, by have := ln_4 (cp := cp) (L := L) (t := t); omega⟩
      · have sh := grw_sh a2 c1
        have lo := ln_ok (cp := cp) hn hB sh (grw_by a2) e1
        have ly := lyF_ok sh lo.1 lo.2
        rcases e2 with ⟨f1, rfl, rfl, rfl⟩ | ⟨T, f1, f2⟩
        · exact ⟨o1, fun z => by omega, by omega⟩
        · have k1 := keep_ok o1 ly.1 ly.2 f1
          rcases f2 with ⟨g1, rfl, rfl, rfl⟩ | ⟨g1, rfl, rfl⟩
          · exact ⟨k1, fun z => by omega, by omega⟩
          · have r1 := rem_ok k1 g1
            exact ⟨r1, fun _ => ⟨r1, addL_ok o2 h12, addL_has (fun i hi => hasD_rem g1 (hasD_keep f1 (o3 i hi))) (hasD_rem g1 (hasD_kept f1))⟩, by omega⟩
end STEPR2
