/-! A PART OF A TREE MOVED -/
def mv (p : Nat → Nat) (l : Nat) (e : aE) : Prop := eP e = p ∨ blw p l (eP e)
def renE (l : Nat) (p2 : Nat → Nat) (l2 : Nat) (e : aE) : aE := (l2 + (eL e - l), renP (eP e) l (eL e) p2 l2, eK e, eN e, eC e)
def mvG (E : Nat → aE) (l : Nat) (p2 : Nat → Nat) (l2 a b : Nat) : Nat → aE := fun j => if a ≤ j ∧ j < b then renE l p2 l2 (E j) else E j
def srtE (n : Nat) (T : Nat → aE) : Prop := ∀ i j, i < j → j < n → plt (eP (T i)) (eP (T j))
/-- T has the n entries of G, sorted -/
def arr (n : Nat) (G T : Nat → aE) : Prop := srtE n T ∧ (∀ i, i < n → ∃ j, j < n ∧ T i = G j) ∧ ∀ j, j < n → ∃ i, i < n ∧ T i = G j
set_option maxRecDepth 16384 in
theorem arr_det {n : Nat} {G T U : Nat → aE} (h1 : arr n G T) (h2 : arr n G U) : ∀ i, i < n → T i = U i := by
  have key : ∀ k i, i < k → i < n → T i = U i := by
    intro k
    induction k with
    | zero => intro i hi; omega
    | succ k ih =>
      intro i hi hn
      obtain ⟨j, j1, j2⟩ := h1.2.1 i hn
      obtain ⟨x, x1, x2⟩ := h2.2.2 j j1
      obtain ⟨y, y1, y2⟩ := h2.2.1 i hn
      obtain ⟨z, z1, z2⟩ := h1.2.2 y y1
      have e1 : T i = U x := j2.trans x2.symm
      have e2 : U i = T z := y2.trans z2.symm
      have xi : ¬ x < i := fun q => by
        have := h1.1 x i q hn
        rw [e1, ← ih x (by omega) (by omega)] at this
        exact plt_irr _ this
      have zi : ¬ z < i := fun q => by
        have := h2.1 z i q hn
        rw [e2, ih z (by omega) (by omega)] at this
        exact plt_irr _ this
      by_cases q : x = i
      · rw [e1, q]
      · exfalso
        have p1 := h2.1 i x (by omega) x1
        rw [← e1, e2] at p1
        by_cases r : z = i
        · rw [r] at p1; exact plt_irr _ p1
        · exact plt_asym p1 (h1.1 i z (by omega) z1)
  exact fun i hi => key (i + 1) i (by omega) hi
set_option maxRecDepth 16384 in
theorem srt_u {n : Nat} {T : Nat → aE} (h : srtE n T) {i j : Nat} (hi : i < n) (hj : j < n) (e : eP (T i) = eP (T j)) : i = j := by
  rcases Nat.lt_trichotomy i j with x | x | x
  · have := h i j x hj; rw [e] at this; exact absurd this (plt_irr _)
  · exact x
  · have := h j i x hi; rw [e] at this; exact absurd this (plt_irr _)
section MOVE
variable {n l l2 a b : Nat} {E T : Nat → aE} {p p2 : Nat → Nat} {e e' : aE}
set_option maxRecDepth 16384 in
theorem ren_lt {j : Nat} (hj : j < l2) : eP (renE l p2 l2 e) j = p2 j := if_pos hj
set_option maxRecDepth 16384 in
theorem mv_ge (ok : pth (eP e) (eL e)) (hp : pth p l) (m : mv p l e) : l ≤ eL e := by
  rcases m with m | m
  · have : l = eL e := pth_len hp (by rw [← m]; exact ok)
    omega
  · by_cases x : l < eL e
    · omega
    · have := ok.2.2.2.1 l (by omega)
      rw [m.2] at this; omega
set_option maxRecDepth 16384 in
theorem mv_lt {j : Nat} (m : mv p l e) (hj : j < l) : eP e j = p j := by
  rcases m with m | m
  · rw [m]
  · exact m.1 j hj
set_option maxRecDepth 16384 in
theorem ren_at (ok : pth (eP e) (eL e)) (hp : pth p l) (m : mv p l e) (t : Nat) : eP (renE l p2 l2 e) (l2 + t) = eP e (l + t) := by
  have g := mv_ge ok hp m
  show renP (eP e) l (eL e) p2 l2 (l2 + t) = _
  unfold renP
  rw [if_neg (by omega)]
  by_cases x : l2 + t < l2 + (eL e - l)
  · rw [if_pos x, show l + (l2 + t - l2) = l + t by omega]
  · rw [if_neg x, ok.2.2.2.1 (l + t) (by omega)]
set_option maxRecDepth 16384 in
theorem ren_p (ok : pth (eP e) (eL e)) (hp : pth p l) (hp2 : pth p2 l2) (m : eP e = p) : eP (renE l p2 l2 e) = p2 := by
  funext j
  by_cases x : j < l2
  · exact ren_lt x
  · have := ren_at (p2 := p2) (l2 := l2) ok hp (.inl m) (j - l2)
    rw [show l2 + (j - l2) = j by omega] at this
    rw [this, m, hp.2.2.2.1 _ (by omega), hp2.2.2.2.1 _ (by omega)]
set_option maxRecDepth 16384 in
theorem ren_b (ok : pth (eP e) (eL e)) (hp : pth p l) (m : blw p l (eP e)) : blw p2 l2 (eP (renE l p2 l2 e)) := by
  refine ⟨fun j hj => ren_lt hj, ?_⟩
  have := ren_at (p2 := p2) (l2 := l2) ok hp (.inr m) 0
  rw [Nat.add_zero, Nat.add_zero] at this
  rw [this]; exact m.2
set_option maxRecDepth 16384 in
theorem ren_mv (ok : pth (eP e) (eL e)) (hp : pth p l) (hp2 : pth p2 l2) (m : mv p l e) : mv p2 l2 (renE l p2 l2 e) := by
  rcases m with m | m
  · exact .inl (ren_p ok hp hp2 m)
  · exact .inr (ren_b ok hp m)
set_option maxRecDepth 16384 in
theorem ren_inj (ok : pth (eP e) (eL e)) (ok' : pth (eP e') (eL e')) (hp : pth p l) (m : mv p l e) (m' : mv p l e') (q : eP (renE l p2 l2 e) = eP (renE l p2 l2 e')) : eP e = eP e' := by
  funext j
  by_cases x : j < l
  · rw [mv_lt m x, mv_lt m' x]
  · have h1 := ren_at (p2 := p2) (l2 := l2) ok hp m (j - l)
    have h2 := ren_at (p2 := p2) (l2 := l2) ok' hp m' (j - l)
    rw [show l + (j - l) = j by omega] at h1 h2
    rw [← h1, ← h2, q]
/-! what is above an entry is there -/
set_option maxRecDepth 16384 in
theorem in_above (h : tOK n E) {q : Nat → Nat} {m : Nat} (hq : pth q m) : ∀ k i, i < n → eL (E i) < k → blw q m (eP (E i)) → inT n E q := by
  intro k
  induction k with
  | zero => intro i _ hk; omega
  | succ k ih =>
    intro i hi hk w
    have ok := (h.2.1 i hi).1
    have ml : m < eL (E i) := by
      by_cases x : m < eL (E i)
      · exact x
      · have := ok.2.2.2.1 m (by omega)
        rw [w.2] at this; omega
    have ge : m ≤ homeL (eP (E i)) (eL (E i)) := by
      by_cases x : homeL (eP (E i)) (eL (E i)) < m
      · exact absurd w.2 (home_no _ m x ml)
      · omega
    have m0 := hq.1
    have h0 : homeL (eP (E i)) (eL (E i)) ≠ 0 := by omega
    obtain ⟨j, j1, j2, j3⟩ := h.2.2.2 i hi h0
    obtain ⟨b1, b2, b3, b4⟩ := home_blw ok h0
    by_cases x : homeL (eP (E i)) (eL (E i)) = m
    · refine ⟨j, j1, ?_⟩
      rw [j2, x]
      funext t
      by_cases y : t < m
      · rw [cutP_lt y]; exact w.1 t y
      · rw [cutP_ge (by omega), hq.2.2.2.1 t (by omega)]
    · have lj : eL (E j) = homeL (eP (E i)) (eL (E i)) := pth_len (by rw [← j2] at b4; exact (h.2.1 j j1).1) (by rw [← j2] at b4; exact b4)
      refine ih j j1 (by omega) ?_
      rw [j2]
      exact ⟨fun t ht => by rw [cutP_lt (by omega)]; exact w.1 t ht, by rw [cutP_lt (by omega)]; exact w.2⟩
set_option maxRecDepth 16384 in
theorem mv_in (h : tOK n E) {q : Nat → Nat} {m i : Nat} (hq : pth q m) (hi : i < n) (w : mv q m (E i)) : inT n E q := by
  rcases w with w | w
  · exact ⟨i, hi, w⟩
  · exact in_above h hq _ i hi (Nat.lt_succ_self _) w
set_option maxRecDepth 16384 in
theorem mv_eq {q : Nat → Nat} {m : Nat} (w : eP e = eP e') (x : mv q m e) : mv q m e' := by unfold mv at x ⊢; rw [← w]; exact x
/-! what is renamed is no entry that was there -/
set_option maxRecDepth 16384 in
theorem ren_new (h : tOK n E) (hp : pth p l) (hp2 : pth p2 l2) (no : ¬ inT n E p2) {i j : Nat} (hi : i < n) (hj : j < n) (m : mv p l (E i)) : ¬ eP (renE l p2 l2 (E i)) = eP (E j) := fun q =>
  no (mv_in h hp2 hj (mv_eq q (ren_mv (h.2.1 i hi).1 hp hp2 m)))
/-! and it is not below p -/
set_option maxRecDepth 16384 in
theorem ren_out (h : tOK n E) (hp : pth p l) (hp2 : pth p2 l2) (no : ¬ inT n E p2) (ip : inT n E p) (nb : ¬ blw p l p2) {i : Nat} (hi : i < n) (m : mv p l (E i)) : ¬ mv p l (renE l p2 l2 (E i)) := fun w => by
  have r := ren_mv (h.2.1 i hi).1 hp hp2 m
  obtain ⟨k, k1, k2⟩ := ip
  rcases w with w | w
  · exact no (mv_in h hp2 k1 (mv_eq (w.trans k2.symm) r))
  · rcases Nat.lt_trichotomy l l2 with x | x | x
    · refine nb ⟨fun j hj => ?_, ?_⟩
      · rw [← mv_lt r (show j < l2 by omega)]; exact w.1 j hj
      · rw [← mv_lt r x]; exact w.2
    · refine no ⟨k, k1, ?_⟩
      rw [k2]
      funext j
      by_cases y : j < l
      · rw [← w.1 j y]; exact mv_lt r (by omega)
      · rw [hp.2.2.2.1 j (by omega), hp2.2.2.2.1 j (by omega)]
    · have pl : p l2 ≠ 0 := by have := pth_pos hp x; omega
      have b : blw p2 l2 p := by
        refine ⟨fun j hj => ?_, ?_⟩
        · rw [← w.1 j (by omega)]; exact mv_lt r hj
        · rw [← w.1 l2 x]
          rcases r with r | r
          · exfalso
            apply pl
            rw [← w.1 l2 x, r]; exact hp2.2.2.2.1 l2 (Nat.le_refl _)
          · exact r.2
      exact no (in_above h hp2 _ k k1 (Nat.lt_succ_self _) (by rw [k2]; exact b))
set_option maxRecDepth 16384 in
theorem scn_eq {B B' : Nat → Nat} : ∀ k, (∀ j, j < k → B j = B' j) → scn B 0 k = scn B' 0 k
  | 0, _ => rfl
  | k + 1, h => by
    have ih := scn_eq (B := B) (B' := B') k (fun j hj => h j (by omega))
    show (if B (0 + k) = 47 then ((scn B 0 k).1 + 1, 0) else ((scn B 0 k).1, (scn B 0 k).2 + 1)) = (if B' (0 + k) = 47 then ((scn B' 0 k).1 + 1, 0) else ((scn B' 0 k).1, (scn B' 0 k).2 + 1))
    rw [ih, Nat.zero_add, h k (by omega)]
set_option maxRecDepth 16384 in
theorem scn_st {B : Nat → Nat} (k : Nat) : scn B 0 (k + 1) = if B k = 47 then ((scn B 0 k).1 + 1, 0) else ((scn B 0 k).1, (scn B 0 k).2 + 1) := by
  show (if B (0 + k) = 47 then ((scn B 0 k).1 + 1, 0) else ((scn B 0 k).1, (scn B 0 k).2 + 1)) = _
  rw [Nat.zero_add]
set_option maxRecDepth 16384 in
theorem ren_scn (ok : pth (eP e) (eL e)) (hp : pth p l) (m : blw p l (eP e)) : ∀ t, (scn (eP (renE l p2 l2 e)) 0 (l2 + t + 1)).1 + (scn p 0 l).1 = (scn (eP e) 0 (l + t + 1)).1 + (scn p2 0 l2).1 ∧ (scn (eP (renE l p2 l2 e)) 0 (l2 + t + 1)).2 = (scn (eP e) 0 (l + t + 1)).2
  | 0 => by
    have r := ren_b (p2 := p2) (l2 := l2) ok hp m
    rw [Nat.add_zero, Nat.add_zero, scn_st, scn_st, if_pos r.2, if_pos m.2, scn_eq (B' := p2) l2 r.1, scn_eq (B' := p) l m.1]
    exact ⟨by show _ + 1 + _ = _ + 1 + _; omega, rfl⟩
  | t + 1 => by
    have ih := ren_scn ok hp m t
    have e1 := ren_at (p2 := p2) (l2 := l2) ok hp (.inr m) (t + 1)
    rw [show l2 + (t + 1) = l2 + t + 1 by omega, show l + (t + 1) = l + t + 1 by omega] at e1
    rw [show l2 + (t + 1) + 1 = l2 + t + 1 + 1 by omega, show l + (t + 1) + 1 = l + t + 1 + 1 by omega, scn_st (l2 + t + 1), scn_st (l + t + 1), e1]
    by_cases x : eP e (l + t + 1) = 47
    · rw [if_pos x, if_pos x]; exact ⟨by show _ + 1 + _ = _ + 1 + _; omega, rfl⟩
    · rw [if_neg x, if_neg x]; exact ⟨ih.1, by show _ + 1 = _ + 1; rw [ih.2]⟩
set_option maxRecDepth 16384 in
theorem ren_path (ok : pth (eP e) (eL e)) (hp : pth p l) (hp2 : pth p2 l2) (m : mv p l e) (pe : pathAt (eP e) 0 (eL e)) (q2 : pathAt p2 0 l2) (nm : (scn (eP e) 0 (eL e)).1 + (scn p2 0 l2).1 ≤ 4 + (scn p 0 l).1) : pathAt (eP (renE l p2 l2 e)) 0 (eL (renE l p2 l2 e)) := by
  have ge := mv_ge ok hp m
  rcases m with m | m
  · have le : l = eL e := pth_len hp (by rw [← m]; exact ok)
    have e1 : eL (renE l p2 l2 e) = l2 := by show l2 + (eL e - l) = l2; omega
    rw [ren_p ok hp hp2 m, e1]
    exact q2
  · have r := ren_b (p2 := p2) (l2 := l2) ok hp m
    have gl : l < eL e := by
      by_cases x : l < eL e
      · exact x
      · have := ok.2.2.2.1 l (by omega)
        rw [m.2] at this; omega
    have fin := ren_scn (p2 := p2) (l2 := l2) ok hp m (eL e - l - 1)
    have e0 : l + (eL e - l - 1) + 1 = eL e := by omega
    have e1 : l2 + (eL e - l - 1) + 1 = eL (renE l p2 l2 e) := by show _ = l2 + (eL e - l); omega
    rw [e0, e1] at fin
    refine ⟨fun j hj => ?_, by rw [fin.2]; exact pe.2.1, by have := pe.2.2; omega⟩
    have hj' : j < l2 + (eL e - l) := hj
    unfold sgOK
    rw [Nat.zero_add]
    by_cases x : j < l2
    · rw [ren_lt x, scn_eq (B' := p2) j (fun i hi => ren_lt (by omega))]
      have := q2.1 j x
      unfold sgOK at this
      rw [Nat.zero_add] at this
      exact this
    · by_cases y : j = l2
      · rw [y, scn_eq (B' := p2) l2 r.1]
        exact .inl ⟨r.2, q2.2.1⟩
      · have e2 := ren_at (p2 := p2) (l2 := l2) ok hp (.inr m) (j - l2)
        rw [show l2 + (j - l2) = j by omega] at e2
        have sc := ren_scn (p2 := p2) (l2 := l2) ok hp m (j - l2 - 1)
        rw [show l2 + (j - l2 - 1) + 1 = j by omega, show l + (j - l2 - 1) + 1 = l + (j - l2) by omega] at sc
        rw [e2, sc.2]
        have := pe.1 (l + (j - l2)) (by omega)
        unfold sgOK at this
        rw [Nat.zero_add] at this
        exact this
set_option maxRecDepth 16384 in
theorem pat_self {B : Nat → Nat} {k : Nat} (z : ∀ j, k ≤ j → B j = 0) : patF B 0 k = B := by
  funext j
  by_cases x : j < k
  · rw [patF_lt x, Nat.zero_add]
  · rw [patF_ge (by omega), z j (by omega)]
set_option maxRecDepth 16384 in
theorem ren_ok (ok : eOK e) (hp : pth p l) (hp2 : pth p2 l2) (m : mv p l e) (pe : pathAt (eP e) 0 (eL e)) (q2 : pathAt p2 0 l2) (nm : (scn (eP e) 0 (eL e)).1 + (scn p2 0 l2).1 ≤ 4 + (scn p 0 l).1) : eOK (renE l p2 l2 e) := by
  have q := path_pth (ren_path ok.1 hp hp2 m pe q2 nm)
  have ge := mv_ge ok.1 hp m
  rw [pat_self (fun j hj => ?_)] at q
  · exact ⟨q, ok.2⟩
  · have hj' : l2 + (eL e - l) ≤ j := hj
    show renP (eP e) l (eL e) p2 l2 j = 0
    unfold renP
    rw [if_neg (by omega), if_neg (by omega)]
set_option maxRecDepth 16384 in
theorem home_uniq {q : Nat → Nat} {m k : Nat} (k0 : k ≠ 0) (km : k < m) (w : q k = 47) (no : ∀ j, k < j → j < m → q j ≠ 47) : homeL q m = k := by
  rcases Nat.lt_trichotomy (homeL q m) k with x | x | x
  · exact absurd w (home_no _ k x km)
  · exact x
  · exact absurd (home_is (p := q) m (by omega)) (no _ x ((home_lt (p := q) m).2 (by omega)))
/-- when a part may be moved -/
def mvP (n : Nat) (E : Nat → aE) (p : Nat → Nat) (l : Nat) (p2 : Nat → Nat) (l2 : Nat) : Prop := inT n E p ∧ ¬ inT n E p2 ∧ ¬ blw p l p2 ∧ homed n E p2 l2 ∧ ∀ i, i < n → mv p l (E i) → (scn (eP (E i)) 0 (eL (E i))).1 + (scn p2 0 l2).1 ≤ 4 + (scn p 0 l).1
def mvR (n : Nat) (E : Nat → aE) (p : Nat → Nat) (l : Nat) (p2 : Nat → Nat) (l2 : Nat) (E' : Nat → aE) : Prop := ∃ a b, a < n ∧ eP (E a) = p ∧ endE n E a b ∧ arr n (mvG E l p2 l2 a b) E' ∧ totN E' n = totN E n
set_option maxRecDepth 16384 in
theorem mvR_det (h : tOK n E) {E1 E2 : Nat → aE} (h1 : mvR n E p l p2 l2 E1) (h2 : mvR n E p l p2 l2 E2) : ∀ i, i < n → E1 i = E2 i := by
  obtain ⟨a, b, x1, x2, x3, x4, -⟩ := h1
  obtain ⟨a', b', y1, y2, y3, y4, -⟩ := h2
  have : a = a' := srt_uniq h x1 y1 (x2.trans y2.symm)
  subst this
  have : b = b' := end_det x3 y3
  subst this
  exact arr_det x4 y4
set_option maxRecDepth 16384 in
theorem mv_iff (h : tOK n E) (hp : pth p l) (ha : a < n) (ea : eP (E a) = p) (eb : endE n E a b) {j : Nat} (hj : j < n) : mv p l (E j) ↔ a ≤ j ∧ j < b := by
  have la : eL (E a) = l := pth_len (by rw [← ea]; exact (h.2.1 a ha).1) hp
  have ei := end_iff h ha eb hj
  rw [ea, la] at ei
  have ab := eb.1
  constructor
  · rintro (w | w)
    · have := srt_uniq h hj ha (w.trans ea.symm); omega
    · have := ei.mp w; omega
  · intro w
    by_cases x : j = a
    · subst x; exact .inl ea
    · exact .inr (ei.mpr ⟨by omega, w.2⟩)
set_option maxRecDepth 16384 in
theorem mvG_in {j : Nat} (h1 : a ≤ j) (h2 : j < b) : mvG E l p2 l2 a b j = renE l p2 l2 (E j) := if_pos ⟨h1, h2⟩
set_option maxRecDepth 16384 in
theorem mvG_out {j : Nat} (h1 : j < a ∨ b ≤ j) : mvG E l p2 l2 a b j = E j := if_neg (by omega)
/-! what stands in the tree while parts are moved is apart -/
set_option maxRecDepth 16384 in
theorem mvG_inj {k : Nat} (h : tOK n E) (hp : pth p l) (hp2 : pth p2 l2) (no : ¬ inT n E p2) (ha : a < n) (ea : eP (E a) = p) (eb : endE n E a b) (hk : k ≤ b) {i j : Nat} (hi : i < n) (hj : j < n) (q : eP (mvG E l p2 l2 a k i) = eP (mvG E l p2 l2 a k j)) : i = j := by
  have mi := fun (w : a ≤ i ∧ i < k) => (mv_iff h hp ha ea eb hi).mpr ⟨w.1, by omega⟩
  have mj := fun (w : a ≤ j ∧ j < k) => (mv_iff h hp ha ea eb hj).mpr ⟨w.1, by omega⟩
  by_cases x : a ≤ i ∧ i < k
  · rw [mvG_in x.1 x.2] at q
    by_cases y : a ≤ j ∧ j < k
    · rw [mvG_in y.1 y.2] at q
      exact srt_uniq h hi hj (ren_inj (h.2.1 i hi).1 (h.2.1 j hj).1 hp (mi x) (mj y) q)
    · rw [mvG_out (by omega)] at q
      exact absurd q (ren_new h hp hp2 no hi hj (mi x))
  · rw [mvG_out (by omega)] at q
    by_cases y : a ≤ j ∧ j < k
    · rw [mvG_in y.1 y.2] at q
      exact absurd q.symm (ren_new h hp hp2 no hj hi (mj y))
    · rw [mvG_out (by omega)] at q
      exact srt_uniq h hi hj q
set_option maxRecDepth 16384 in
theorem ren_home (ok : pth (eP e) (eL e)) (ok' : pth (eP e') (eL e')) (hp : pth p l) (hp2 : pth p2 l2) (m : blw p l (eP e)) (m' : mv p l e') (he : eP e' = cutP (eP e) (homeL (eP e) (eL e))) : homeL (eP (renE l p2 l2 e)) (eL (renE l p2 l2 e)) = l2 + (homeL (eP e) (eL e) - l) ∧ eP (renE l p2 l2 e') = cutP (eP (renE l p2 l2 e)) (l2 + (homeL (eP e) (eL e) - l)) := by
  have gl : l < eL e := by
    by_cases x : l < eL e
    · exact x
    · have := ok.2.2.2.1 l (by omega)
      rw [m.2] at this; omega
  have ge : l ≤ homeL (eP e) (eL e) := by
    by_cases x : homeL (eP e) (eL e) < l
    · exact absurd m.2 (home_no _ l x gl)
    · omega
  have l0 := hp.1
  have l20 := hp2.1
  have h0 : homeL (eP e) (eL e) ≠ 0 := by omega
  have hl := (home_lt (p := eP e) (eL e)).2 (by omega)
  have is := home_is (p := eP e) (eL e) h0
  constructor
  · refine home_uniq (by omega) (by show _ < l2 + (eL e - l); omega) ?_ (fun j h1 h2 => ?_)
    · rw [ren_at ok hp (.inr m), show l + (homeL (eP e) (eL e) - l) = homeL (eP e) (eL e) by omega]; exact is
    · have h2' : j < l2 + (eL e - l) := h2
      have := ren_at (p2 := p2) (l2 := l2) ok hp (.inr m) (j - l2)
      rw [show l2 + (j - l2) = j by omega] at this
      rw [this]
      exact home_no (eL e) _ (by omega) (by omega)
  · funext j
    by_cases x : j < l2
    · rw [ren_lt x, cutP_lt (by omega), ren_lt x]
    · have h1 := ren_at (p2 := p2) (l2 := l2) ok hp (.inr m) (j - l2)
      have h2 := ren_at (p2 := p2) (l2 := l2) ok' hp m' (j - l2)
      rw [show l2 + (j - l2) = j by omega] at h1 h2
      rw [h2, he]
      by_cases y : j < l2 + (homeL (eP e) (eL e) - l)
      · rw [cutP_lt (by omega), cutP_lt y, h1]
      · rw [cutP_ge (by omega), cutP_ge (by omega)]
set_option maxRecDepth 16384 in
theorem mv_ok (h : tOK n E) (pa : tPA n E) (hp : pth p l) (hp2 : pth p2 l2) (q2 : pathAt p2 0 l2) (w : mvP n E p l p2 l2) (r : mvR n E p l p2 l2 T) : tOK n T ∧ tPA n T := by
  obtain ⟨ip, no, nb, hd, nm⟩ := w
  obtain ⟨a, b, ha, ea, eb, ⟨srt, t1, t2⟩, -⟩ := r
  have mi := fun {j : Nat} (hj : j < n) => mv_iff h hp ha ea eb hj
  have each : ∀ j, j < n → eOK (mvG E l p2 l2 a b j) ∧ pathAt (eP (mvG E l p2 l2 a b j)) 0 (eL (mvG E l p2 l2 a b j)) := fun j hj => by
    by_cases x : a ≤ j ∧ j < b
    · rw [mvG_in x.1 x.2]
      have m := (mi hj).mpr x
      exact ⟨ren_ok (h.2.1 j hj) hp hp2 m (pa j hj) q2 (nm j hj m), ren_path (h.2.1 j hj).1 hp hp2 m (pa j hj) q2 (nm j hj m)⟩
    · rw [mvG_out (by omega)]
      exact ⟨h.2.1 j hj, pa j hj⟩
  refine ⟨⟨h.1, fun i hi => ?_, srt, fun i hi h0 => ?_⟩, fun i hi => ?_⟩
  · obtain ⟨j, j1, j2⟩ := t1 i hi
    rw [j2]; exact (each j j1).1
  · obtain ⟨j, j1, j2⟩ := t1 i hi
    rw [j2] at h0 ⊢
    by_cases x : a ≤ j ∧ j < b
    · rw [mvG_in x.1 x.2] at h0 ⊢
      have okj := (h.2.1 j j1).1
      have m := (mi j1).mpr x
      rcases m with m | m
      · have lj : l = eL (E j) := pth_len hp (by rw [← m]; exact okj)
        have e1 : eL (renE l p2 l2 (E j)) = l2 := by show l2 + (eL (E j) - l) = l2; omega
        rw [ren_p okj hp hp2 m, e1] at h0 ⊢
        rcases hd with hd | ⟨u, u1, u2, u3⟩
        · exact absurd hd h0
        · have nu : ¬ mv p l (E u) := fun z => by
            obtain ⟨c1, c2, c3, c4⟩ := home_blw hp2 h0
            have lu : eL (E u) = homeL p2 l2 := pth_len (by rw [← u2] at c4; exact (h.2.1 u u1).1) (by rw [← u2] at c4; exact c4)
            rw [← u2] at c3 c4
            rcases z with z | z
            · have : l = homeL p2 l2 := pth_len hp (by rw [← z]; exact c4)
              rw [z, ← this] at c3
              exact nb c3
            · exact nb (blw_trans z c3 c4)
          have ux : ¬ (a ≤ u ∧ u < b) := fun z => nu ((mi u1).mpr z)
          obtain ⟨v, v1, v2⟩ := t2 u u1
          rw [mvG_out (by omega)] at v2
          exact ⟨v, v1, by rw [v2]; exact u2, by rw [v2]; exact u3⟩
      · have gl : l < eL (E j) := by
          by_cases x : l < eL (E j)
          · exact x
          · have := okj.2.2.2.1 l (by omega)
            rw [m.2] at this; omega
        have hh0 : homeL (eP (E j)) (eL (E j)) ≠ 0 := fun z => home_no (p := eP (E j)) (eL (E j)) l (by have := hp.1; omega) gl m.2
        obtain ⟨u, u1, u2, u3⟩ := h.2.2.2 j j1 hh0
        obtain ⟨c1, c2, c3, c4⟩ := home_blw okj hh0
        have ge : l ≤ homeL (eP (E j)) (eL (E j)) := by
          by_cases x : homeL (eP (E j)) (eL (E j)) < l
          · exact absurd m.2 (home_no _ l x gl)
          · omega
        have mu : mv p l (E u) := by
          by_cases y : homeL (eP (E j)) (eL (E j)) = l
          · left
            rw [u2, y]
            funext t
            by_cases z : t < l
            · rw [cutP_lt z]; exact m.1 t z
            · rw [cutP_ge (by omega), hp.2.2.2.1 t (by omega)]
          · right
            rw [u2]
            exact ⟨fun t ht => by rw [cutP_lt (by omega)]; exact m.1 t ht, by rw [cutP_lt (by omega)]; exact m.2⟩
        have rh := ren_home (p2 := p2) (l2 := l2) okj (h.2.1 u u1).1 hp hp2 m mu u2
        obtain ⟨v, v1, v2⟩ := t2 u u1
        have ux := (mi u1).mp mu
        rw [mvG_in ux.1 ux.2] at v2
        refine ⟨v, v1, ?_, ?_⟩
        · rw [v2, rh.1]; exact rh.2
        · rw [v2]; exact u3
    · rw [mvG_out (by omega)] at h0 ⊢
      obtain ⟨u, u1, u2, u3⟩ := h.2.2.2 j j1 h0
      have ux : ¬ (a ≤ u ∧ u < b) := fun z => by
        have := home_in h ha eb j1 z.1 z.2 h0 u2
        omega
      obtain ⟨v, v1, v2⟩ := t2 u u1
      rw [mvG_out (by omega)] at v2
      exact ⟨v, v1, by rw [v2]; exact u2, by rw [v2]; exact u3⟩
  · obtain ⟨j, j1, j2⟩ := t1 i hi
    rw [j2]; exact (each j j1).2
end MOVE
