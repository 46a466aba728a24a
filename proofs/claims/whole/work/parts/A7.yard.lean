/-! A YARD'S STATE, and how each side holds it -/
/-- journal: bytes written, the bytes, bytes synced; blobs: how many, digests, starts in the journal, lengths; keys: how many, keys, layers; tags: told, digests -/
abbrev yS : Type := (Nat × (Nat → Int32) × Nat) × (Nat × (Nat → Int64) × (Nat → Nat) × (Nat → Nat)) × (Nat × (Nat → Int64) × (Nat → Int64)) × ((Nat → Bool) × (Nat → Int64))
abbrev yR (S : yS) : Nat := S.1.1
abbrev yJ (S : yS) : Nat → Int32 := S.1.2.1
abbrev yC (S : yS) : Nat := S.1.2.2
abbrev yB (S : yS) : Nat := S.2.1.1
abbrev yD (S : yS) : Nat → Int64 := S.2.1.2.1
abbrev yP (S : yS) : Nat → Nat := S.2.1.2.2.1
abbrev yL (S : yS) : Nat → Nat := S.2.1.2.2.2
abbrev yK (S : yS) : Nat := S.2.2.1.1
abbrev yX (S : yS) : Nat → Int64 := S.2.2.1.2.1
abbrev yE (S : yS) : Nat → Int64 := S.2.2.1.2.2
abbrev yT (S : yS) : Nat → Bool := S.2.2.2.1
abbrev yG (S : yS) : Nat → Int64 := S.2.2.2.2
/-- bytes of the first n blobs -/
def sumY (L : Nat → Nat) : Nat → Nat
  | 0 => 0
  | n + 1 => sumY L n + L n
set_option maxRecDepth 16384 in
theorem sumY_congr {L L' : Nat → Nat} : ∀ n, (∀ k, k < n → L k = L' k) → sumY L n = sumY L' n
  | 0, _ => rfl
  | n + 1, h => by
    show sumY L n + L n = sumY L' n + L' n
    rw [sumY_congr n (fun k hk => h k (Nat.lt_succ_of_lt hk)), h n (Nat.lt_succ_self n)]
set_option maxRecDepth 16384 in
theorem sumY_old {L : Nat → Nat} {n c k : Nat} (hk : k ≤ n) : sumY (px_up L n c) k = sumY L k := sumY_congr k (fun j hj => up_ne (by omega))
set_option maxRecDepth 16384 in
theorem sumY_new {L : Nat → Nat} {n c : Nat} : sumY (px_up L n c) (n + 1) = sumY L n + c := by
  show sumY (px_up L n c) n + px_up L n c n = _
  rw [sumY_old (Nat.le_refl n), up_same]
/-- the class's yard at Y holds S -/
def CY (h : px_H) (Y : Nat) (S : yS) : Prop :=
  (∃ f, rowAt h (Y + 1) 40000 (yR S) f ∧ ∀ j, j < yR S → f j &&& 255 = yJ S j) ∧ h.2[Y]? = some (.inl (7, yrdF Y (nI (yC S)) (nI (yB S)) (nI (yK S)))) ∧
  (∃ D, h.2[Y + 3]? = some (.inr (2, 60, .inr (.inl D))) ∧ ∀ k, k < yB S → D k = yD S k) ∧ (∃ st, h.2[Y + 4]? = some (.inr (1, 60, .inl st)) ∧ ∀ k, k < yB S → st k = nI (yP S k)) ∧ (∃ ln, h.2[Y + 5]? = some (.inr (1, 60, .inl ln)) ∧ ∀ k, k < yB S → ln k = nI (yL S k)) ∧ (∃ mk, h.2[Y + 6]? = some (.inr (3, 60, .inl mk))) ∧
  (∃ ky, h.2[Y + 7]? = some (.inr (2, 60, .inr (.inl ky))) ∧ ∀ k, k < yK S → ky k = yX S k) ∧ (∃ kl, h.2[Y + 8]? = some (.inr (2, 60, .inr (.inl kl))) ∧ ∀ k, k < yK S → kl k = yE S k) ∧
  (∃ G, h.2[Y + 9]? = some (.inr (2, 8, .inr (.inl G))) ∧ ∀ j, j < 8 → yT S j = true → G j = yG S j) ∧ ∃ T, h.2[Y + 10]? = some (.inr (3, 8, .inl T)) ∧ ∀ j, j < 8 → T j = if yT S j = true then 1 else 0
/-- the reference's yard q holds S -/
def RY (h : px_H) (q : Nat) (S : yS) : Prop :=
  (∃ J, h.2[632]? = some (.inr (1, 80000, .inl J)) ∧ ∀ j, j < yR S → J (40000 * q + j) = yJ S j) ∧ (∃ W, h.2[633]? = some (.inr (1, 2, .inl W)) ∧ W q = nI (yR S)) ∧ (∃ C, h.2[634]? = some (.inr (1, 2, .inl C)) ∧ C q = nI (yC S)) ∧
  (∃ bl, h.2[621]? = some (.inr (1, 2, .inl bl)) ∧ bl q = nI (yB S)) ∧ (∃ D, h.2[622]? = some (.inr (2, 122, .inr (.inl D))) ∧ ∀ k, k < yB S → D (61 * q + k) = yD S k) ∧
  (∃ fr sz bt us U, h.2[623]? = some (.inr (1, 122, .inl fr)) ∧ h.2[624]? = some (.inr (1, 122, .inl sz)) ∧ h.2[625]? = some (.inr (1, 80000, .inl bt)) ∧ h.2[626]? = some (.inr (1, 2, .inl us)) ∧ us q = nI U ∧ (U ≤ yR S ∧ U = sumY (yL S) (yB S)) ∧ ∀ k, k < yB S → sz (61 * q + k) = nI (yL S k) ∧ ∃ u, fr (61 * q + k) = nI u ∧ (u + yL S k ≤ U ∧ u = sumY (yL S) k) ∧ ∀ m, m < yL S k → bt (40000 * q + u + m) = yJ S (yP S k + m)) ∧
  (∃ kk, h.2[629]? = some (.inr (1, 2, .inl kk)) ∧ kk q = nI (yK S)) ∧ (∃ ky, h.2[630]? = some (.inr (2, 120, .inr (.inl ky))) ∧ ∀ k, k < yK S → ky (60 * q + k) = yX S k) ∧ (∃ kl, h.2[631]? = some (.inr (2, 120, .inr (.inl kl))) ∧ ∀ k, k < yK S → kl (60 * q + k) = yE S k) ∧
  (∃ G, h.2[627]? = some (.inr (2, 16, .inr (.inl G))) ∧ ∀ j, j < 8 → yT S j = true → G (8 * q + j) = yG S j) ∧ ∃ T, h.2[628]? = some (.inr (3, 16, .inl T)) ∧ ∀ j, j < 8 → T (8 * q + j) = if yT S j = true then 1 else 0
/-- the numbers are in range, the digests apart, the blobs in the journal -/
def WFy (S : yS) : Prop := yR S ≤ 40000 ∧ yC S ≤ yR S ∧ yB S ≤ 60 ∧ yK S ≤ 60 ∧ (∀ i j, i < yB S → j < yB S → yD S i = yD S j → i = j) ∧ (∀ k, k < yB S → yP S k + yL S k ≤ yR S) ∧ ∀ j, j < yR S → yJ S j &&& 255 = yJ S j
def cyA (Y r : Nat) : Prop := Y ≤ r ∧ r ≤ Y + 10
def ryA (r : Nat) : Prop := r = 619 ∨ r = 636 ∨ 621 ≤ r ∧ r ≤ 634
set_option maxRecDepth 16384 in
theorem CY_frm {h h' : px_H} {Y : Nat} {S : yS} (c : CY h Y S) (e : ∀ r, Y ≤ r → r ≤ Y + 10 → h'.2[r]? = h.2[r]?) : CY h' Y S := by
  obtain ⟨⟨f, a1, a2⟩, b, ⟨D, c1, c2⟩, ⟨st, d1, d2⟩, ⟨ln, e1, e2⟩, ⟨mk, f1⟩, ⟨ky, g1, g2⟩, ⟨kl, h1, h2⟩, ⟨G, i1, i2⟩, T, j1, j2⟩ := c
  exact ⟨⟨f, ⟨by rw [e _ (by omega) (by omega)]; exact a1.1, by rw [e _ (by omega) (by omega)]; exact a1.2.1, a1.2.2⟩, a2⟩, by rw [e _ (by omega) (by omega)]; exact b, ⟨D, by rw [e _ (by omega) (by omega)]; exact c1, c2⟩, ⟨st, by rw [e _ (by omega) (by omega)]; exact d1, d2⟩, ⟨ln, by rw [e _ (by omega) (by omega)]; exact e1, e2⟩, ⟨mk, by rw [e _ (by omega) (by omega)]; exact f1⟩, ⟨ky, by rw [e _ (by omega) (by omega)]; exact g1, g2⟩, ⟨kl, by rw [e _ (by omega) (by omega)]; exact h1, h2⟩, ⟨G, by rw [e _ (by omega) (by omega)]; exact i1, i2⟩, T, by rw [e _ (by omega) (by omega)]; exact j1, j2⟩
set_option maxRecDepth 16384 in
theorem RY_frm {h h' : px_H} {q : Nat} {S : yS} (c : RY h q S) (e : ∀ r, 621 ≤ r → r ≤ 634 → h'.2[r]? = h.2[r]?) : RY h' q S := by
  obtain ⟨⟨J, a1, a2⟩, ⟨W, b1, b2⟩, ⟨C, c1, c2⟩, ⟨bl, d1, d2⟩, ⟨D, e1, e2⟩, ⟨fr, sz, bt, us, U, f1, f2, f3, f4, f5⟩, ⟨kk, g1, g2⟩, ⟨ky, h1, h2⟩, ⟨kl, i1, i2⟩, ⟨G, j1, j2⟩, T, k1, k2⟩ := c
  have z : ∀ {r : Nat} {x : px_C}, h.2[r]? = some x → 621 ≤ r → r ≤ 634 → h'.2[r]? = some x := fun ee a b => (e _ a b).trans ee
  exact ⟨⟨J, z a1 (by decide) (by decide), a2⟩, ⟨W, z b1 (by decide) (by decide), b2⟩, ⟨C, z c1 (by decide) (by decide), c2⟩, ⟨bl, z d1 (by decide) (by decide), d2⟩, ⟨D, z e1 (by decide) (by decide), e2⟩, ⟨fr, sz, bt, us, U, z f1 (by decide) (by decide), z f2 (by decide) (by decide), z f3 (by decide) (by decide), z f4 (by decide) (by decide), f5⟩, ⟨kk, z g1 (by decide) (by decide), g2⟩, ⟨ky, z h1 (by decide) (by decide), h2⟩, ⟨kl, z i1 (by decide) (by decide), i2⟩, ⟨G, z j1 (by decide) (by decide), j2⟩, T, z k1 (by decide) (by decide), k2⟩
/-- a record is written -/
def addJ (S : yS) (n : Nat) (g : Nat → Int32) : Nat × (Nat → Int32) × Nat := (yR S + n, (fun i => if i < yR S then yJ S i else g (i - yR S)), yC S)
set_option maxRecDepth 16384 in
theorem addJ_old {S : yS} {n : Nat} {g : Nat → Int32} {i : Nat} (h : i < yR S) : (addJ S n g).2.1 i = yJ S i := if_pos h
set_option maxRecDepth 16384 in
theorem addJ_new {S : yS} {n : Nat} {g : Nat → Int32} {i : Nat} (h : yR S ≤ i) : (addJ S n g).2.1 i = g (i - yR S) := if_neg (by omega)
/-- a tag told, a tag no longer told, a blob kept -/
def yTell (S : yS) (j : Nat) (v : Int64) : yS := (addJ S 15 (recB 2 9 (tagB j v)), S.2.1, S.2.2.1, (px_up (yT S) j true, px_up (yG S) j v))
def yUnt (S : yS) (j : Nat) : yS := (addJ S 7 (recB 3 1 (fun _ => nI j)), S.2.1, S.2.2.1, (px_up (yT S) j false, yG S))
def yKeep (S : yS) (bb : Nat → Int32) (c : Nat) : yS := (addJ S (6 + c) (recB 1 c bb), (yB S + 1, px_up (yD S) (yB S) (dig bb c), px_up (yP S) (yB S) (yR S + 5), px_up (yL S) (yB S) c), S.2.2)
section CYS
variable {sx : Nat × (Nat → Int32)} {h : px_H} {Y : Nat} {S : yS} {Q : px_O → px_H → Prop}
set_option maxRecDepth 16384 in
theorem wrote_J {f f' g : Nat → Int32} {n : Nat} (hf : ∀ j, j < yR S → f j &&& 255 = yJ S j) (w : wrote f f' (yR S) g n) : ∀ j, j < yR S + n → f' j &&& 255 = (addJ S n g).2.1 j := by
  intro j hj
  by_cases e : j < yR S
  · rw [addJ_old e, w.1 j e, hf j e]
  · have := w.2 (j - yR S) (by omega)
    rw [addJ_new (by omega), ← this]; congr 2; omega
set_option maxRecDepth 16384 in
theorem cy_tag {n : Nat} {f' g : Nat → Int32} {T : Nat → Int32} {G : Nat → Int64} {b : Int32} {bt : Bool} {v : Int64} {j : Nat} (c : CY h Y S) (hn : yR S + n ≤ 40000) (hf : ∀ i, i < yR S + n → f' i &&& 255 = (addJ S n g).2.1 i) (hT : ∀ i, i < 8 → T i = if yT S i = true then 1 else 0) (hG : ∀ i, i < 8 → yT S i = true → G i = yG S i) (hb : b = if bt = true then 1 else 0) (yG' : Nat → Int64) (hv : bt = true → v = yG' j) (hg' : ∀ i, i ≠ j → yG' i = yG S i) :
    CY (tagH (rowH h (Y + 1) 40000 (yR S + n) f') Y (px_up T j b) (px_up G j v)) Y (addJ S n g, S.2.1, S.2.2.1, (px_up (yT S) j bt, yG')) := by
  obtain ⟨⟨f, a1, a2⟩, b0, ⟨D, c1, c2⟩, ⟨st, d1, d2⟩, ⟨ln, e1, e2⟩, ⟨mk, f1⟩, ⟨ky, g1, g2⟩, ⟨kl, h1, h2⟩, ⟨G0, i1, i2⟩, T0, j1, j2⟩ := c
  have hl := rowAt_lt a1
  have hl10 : Y + 10 < h.2.length := (List.getElem?_eq_some_iff.mp j1).1
  have z : ∀ {r : Nat} {x : px_C}, h.2[r]? = some x → Y + 10 ≠ r → Y + 9 ≠ r → Y + 1 ≠ r → Y + 2 ≠ r → (tagH (rowH h (Y + 1) 40000 (yR S + n) f') Y (px_up T j b) (px_up G j v)).2[r]? = some x := fun e p1 p2 p3 p4 => by rw [tagH_at p1 p2, rowH_at p3 p4]; exact e
  refine ⟨⟨f', ⟨by rw [tagH_at (by omega) (by omega)]; exact rowH_r hl, by rw [tagH_at (by omega) (by omega)]; exact rowH_c hl, hn, by decide⟩, hf⟩, z b0 (by omega) (by omega) (by omega) (by omega), ⟨D, z c1 (by omega) (by omega) (by omega) (by omega), c2⟩, ⟨st, z d1 (by omega) (by omega) (by omega) (by omega), d2⟩, ⟨ln, z e1 (by omega) (by omega) (by omega) (by omega), e2⟩, ⟨mk, z f1 (by omega) (by omega) (by omega) (by omega)⟩, ⟨ky, z g1 (by omega) (by omega) (by omega) (by omega), g2⟩, ⟨kl, z h1 (by omega) (by omega) (by omega) (by omega), h2⟩, ⟨px_up G j v, ?_, fun i hi ht => ?_⟩, px_up T j b, ?_, fun i hi => ?_⟩
  · unfold tagH; rw [wr_at, if_pos rfl, if_pos (by rw [px_wr_len, rowH_len]; omega)]
  · by_cases e : i = j
    · subst e
      have ht' : px_up (yT S) i bt i = true := ht
      rw [up_same] at ht'
      rw [up_same]; exact hv ht'
    · have ht' : px_up (yT S) j bt i = true := ht
      rw [up_ne e] at ht'
      rw [up_ne e, hG i hi ht']; exact (hg' i e).symm
  · unfold tagH; rw [wr_at, if_neg (by omega), wr_at, if_pos rfl, if_pos (by rw [rowH_len]; omega)]
  · show px_up T j b i = if px_up (yT S) j bt i = true then 1 else 0
    by_cases e : i = j
    · subst e; rw [up_same, up_same]; exact hb
    · rw [up_ne e, up_ne e]; exact hT i hi
set_option maxRecDepth 16384 in
theorem cy_shape {n n' : Nat} {f f' T T' : Nat → Int32} {G G' : Nat → Int64} (hs : shape h) (w : rowAt h (Y + 1) 40000 n f) (hT : h.2[Y + 10]? = some (.inr (3, 8, .inl T))) (hG : h.2[Y + 9]? = some (.inr (2, 8, .inr (.inl G)))) : shape (tagH (rowH h (Y + 1) 40000 n' f') Y T' G') := by
  unfold tagH
  have s1 := shape_row (n' := n') (f' := f') hs w
  have e1 : (rowH h (Y + 1) 40000 n' f').2[Y + 10]? = some (.inr (3, 8, .inl T)) := by rw [rowH_at (by omega) (by omega)]; exact hT
  have s2 := shape_ia (g := T') s1 e1
  exact shape_la (g := G') s2 (f := G) (by rw [wr_at, if_neg (by omega), rowH_at (by omega) (by omega)]; exact hG)
set_option maxRecDepth 16384 in
theorem cy_tell {j : Nat} {v : Int64} (c : CY h Y S) (hj : j < 8)
    (hQS : yT S j = true ∧ yG S j = v → Q (.inl (some (.int 1))) h) (hQ0 : ¬ (yT S j = true ∧ yG S j = v) → 40000 < yR S + 15 → Q (.inl (some (.int 0))) h)
    (hQ1 : ¬ (yT S j = true ∧ yG S j = v) → yR S + 15 ≤ 40000 → ∀ h', CY h' Y (yTell S j v) → frm (cyA Y) h h' → (shape h → shape h') → Q (.inl (some (.int 1))) h') :
    px_Wp sx 99 0 [some (.ref Y), some (.int (nI j)), some (.long v), none] [] h Q := by
  have c' := c
  obtain ⟨⟨f, a1, a2⟩, b0, ⟨D, c1, c2⟩, ⟨st, d1, d2⟩, ⟨ln, e1, e2⟩, ⟨mk, f1⟩, ⟨ky, g1, g2⟩, ⟨kl, h1, h2⟩, ⟨G, i1, i2⟩, T, j1, j2⟩ := c
  have tj := j2 j hj
  have eqv : (¬ T j = 0 ∧ G j = v) ↔ (yT S j = true ∧ yG S j = v) := by
    by_cases t : yT S j = true
    · rw [if_pos t] at tj
      rw [i2 j hj t, tj]
      exact ⟨fun z => ⟨t, z.2⟩, fun z => ⟨by decide, z.2⟩⟩
    · rw [if_neg t] at tj
      exact ⟨fun z => absurd tj z.1, fun z => absurd z.1 t⟩
  refine c_tell a1 b0 j1 i1 hj (fun z1 z2 => hQS (eqv.mp ⟨z1, z2⟩)) (fun z g => hQ0 (fun y => z (eqv.mpr y)) g) (fun z g f' u => ?_)
  refine hQ1 (fun y => z (eqv.mpr y)) g _ (cy_tag (bt := true) c' g (wrote_J a2 u) j2 i2 rfl (px_up (yG S) j v) (fun _ => (up_same _ _ _).symm) (fun i e => up_ne e)) ?_ (fun hs => cy_shape hs a1 j1 i1)
  exact frm_wr (frm_wr (frm_row (frm_refl _ _) ⟨by omega, by omega⟩ ⟨by omega, by omega⟩) ⟨by omega, by omega⟩) ⟨by omega, by omega⟩
set_option maxRecDepth 16384 in
theorem cy_keep {r N n a c : Nat} {fr bb : Nat → Int32} (hw : WFy S) (cy : CY h Y S) (hr0 : Y + 11 ≤ r ∨ r + 2 ≤ Y) (w' : rowAt h r N n fr) (ha : a + c ≤ n) (hc : c ≤ 39000) (hf : ∀ k, k < c → fr (a + k) &&& 255 = bb k)
    (hQk : ∀ k, k < yB S → yD S k = dig bb c → (yL S k = c ∧ (∀ m, m < c → yJ S (yP S k + m) = bb m) → Q (.inl (some (.int 1))) h) ∧ (¬ (yL S k = c ∧ ∀ m, m < c → yJ S (yP S k + m) = bb m) → Q (.inl (some (.int 0))) h))
    (hQ0 : (∀ k, k < yB S → ¬ yD S k = dig bb c) → (yB S = 60 ∨ 40000 < yR S + (6 + c)) → Q (.inl (some (.int 0))) h)
    (hQ1 : (∀ k, k < yB S → ¬ yD S k = dig bb c) → yB S < 60 → yR S + (6 + c) ≤ 40000 → ∀ h', CY h' Y (yKeep S bb c) → frm (cyA Y) h h' → (shape h → shape h') → Q (.inl (some (.int 1))) h') :
    px_Wp sx 92 0 [some (.ref Y), some (.ref r), some (.int (nI a)), some (.int (nI c)), none, none] [] h Q := by
  obtain ⟨v1, v2, v3, v4, v5, v6, v7⟩ := hw
  have cy' := cy
  obtain ⟨⟨f, a1, a2⟩, b0, ⟨D, c1, c2⟩, ⟨st, d1, d2⟩, ⟨ln, e1, e2⟩, ⟨mk, f1⟩, ⟨ky, g1, g2⟩, ⟨kl, h1, h2⟩, ⟨G, i1, i2⟩, T, j1, j2⟩ := cy
  have hl := rowAt_lt a1
  have hl10 : Y + 10 < h.2.length := (List.getElem?_eq_some_iff.mp j1).1
  have fb : ∀ k, k < yB S → ∀ m, m < yL S k → f (yP S k + m) &&& 255 = yJ S (yP S k + m) := fun k hk m hm => a2 _ (by have := v6 k hk; omega)
  refine c_keep hr0 b0 a1 c1 d1 e1 v3 w' ha hc hf (fun i j hi hj e => v5 i j hi hj (by rw [← c2 i hi, ← c2 j hj]; exact e)) (fun k hk hd s l es el hl4 hsl => ?_) (fun k hk => ⟨yP S k, yL S k, d2 k hk, e2 k hk, by have := v6 k hk; omega, v6 k hk⟩) (fun z => hQ0 (fun k hk e => z k hk (by rw [c2 k hk]; exact e))) (fun z b6 g f' u => ?_)
  · have q := hQk k hk (by rw [← c2 k hk]; exact hd)
    have es' : s = yP S k := by
      have x1 := nI_clamp (n := s) (by omega)
      rw [← es, d2 k hk, nI_clamp (by have := v6 k hk; omega)] at x1; exact x1.symm
    have el' : l = yL S k := by
      have x1 := nI_clamp (n := l) (by omega)
      rw [← el, e2 k hk, nI_clamp (by have := v6 k hk; omega)] at x1; exact x1.symm
    subst es'; subst el'
    refine ⟨fun y => q.1 ⟨y.1, fun m hm => by rw [← fb k hk m (by omega)]; exact y.2 m hm⟩, fun y => q.2 (fun x => y ⟨x.1, fun m hm => by rw [fb k hk m (by omega)]; exact x.2 m hm⟩)⟩
  · have nb : ∀ {x : Nat} {r : Nat} {y : px_C}, h.2[r]? = some y → Y + 1 ≠ r → Y + 2 ≠ r → Y ≠ r → Y + 3 ≠ r → Y + 4 ≠ r → Y + 5 ≠ r → (bloH (rowH h (Y + 1) 40000 (yR S + (6 + c)) f') Y (nI (yC S)) (nI (yK S)) (yB S + 1) (px_up D (yB S) (dig bb c)) (px_up st (yB S) (nI (yR S + 5))) (px_up ln (yB S) (nI c))).2[r]? = some y := fun e p1 p2 p3 p4 p5 p6 => by
      unfold bloH; rw [wr_at, if_neg p3, wr_at, if_neg p6, wr_at, if_neg p5, wr_at, if_neg p4, rowH_at p1 p2]; exact e
    refine hQ1 (fun k hk e => z k hk (by rw [c2 k hk]; exact e)) b6 g _ ⟨⟨f', ⟨?_, ?_, g, by decide⟩, wrote_J a2 u⟩, ?_, ⟨px_up D (yB S) (dig bb c), ?_, fun k hk => ?_⟩, ⟨px_up st (yB S) (nI (yR S + 5)), ?_, fun k hk => ?_⟩, ⟨px_up ln (yB S) (nI c), ?_, fun k hk => ?_⟩, ⟨mk, nb (x := 0) f1 (by omega) (by omega) (by omega) (by omega) (by omega) (by omega)⟩, ⟨ky, nb (x := 0) g1 (by omega) (by omega) (by omega) (by omega) (by omega) (by omega), g2⟩, ⟨kl, nb (x := 0) h1 (by omega) (by omega) (by omega) (by omega) (by omega) (by omega), h2⟩, ⟨G, nb (x := 0) i1 (by omega) (by omega) (by omega) (by omega) (by omega) (by omega), i2⟩, T, nb (x := 0) j1 (by omega) (by omega) (by omega) (by omega) (by omega) (by omega), j2⟩ ?_ (fun hs => ?_)
    · unfold bloH; rw [wr_at, if_neg (by omega), wr_at, if_neg (by omega), wr_at, if_neg (by omega), wr_at, if_neg (by omega)]; exact rowH_r hl
    · unfold bloH; rw [wr_at, if_neg (by omega), wr_at, if_neg (by omega), wr_at, if_neg (by omega), wr_at, if_neg (by omega)]; exact rowH_c hl
    · unfold bloH; rw [wr_at, if_pos rfl, if_pos (by simp only [px_wr_len, rowH_len]; omega)]; rfl
    · unfold bloH; rw [wr_at, if_neg (by omega), wr_at, if_neg (by omega), wr_at, if_neg (by omega), wr_at, if_pos rfl, if_pos (by simp only [px_wr_len, rowH_len]; omega)]
    · show px_up D (yB S) (dig bb c) k = px_up (yD S) (yB S) (dig bb c) k
      by_cases e : k = yB S
      · rw [e, up_same, up_same]
      · rw [up_ne e, up_ne e]; exact c2 k (by have : k < yB S + 1 := hk; omega)
    · unfold bloH; rw [wr_at, if_neg (by omega), wr_at, if_neg (by omega), wr_at, if_pos rfl, if_pos (by simp only [px_wr_len, rowH_len]; omega)]
    · show px_up st (yB S) (nI (yR S + 5)) k = nI (px_up (yP S) (yB S) (yR S + 5) k)
      by_cases e : k = yB S
      · rw [e, up_same, up_same]
      · rw [up_ne e, up_ne e]; exact d2 k (by have : k < yB S + 1 := hk; omega)
    · unfold bloH; rw [wr_at, if_neg (by omega), wr_at, if_pos rfl, if_pos (by simp only [px_wr_len, rowH_len]; omega)]
    · show px_up ln (yB S) (nI c) k = nI (px_up (yL S) (yB S) c k)
      by_cases e : k = yB S
      · rw [e, up_same, up_same]
      · rw [up_ne e, up_ne e]; exact e2 k (by have : k < yB S + 1 := hk; omega)
    · exact frm_wr (frm_wr (frm_wr (frm_wr (frm_row (frm_refl _ _) ⟨by omega, by omega⟩ ⟨by omega, by omega⟩) ⟨by omega, by omega⟩) ⟨by omega, by omega⟩) ⟨by omega, by omega⟩) ⟨by omega, by omega⟩
    · unfold bloH
      have s1 := shape_row (n' := yR S + (6 + c)) (f' := f') hs a1
      have s2 := shape_la (g := px_up D (yB S) (dig bb c)) s1 (r := Y + 3) (by rw [rowH_at (by omega) (by omega)]; exact c1)
      have s3 := shape_ia (g := px_up st (yB S) (nI (yR S + 5))) s2 (r := Y + 4) (by rw [wr_at, if_neg (by omega), rowH_at (by omega) (by omega)]; exact d1)
      have s4 := shape_ia (g := px_up ln (yB S) (nI c)) s3 (r := Y + 5) (by rw [wr_at, if_neg (by omega), wr_at, if_neg (by omega), rowH_at (by omega) (by omega)]; exact e1)
      exact shape_int (k := 6) (y := nI (yB S + 1)) s4 (r := Y) (c := 7) (fs := yrdF Y (nI (yC S)) (nI (yB S)) (nI (yK S))) (by rw [wr_at, if_neg (by omega), wr_at, if_neg (by omega), wr_at, if_neg (by omega), rowH_at (by omega) (by omega)]; exact b0) rfl
end CYS
