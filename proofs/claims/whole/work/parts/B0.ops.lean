/-! KEEP AND TELL as steps of a yard's state -/
def hasD (S : yS) (v : Int64) : Prop := ∃ k, k < yB S ∧ yD S k = v
def keepY (S : yS) (bb : Nat → Int32) (c : Nat) (S' : yS) : Prop := (S' = S ∧ ∃ k, k < yB S ∧ yD S k = dig bb c ∧ yL S k = c ∧ ∀ m, m < c → yJ S (yP S k + m) = bb m) ∨ (S' = yKeep S bb c ∧ ¬ hasD S (dig bb c) ∧ yB S < 60 ∧ yR S + (6 + c) ≤ 40000)
def keepN (S : yS) (bb : Nat → Int32) (c : Nat) : Prop := (∃ k, k < yB S ∧ yD S k = dig bb c ∧ ¬ (yL S k = c ∧ ∀ m, m < c → yJ S (yP S k + m) = bb m)) ∨ (¬ hasD S (dig bb c) ∧ (yB S = 60 ∨ 40000 < yR S + (6 + c)))
def tellY (S : yS) (j : Nat) (v : Int64) (S' : yS) : Prop := (S' = S ∧ yT S j = true ∧ yG S j = v) ∨ (S' = yTell S j v ∧ ¬ (yT S j = true ∧ yG S j = v) ∧ yR S + 15 ≤ 40000)
def tellN (S : yS) (j : Nat) (v : Int64) : Prop := ¬ (yT S j = true ∧ yG S j = v) ∧ 40000 < yR S + 15
set_option maxRecDepth 16384 in
theorem keepY_det {S S1 S2 : yS} {bb : Nat → Int32} {c : Nat} (h1 : keepY S bb c S1) (h2 : keepY S bb c S2) : S1 = S2 := by
  rcases h1 with ⟨e1, k, a1, a2, -⟩ | ⟨e1, a1, -⟩ <;> rcases h2 with ⟨e2, k', b1, b2, -⟩ | ⟨e2, b1, -⟩
  · rw [e1, e2]
  · exact absurd ⟨k, a1, a2⟩ b1
  · exact absurd ⟨k', b1, b2⟩ a1
  · rw [e1, e2]
set_option maxRecDepth 16384 in
theorem keepYN {S S1 : yS} {bb : Nat → Int32} {c : Nat} (hw : WFy S) (h1 : keepY S bb c S1) (h2 : keepN S bb c) : False := by
  rcases h1 with ⟨e1, k, a1, a2, a3, a4⟩ | ⟨e1, a1, a2, a3⟩ <;> rcases h2 with ⟨k', b1, b2, b3⟩ | ⟨b1, b2⟩
  · have : k = k' := hw.2.2.2.2.1 k k' a1 b1 (a2.trans b2.symm)
    subst this; exact b3 ⟨a3, a4⟩
  · exact b1 ⟨k, a1, a2⟩
  · exact a1 ⟨k', b1, b2⟩
  · omega
set_option maxRecDepth 16384 in
theorem tellY_det {S S1 S2 : yS} {j : Nat} {v : Int64} (h1 : tellY S j v S1) (h2 : tellY S j v S2) : S1 = S2 := by
  rcases h1 with ⟨e1, a1⟩ | ⟨e1, a1, -⟩ <;> rcases h2 with ⟨e2, b1⟩ | ⟨e2, b1, -⟩
  · rw [e1, e2]
  · exact absurd a1 b1
  · exact absurd b1 a1
  · rw [e1, e2]
set_option maxRecDepth 16384 in
theorem tellYN {S S1 : yS} {j : Nat} {v : Int64} (h1 : tellY S j v S1) (h2 : tellN S j v) : False := by
  rcases h1 with ⟨e1, a1⟩ | ⟨e1, a1, a2⟩
  · exact h2.1 a1
  · have := h2.2; omega
set_option maxRecDepth 16384 in
theorem rec_255 {kd m : Nat} {d : Nat → Int32} (hk : kd < 256) (hm : m < 65536) (hd : ∀ k, k < m → d k &&& 255 = d k) : ∀ k, k < 6 + m → recB kd m d k &&& 255 = recB kd m d k := by
  intro k hk2
  by_cases h0 : k < 5
  · have : k = 0 ∨ k = 1 ∨ k = 2 ∨ k = 3 ∨ k = 4 := by omega
    rcases this with rfl | rfl | rfl | rfl | rfl
    · rw [rec_0, nI_small hk]
    · rw [rec_1, nI_small (by omega)]
    · rw [rec_2, nI_small (by omega)]
    · rw [rec_3, nI_small (by omega)]
    · rw [rec_4, nI_small (by omega)]
  · by_cases h1 : k < 5 + m
    · obtain ⟨k', rfl⟩ : ∃ k', k = 5 + k' := ⟨k - 5, by omega⟩
      rw [rec_d (by omega)]; exact hd k' (by omega)
    · have : k = 5 + m := by omega
      rw [this, rec_e, Int32.and_assoc, Int32.and_self]
set_option maxRecDepth 16384 in
theorem addJ_255 {S : yS} {n : Nat} {g : Nat → Int32} (hw : WFy S) (hg : ∀ k, k < n → g k &&& 255 = g k) : ∀ j, j < yR S + n → (addJ S n g).2.1 j &&& 255 = (addJ S n g).2.1 j := by
  intro j hj
  by_cases e : j < yR S
  · rw [addJ_old e]; exact hw.2.2.2.2.2.2 j e
  · rw [addJ_new (by omega)]; exact hg _ (by omega)
set_option maxRecDepth 16384 in
theorem WF_keep {S S' : yS} {bb : Nat → Int32} {c : Nat} (hw : WFy S) (hb : ∀ k, k < c → bb k &&& 255 = bb k) (h : keepY S bb c S') : WFy S' := by
  rcases h with ⟨rfl, -⟩ | ⟨rfl, h1, h2, h3⟩
  · exact hw
  · have hw' := hw
    obtain ⟨v1, v2, v3, v4, v5, v6, v7⟩ := hw
    refine ⟨h3, Nat.le_trans v2 (Nat.le_add_right _ _), h2, v4, fun i j hi hj e => ?_, fun k hk => ?_, addJ_255 hw' (rec_255 (by decide) (by omega) hb)⟩
    · have hi' : i < yB S + 1 := hi
      have hj' : j < yB S + 1 := hj
      have e' : px_up (yD S) (yB S) (dig bb c) i = px_up (yD S) (yB S) (dig bb c) j := e
      by_cases a : i = yB S <;> by_cases b : j = yB S
      · omega
      · rw [a, up_same, up_ne b] at e'
        exact absurd ⟨j, by omega, e'.symm⟩ h1
      · rw [b, up_same, up_ne a] at e'
        exact absurd ⟨i, by omega, e'⟩ h1
      · rw [up_ne a, up_ne b] at e'
        exact v5 i j (by omega) (by omega) e'
    · have hk' : k < yB S + 1 := hk
      show px_up (yP S) (yB S) (yR S + 5) k + px_up (yL S) (yB S) c k ≤ yR S + (6 + c)
      by_cases a : k = yB S
      · rw [a, up_same, up_same]; omega
      · rw [up_ne a, up_ne a]; have := v6 k (by omega); omega
set_option maxRecDepth 16384 in
theorem tagB_255 {j : Nat} {v : Int64} (hj : j < 256) : ∀ k, tagB j v k &&& 255 = tagB j v k := by
  intro k; unfold tagB; split
  · exact nI_small hj
  · rw [Int32.and_assoc, Int32.and_self]
set_option maxRecDepth 16384 in
theorem WF_tell {S S' : yS} {j : Nat} {v : Int64} (hw : WFy S) (hj : j < 8) (h : tellY S j v S') : WFy S' := by
  rcases h with ⟨rfl, -⟩ | ⟨rfl, h1, h3⟩
  · exact hw
  · have hw' := hw
    obtain ⟨v1, v2, v3, v4, v5, v6, v7⟩ := hw
    exact ⟨h3, Nat.le_trans v2 (Nat.le_add_right _ _), v3, v4, v5, fun k hk => Nat.le_trans (v6 k hk) (Nat.le_add_right _ _), addJ_255 (n := 15) (g := recB 2 9 (tagB j v)) hw' (rec_255 (kd := 2) (m := 9) (by decide) (by decide) (fun k _ => tagB_255 (by omega) k))⟩
section OPS2
variable {sx : Nat × (Nat → Int32)} {h : px_H} {Y q : Nat} {S : yS} {V : Nat → Int32} {Q : px_O → px_H → Prop}
set_option maxRecDepth 16384 in
theorem cy_keep2 {r N n a c : Nat} {fr bb : Nat → Int32} (hw : WFy S) (cy : CY h Y S) (hr0 : Y + 11 ≤ r ∨ r + 2 ≤ Y) (w' : rowAt h r N n fr) (ha : a + c ≤ n) (hc : c ≤ 39000) (hf : ∀ k, k < c → fr (a + k) &&& 255 = bb k)
    (hY : ∀ S' h', keepY S bb c S' → CY h' Y S' → frm (cyA Y) h h' → (shape h → shape h') → Q (.inl (some (.int 1))) h') (hN : keepN S bb c → Q (.inl (some (.int 0))) h) :
    px_Wp sx 92 0 [some (.ref Y), some (.ref r), some (.int (nI a)), some (.int (nI c)), none, none] [] h Q :=
  cy_keep hw cy hr0 w' ha hc hf (fun k hk e => ⟨fun z => hY S h (.inl ⟨rfl, k, hk, e, z⟩) cy (frm_refl _ _) (fun s => s), fun z => hN (.inl ⟨k, hk, e, z⟩)⟩) (fun z g => hN (.inr ⟨fun ⟨k, hk, e⟩ => z k hk e, g⟩)) (fun z b g h' c' f' s' => hY _ h' (.inr ⟨rfl, fun ⟨k, hk, e⟩ => z k hk e, b, g⟩) c' f' s')
set_option maxRecDepth 16384 in
theorem cy_tell2 {j : Nat} {v : Int64} (c : CY h Y S) (hj : j < 8) (hY : ∀ S' h', tellY S j v S' → CY h' Y S' → frm (cyA Y) h h' → (shape h → shape h') → Q (.inl (some (.int 1))) h') (hN : tellN S j v → Q (.inl (some (.int 0))) h) :
    px_Wp sx 99 0 [some (.ref Y), some (.int (nI j)), some (.long v), none] [] h Q :=
  cy_tell c hj (fun z => hY S h (.inl ⟨rfl, z⟩) c (frm_refl _ _) (fun s => s)) (fun z g => hN ⟨z, g⟩) (fun z g h' c' f' s' => hY _ h' (.inr ⟨rfl, z, g⟩) c' f' s')
set_option maxRecDepth 16384 in
theorem ry_keep2 {c : Nat} {d : Nat → Int32} (hS : shape h) (hw : WFy S) (hq : q < 2) (ry : RY h q S) (h6 : h.2[619]? = some (.inl (11, modF V))) (hv : V 17 = nI c) (hc : c ≤ 39000) (hr : h.2[636]? = some (.inr (1, 40100, .inl d))) (hd : ∀ k, k < c → d k &&& 255 = d k)
    (hY : ∀ S' h', keepY S d c S' → RY h' q S' → (∀ q2 S2, q2 < 2 → q2 ≠ q → WFy S2 → RY h q2 S2 → RY h' q2 S2) → frm (fun r => 621 ≤ r ∧ r ≤ 633) h h' → shape h' → Q (.inl (some (.int 1))) h') (hN : keepN S d c → Q (.inl (some (.int 0))) h) :
    px_Wp sx 216 0 [some (.ref 619), some (.int (nI q)), none, none, none] [] h Q :=
  ry_keep hS hw hq ry h6 hv hc hr hd (fun k hk e => ⟨fun z => hY S h (.inl ⟨rfl, k, hk, e, z⟩) ry (fun _ _ _ _ _ y => y) (frm_refl _ _) hS, fun z => hN (.inl ⟨k, hk, e, z⟩)⟩) (fun z g => hN (.inr ⟨fun ⟨k, hk, e⟩ => z k hk e, g⟩)) (fun z b g h' c' o' f' s' => hY _ h' (.inr ⟨rfl, fun ⟨k, hk, e⟩ => z k hk e, b, g⟩) c' o' f' s')
set_option maxRecDepth 16384 in
theorem ry_tell2 {j : Nat} {v : Int64} (hS : shape h) (hw : WFy S) (hq : q < 2) (hj : j < 8) (c : RY h q S) (h6 : h.2[619]? = some (.inl (11, modF V)))
    (hY : ∀ S' h' V', tellY S j v S' → RY h' q S' → (∀ q2 S2, q2 < 2 → q2 ≠ q → WFy S2 → RY h q2 S2 → RY h' q2 S2) → frm ryA h h' → shape h' → h'.2[619]? = some (.inl (11, modF V')) → vSame V V' → Q (.inl (some (.int 1))) h') (hN : tellN S j v → Q (.inl (some (.int 0))) h) :
    px_Wp sx 224 0 [some (.ref 619), some (.int (nI q)), some (.int (nI j)), some (.long v), none, none] [] h Q :=
  ry_tell hS hw hq hj c h6 (fun z => hY S h V (.inl ⟨rfl, z⟩) c (fun _ _ _ _ _ y => y) (frm_refl _ _) hS h6 (fun _ _ => rfl)) (fun z g => hN ⟨z, g⟩) (fun z g h' c' o' f' s' v' => hY _ h' _ (.inr ⟨rfl, z, g⟩) c' o' f' s' v' (fun k hk => up_ne hk))
end OPS2
