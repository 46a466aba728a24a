/-! INSTRUCTIONS AS REWRITINGS -/
def px_wr (h : px_H) (r : Nat) (x : px_C) : px_H := (h.1, h.2.set r x)
def px_al (h : px_H) (w : Nat) (x : px_C) : px_H := (h.1 + w, h.2 ++ [x])
def px_gf (h : px_H) (r c f : Nat) : Option Value := match h.2[r]? with
  | some (.inl (c', fs)) => if c' = c then fs[f]? else none
  | _ => none
def px_pf (h : px_H) (r c f : Nat) (v : Value) : Option px_H := match h.2[r]? with
  | some (.inl (c', fs)) => if c' = c ∧ f < fs.length then some (px_wr h r (.inl (c, fs.set f v))) else none
  | _ => none
def px_ai (h : px_H) (r : Nat) (tags : List Nat) (i : Int32) : Option Int32 := match h.2[r]? with
  | some (.inr (t, n, .inl f)) => if t ∈ tags ∧ px_in i n = true then some (f i.toNatClampNeg) else none
  | _ => none
def px_aj (h : px_H) (r : Nat) (i : Int32) : Option Int64 := match h.2[r]? with
  | some (.inr (t, n, .inr (.inl f))) => if t = 2 ∧ px_in i n = true then some (f i.toNatClampNeg) else none
  | _ => none
def px_aa (h : px_H) (r : Nat) (i : Int32) : Option Value := match h.2[r]? with
  | some (.inr (t, n, .inr (.inr f))) => if (t ∈ px_tags ∧ 10 ≤ t) ∧ px_in i n = true then some (px_rf (f i.toNatClampNeg)) else none
  | _ => none
def px_wi (h : px_H) (r : Nat) (tags : List Nat) (i x : Int32) : Option px_H := match h.2[r]? with
  | some (.inr (t, n, .inl f)) => if t ∈ tags ∧ px_in i n = true then some (px_wr h r (.inr (t, n, .inl (px_up f i.toNatClampNeg (px_nar t x))))) else none
  | _ => none
def px_wj (h : px_H) (r : Nat) (i : Int32) (x : Int64) : Option px_H := match h.2[r]? with
  | some (.inr (t, n, .inr (.inl f))) => if t = 2 ∧ px_in i n = true then some (px_wr h r (.inr (t, n, .inr (.inl (px_up f i.toNatClampNeg x))))) else none
  | _ => none
def px_wa (h : px_H) (r : Nat) (i : Int32) (v : Nat) : Option px_H := match h.2[r]?, h.2[v]? with
  | some (.inr (t, n, .inr (.inr f))), some (.inl (c, _)) => if (t ∈ px_tags ∧ t = 10 + c) ∧ px_in i n = true then some (px_wr h r (.inr (t, n, .inr (.inr (px_up f i.toNatClampNeg (some v)))))) else none
  | _, _ => none
def px_an (h : px_H) (r : Nat) : Option Nat := match h.2[r]? with
  | some (.inr (t, n, _)) => if t ∈ px_tags then some n else none
  | _ => none
def px_cls (h : px_H) (r : Nat) : Option Nat := match h.2[r]? with
  | some (.inl (c, _)) => some c
  | _ => none
/-- the way on behind a call -/
def px_K (sx : Nat × (Nat → Int32)) (k pc : Nat) (L : px_L) (rest : List Value) (Q : px_O → px_H → Prop) : px_O → px_H → Prop := fun o h1 => match o with
  | .inl v => px_Wp sx k pc L (v.toList ++ rest) h1 Q
  | .inr r => Q (.inr r) h1
theorem px_K_some {sx : Nat × (Nat → Int32)} {k pc : Nat} {L : px_L} {rest : List Value} {Q : px_O → px_H → Prop} {v : Value} {h1 : px_H} : px_K sx k pc L rest Q (.inl (some v)) h1 ↔ px_Wp sx k pc L (v :: rest) h1 Q := Iff.rfl
theorem px_K_none {sx : Nat × (Nat → Int32)} {k pc : Nat} {L : px_L} {rest : List Value} {Q : px_O → px_H → Prop} {h1 : px_H} : px_K sx k pc L rest Q (.inl none) h1 ↔ px_Wp sx k pc L rest h1 Q := Iff.rfl
theorem px_K_thr {sx : Nat × (Nat → Int32)} {k pc : Nat} {L : px_L} {rest : List Value} {Q : px_O → px_H → Prop} {r : Nat} {h1 : px_H} : px_K sx k pc L rest Q (.inr r) h1 ↔ Q (.inr r) h1 := Iff.rfl
theorem px_wr_get {h : px_H} {r r' : Nat} {x : px_C} (hne : r ≠ r') : (px_wr h r x).2[r']? = h.2[r']? := List.getElem?_set_ne hne
theorem px_wr_same {h : px_H} {r : Nat} {x y : px_C} (hr : h.2[r]? = some y) : (px_wr h r x).2[r]? = some x := by
  show (h.2.set r x)[r]? = some x
  rw [List.getElem?_set_self (List.getElem?_eq_some_iff.mp hr).1]
theorem px_wr_len {h : px_H} {r : Nat} {x : px_C} : (px_wr h r x).2.length = h.2.length := List.length_set
theorem px_wr_1 {h : px_H} {r : Nat} {x : px_C} : (px_wr h r x).1 = h.1 := rfl
theorem px_wr_wr {h : px_H} {r : Nat} {x y : px_C} : px_wr (px_wr h r x) r y = px_wr h r y := by simp [px_wr, List.set_set]
theorem px_al_get {h : px_H} {w r : Nat} {x y : px_C} (hr : h.2[r]? = some y) : (px_al h w x).2[r]? = some y := by
  show (h.2 ++ [x])[r]? = some y
  rw [List.getElem?_append_left (List.getElem?_eq_some_iff.mp hr).1]; exact hr
theorem px_al_new {h : px_H} {w : Nat} {x : px_C} : (px_al h w x).2[h.2.length]? = some x := by simp [px_al]
theorem px_al_len {h : px_H} {w : Nat} {x : px_C} : (px_al h w x).2.length = h.2.length + 1 := by simp [px_al]
theorem px_al_1 {h : px_H} {w : Nat} {x : px_C} : (px_al h w x).1 = h.1 + w := rfl
section OPS
variable {sx : Nat × (Nat → Int32)} {k pc : Nat} {L : px_L} {S : List Value} {h : px_H} {Q : px_O → px_H → Prop} {M M' : px_M} {i : Instr} {len : Nat}
theorem wp_br {P : Prop} [Decidable P] {b : Bool} {off : Int} {tgt : Nat} {S0 : List Value} (hM : px_Gm px_G0 k = some M) (hi : px_Gi px_G0 k pc = some (i, 3)) (hk : px_kind i = none) (hr : px_retv M i S = none) (h1 : px_one px_G0 sx M pc L S h i = px_jmp pc off b L S0 h) (ht : 0 ≤ (pc : Int) + off) (htg : ((pc : Int) + off).toNat = tgt) (hP : b = decide P) :
    px_Wp sx k pc L S h Q ↔ if P then px_Wp sx k tgt L S0 h Q else px_Wp sx k (pc + 3) L S0 h Q := by
  subst htg
  unfold px_jmp at h1
  rw [if_pos ht] at h1
  by_cases hp : P
  · rw [if_pos hp]
    rw [hP, if_pos (decide_eq_true hp)] at h1
    exact wp_st hM hi hk hr h1
  · rw [if_neg hp]
    rw [hP, if_neg (by rw [decide_eq_false hp]; decide)] at h1
    exact wp_st hM hi hk hr h1
theorem wp_gf {idx c f t r : Nat} {fin : Bool} (hM : px_Gm px_G0 k = some M) (hi : px_Gi px_G0 k pc = some (.getfield idx, 3)) (hf : px_Gf px_G0 (px_Mo M) idx = some (c, f, t, fin)) : px_Wp sx k pc L (.ref r :: S) h Q ↔ px_op (px_gf h r c f) (fun v => px_Wp sx k (pc + 3) L (v :: S) h Q) := by
  rw [wp_on hM hi rfl rfl (fun _ q => by cases q)]
  rcases hr : h.2[r]? with _ | x
  · simp [px_one, px_get, hf, px_gf, hr, px_to, px_op]
  · rcases x with ⟨c', fs⟩ | x
    · by_cases hc : c' = c
      · subst hc
        cases hv : fs[f]? <;> simp [px_one, px_get, hf, px_gf, hr, hv, px_to, px_op]
      · simp [px_one, px_get, hf, px_gf, hr, hc, px_to, px_op]
    · simp [px_one, px_get, hf, px_gf, hr, px_to, px_op]
theorem wp_pf {idx c f t r : Nat} {fin : Bool} {v : Value} (hM : px_Gm px_G0 k = some M) (hi : px_Gi px_G0 k pc = some (.putfield idx, 3)) (hf : px_Gf px_G0 (px_Mo M) idx = some (c, f, t, fin)) (hfin : fin = true → (px_Mm M).name = "<init>" ∧ c = px_Mo M) : px_Wp sx k pc L (v :: .ref r :: S) h Q ↔ px_fit t v = true ∧ px_op (px_pf h r c f v) (fun h1 => px_Wp sx k (pc + 3) L S h1 Q) := by
  rw [wp_on hM hi rfl rfl (fun _ q => by cases q)]
  rcases hr : h.2[r]? with _ | x
  · simp [px_one, px_put, hf, px_pf, hr, px_toH, px_op]
  · rcases x with ⟨c', fs⟩ | x
    · by_cases hc : c' = c ∧ f < fs.length
      · obtain ⟨rfl, hl⟩ := hc
        by_cases ht : px_fit t v = true
        · simp [px_one, px_put, hf, px_pf, hr, px_toH, px_op, hl, ht, hfin, px_wr]
          rw [if_pos hfin]
        · simp [px_one, px_put, hf, px_pf, hr, px_toH, px_op, hl, ht]
      · have h2 : ¬ (c' = c ∧ f < fs.length ∧ px_fit t v = true ∧ (fin = true → (px_Mm M).name = "<init>" ∧ c = px_Mo M)) := fun q => hc ⟨q.1, q.2.1⟩
        simp only [px_one, px_put, hf, px_pf, hr, px_toH, px_op, if_neg hc, if_neg h2, Option.map_none, and_false]
    · simp [px_one, px_put, hf, px_pf, hr, px_toH, px_op]
theorem wp_ai {r : Nat} {j : Int32} {tags : List Nat} (hM : px_Gm px_G0 k = some M) (hi : px_Gi px_G0 k pc = some (i, 1)) (ht : (i = .iaload ∧ tags = [1]) ∨ (i = .baload ∧ tags = [0, 3])) : px_Wp sx k pc L (.int j :: .ref r :: S) h Q ↔ px_op (px_ai h r tags j) (fun x => px_Wp sx k (pc + 1) L (.int x :: S) h Q) := by
  have key : px_one px_G0 sx M pc L (.int j :: .ref r :: S) h i = px_to (pc + 1) L h (px_iald sx tags (.int j :: .ref r :: S) h) := by rcases ht with ⟨rfl, rfl⟩ | ⟨rfl, rfl⟩ <;> rfl
  rw [wp_on hM hi (by rcases ht with ⟨rfl, rfl⟩ | ⟨rfl, rfl⟩ <;> rfl) (by rcases ht with ⟨rfl, rfl⟩ | ⟨rfl, rfl⟩ <;> rfl) (fun _ q => by rcases ht with ⟨rfl, rfl⟩ | ⟨rfl, rfl⟩ <;> cases q), key]
  rcases hr : h.2[r]? with _ | x
  · simp [px_iald, px_ai, hr, px_to, px_op]
  · rcases x with x | ⟨t, n, f | f⟩
    · simp [px_iald, px_ai, hr, px_to, px_op]
    · by_cases hc : t ∈ tags ∧ px_in j n = true
      · simp only [px_iald, px_ai, hr, px_to, px_op, if_pos hc, Option.map_some]
      · simp only [px_iald, px_ai, hr, px_to, px_op, if_neg hc, Option.map_none]
    · simp [px_iald, px_ai, hr, px_to, px_op]
theorem wp_as {j : Int32} (hM : px_Gm px_G0 k = some M) (hi : px_Gi px_G0 k pc = some (.iaload, 1)) : px_Wp sx k pc L (.int j :: .retAddr 0 :: S) h Q ↔ px_in j sx.1 = true ∧ px_Wp sx k (pc + 1) L (.int (sx.2 j.toNatClampNeg) :: S) h Q := by
  rw [wp_on hM hi rfl rfl (fun _ q => by cases q)]
  by_cases hc : px_in j sx.1 = true
  · simp [px_one, px_iald, px_to, px_op, hc]
  · simp [px_one, px_iald, px_to, px_op, hc]
theorem wp_aj {r : Nat} {j : Int32} (hM : px_Gm px_G0 k = some M) (hi : px_Gi px_G0 k pc = some (.laload, 1)) : px_Wp sx k pc L (.int j :: .ref r :: S) h Q ↔ px_op (px_aj h r j) (fun x => px_Wp sx k (pc + 1) L (.long x :: S) h Q) := by
  rw [wp_on hM hi rfl rfl (fun _ q => by cases q)]
  rcases hr : h.2[r]? with _ | x
  · simp [px_one, px_lald, px_aj, hr, px_to, px_op]
  · rcases x with x | ⟨t, n, f | f | f⟩
    · simp [px_one, px_lald, px_aj, hr, px_to, px_op]
    · simp [px_one, px_lald, px_aj, hr, px_to, px_op]
    · by_cases hc : t = 2 ∧ px_in j n = true
      · simp only [px_one, px_lald, px_aj, hr, px_to, px_op, if_pos hc, Option.map_some]
      · simp only [px_one, px_lald, px_aj, hr, px_to, px_op, if_neg hc, Option.map_none]
    · simp [px_one, px_lald, px_aj, hr, px_to, px_op]
theorem wp_aa {r : Nat} {j : Int32} (hM : px_Gm px_G0 k = some M) (hi : px_Gi px_G0 k pc = some (.aaload, 1)) : px_Wp sx k pc L (.int j :: .ref r :: S) h Q ↔ px_op (px_aa h r j) (fun v => px_Wp sx k (pc + 1) L (v :: S) h Q) := by
  rw [wp_on hM hi rfl rfl (fun _ q => by cases q)]
  rcases hr : h.2[r]? with _ | x
  · simp [px_one, px_aald, px_aa, hr, px_to, px_op]
  · rcases x with x | ⟨t, n, f | f | f⟩
    · simp [px_one, px_aald, px_aa, hr, px_to, px_op]
    · simp [px_one, px_aald, px_aa, hr, px_to, px_op]
    · simp [px_one, px_aald, px_aa, hr, px_to, px_op]
    · by_cases hc : (t ∈ px_tags ∧ 10 ≤ t) ∧ px_in j n = true
      · simp only [px_one, px_aald, px_aa, hr, px_to, px_op, if_pos hc, Option.map_some]
      · simp only [px_one, px_aald, px_aa, hr, px_to, px_op, if_neg hc, Option.map_none]
theorem wp_wi {r : Nat} {j x : Int32} {tags : List Nat} (hM : px_Gm px_G0 k = some M) (hi : px_Gi px_G0 k pc = some (i, 1)) (ht : (i = .iastore ∧ tags = [1]) ∨ (i = .bastore ∧ tags = [0, 3])) : px_Wp sx k pc L (.int x :: .int j :: .ref r :: S) h Q ↔ px_op (px_wi h r tags j x) (fun h1 => px_Wp sx k (pc + 1) L S h1 Q) := by
  have key : px_one px_G0 sx M pc L (.int x :: .int j :: .ref r :: S) h i = px_toH (pc + 1) L (px_iast tags (.int x :: .int j :: .ref r :: S) h) := by rcases ht with ⟨rfl, rfl⟩ | ⟨rfl, rfl⟩ <;> rfl
  rw [wp_on hM hi (by rcases ht with ⟨rfl, rfl⟩ | ⟨rfl, rfl⟩ <;> rfl) (by rcases ht with ⟨rfl, rfl⟩ | ⟨rfl, rfl⟩ <;> rfl) (fun _ q => by rcases ht with ⟨rfl, rfl⟩ | ⟨rfl, rfl⟩ <;> cases q), key]
  rcases hr : h.2[r]? with _ | y
  · simp [px_iast, px_wi, hr, px_toH, px_op]
  · rcases y with y | ⟨t, n, f | f⟩
    · simp [px_iast, px_wi, hr, px_toH, px_op]
    · by_cases hc : t ∈ tags ∧ px_in j n = true
      · simp only [px_iast, px_wi, hr, px_toH, px_op, if_pos hc, Option.map_some, px_wr]
      · simp only [px_iast, px_wi, hr, px_toH, px_op, if_neg hc, Option.map_none]
    · simp [px_iast, px_wi, hr, px_toH, px_op]
theorem wp_wj {r : Nat} {j : Int32} {x : Int64} (hM : px_Gm px_G0 k = some M) (hi : px_Gi px_G0 k pc = some (.lastore, 1)) : px_Wp sx k pc L (.long x :: .int j :: .ref r :: S) h Q ↔ px_op (px_wj h r j x) (fun h1 => px_Wp sx k (pc + 1) L S h1 Q) := by
  rw [wp_on hM hi rfl rfl (fun _ q => by cases q)]
  rcases hr : h.2[r]? with _ | y
  · simp [px_one, px_last, px_wj, hr, px_toH, px_op]
  · rcases y with y | ⟨t, n, f | f | f⟩
    · simp [px_one, px_last, px_wj, hr, px_toH, px_op]
    · simp [px_one, px_last, px_wj, hr, px_toH, px_op]
    · by_cases hc : t = 2 ∧ px_in j n = true
      · simp only [px_one, px_last, px_wj, hr, px_toH, px_op, if_pos hc, Option.map_some, px_wr]
      · simp only [px_one, px_last, px_wj, hr, px_toH, px_op, if_neg hc, Option.map_none]
    · simp [px_one, px_last, px_wj, hr, px_toH, px_op]
theorem wp_wa {r v : Nat} {j : Int32} (hM : px_Gm px_G0 k = some M) (hi : px_Gi px_G0 k pc = some (.aastore, 1)) : px_Wp sx k pc L (.ref v :: .int j :: .ref r :: S) h Q ↔ px_op (px_wa h r j v) (fun h1 => px_Wp sx k (pc + 1) L S h1 Q) := by
  rw [wp_on hM hi rfl rfl (fun _ q => by cases q)]
  rcases hr : h.2[r]? with _ | y
  · simp [px_one, px_aast, px_wa, hr, px_toH, px_op]
  · rcases y with y | ⟨t, n, f | f | f⟩
    · simp [px_one, px_aast, px_wa, hr, px_toH, px_op]
    · simp [px_one, px_aast, px_wa, hr, px_toH, px_op]
    · simp [px_one, px_aast, px_wa, hr, px_toH, px_op]
    · rcases hv : h.2[v]? with _ | (⟨c, fs⟩ | z)
      · simp [px_one, px_aast, px_wa, hr, hv, px_toH, px_op]
      · by_cases hc : (t ∈ px_tags ∧ t = 10 + c) ∧ px_in j n = true
        · simp only [px_one, px_aast, px_wa, hr, hv, px_toH, px_op, if_pos hc, Option.map_some, px_wr]
        · simp only [px_one, px_aast, px_wa, hr, hv, px_toH, px_op, if_neg hc, Option.map_none]
      · simp [px_one, px_aast, px_wa, hr, hv, px_toH, px_op]
theorem wp_an {r : Nat} (hM : px_Gm px_G0 k = some M) (hi : px_Gi px_G0 k pc = some (.arraylength, 1)) : px_Wp sx k pc L (.ref r :: S) h Q ↔ px_op (px_an h r) (fun n => px_Wp sx k (pc + 1) L (.int (Int32.ofNat n) :: S) h Q) := by
  rw [wp_on hM hi rfl rfl (fun _ q => by cases q)]
  rcases hr : h.2[r]? with _ | y
  · simp [px_one, px_alen, px_an, hr, px_to, px_op]
  · rcases y with y | ⟨t, n, f⟩
    · simp [px_one, px_alen, px_an, hr, px_to, px_op]
    · by_cases hc : t ∈ px_tags
      · simp only [px_one, px_alen, px_an, hr, px_to, px_op, if_pos hc, Option.map_some]
      · simp only [px_one, px_alen, px_an, hr, px_to, px_op, if_neg hc, Option.map_none]
theorem wp_sn (hM : px_Gm px_G0 k = some M) (hi : px_Gi px_G0 k pc = some (.arraylength, 1)) : px_Wp sx k pc L (.retAddr 0 :: S) h Q ↔ px_Wp sx k (pc + 1) L (.int (Int32.ofNat sx.1) :: S) h Q := wp_st hM hi rfl rfl rfl
theorem wp_new {idx c : Nat} {fs : List Value} {w : Nat} (hM : px_Gm px_G0 k = some M) (hi : px_Gi px_G0 k pc = some (.new idx, 3)) (hc : px_Gk px_G0 (px_Mo M) idx = some c) (hn : c < px_NC) (hd : px_Gd px_G0 c = fs) (hw : fs.length = w) : px_Wp sx k pc L S h Q ↔ (h.2.length + 1 ≤ px_CT ∧ h.1 + w ≤ px_ST) ∧ px_Wp sx k (pc + 3) L (.ref h.2.length :: S) (px_al h w (.inl (c, fs))) Q := by
  subst hw; subst hd
  rw [wp_on hM hi rfl rfl (fun idx' q => by
    cases q
    simp only [px_thr, hc]
    split
    · next h1 _ _ _ => cases h1; rw [if_neg (fun q => by omega)]
    · rfl)]
  by_cases hq : h.2.length + 1 ≤ px_CT ∧ h.1 + (px_Gd px_G0 c).length ≤ px_ST
  · simp [px_one, px_new, hc, hn, hq, px_toH, px_op, px_al]
  · have h2 : ¬ (c < px_NC ∧ h.2.length + 1 ≤ px_CT ∧ h.1 + (px_Gd px_G0 c).length ≤ px_ST) := fun q => hq q.2
    refine ⟨fun w => ?_, fun w => absurd w.1 hq⟩
    simp only [px_one, px_new, hc, if_neg h2, px_toH, px_op, Option.map_none] at w
theorem wp_newa {n : Int32} {o : Option (Nat × px_A)} {t q' : Nat} {a : px_A} (hM : px_Gm px_G0 k = some M) (hi : px_Gi px_G0 k pc = some (i, q')) (ho : o = some (t, a)) (hone : ∀ S' : List Value, px_one px_G0 sx M pc L S' h i = px_toH (pc + q') L (px_newa o S' h)) (hk : px_kind i = none) (hr : ∀ S' : List Value, px_retv M i S' = none) (hnw : ∀ idx, i ≠ .new idx) (htg : t ∈ px_tags) :
    px_Wp sx k pc L (.int n :: S) h Q ↔ (¬ n < 0 ∧ n.toNatClampNeg ≤ 1000000 ∧ h.2.length + 1 ≤ px_CT ∧ h.1 + n.toNatClampNeg ≤ px_ST) ∧ px_Wp sx k (pc + q') L (.ref h.2.length :: S) (px_al h n.toNatClampNeg (.inr (t, n.toNatClampNeg, a))) Q := by
  subst ho
  rw [wp_on hM hi hk (hr _) (fun idx q => absurd q (hnw idx)), hone]
  by_cases hq : ¬ n < 0 ∧ n.toNatClampNeg ≤ 1000000 ∧ h.2.length + 1 ≤ px_CT ∧ h.1 + n.toNatClampNeg ≤ px_ST
  · have h2 : t ∈ px_tags ∧ ¬ n < 0 ∧ n.toNatClampNeg ≤ 1000000 ∧ h.2.length + 1 ≤ px_CT ∧ h.1 + n.toNatClampNeg ≤ px_ST := ⟨htg, hq⟩
    simp only [px_newa, if_pos h2, px_toH, px_op, Option.map_some, px_al]
    exact ⟨fun w => ⟨hq, w⟩, fun w => w.2⟩
  · have h2 : ¬ (t ∈ px_tags ∧ ¬ n < 0 ∧ n.toNatClampNeg ≤ 1000000 ∧ h.2.length + 1 ≤ px_CT ∧ h.1 + n.toNatClampNeg ≤ px_ST) := fun q => hq q.2
    simp only [px_newa, if_neg h2, px_toH, px_op, Option.map_none]
    exact ⟨False.elim, fun w => hq w.1⟩
theorem wp_th {idx ic c : Nat} (hM : px_Gm px_G0 k = some M) (hi : px_Gi px_G0 k pc = some (.new idx, 3)) (hk : px_Gk px_G0 (px_Mo M) idx = some c) (h3 : px_Gi px_G0 k (pc + 3) = some (.dup, 1)) (h4 : px_Gi px_G0 k (pc + 4) = some (.invokespecial ic, 3)) (h7 : px_Gi px_G0 k (pc + 7) = some (.athrow, 1))
    (hc : px_NC ≤ c ∧ px_Gc px_G0 (px_Mo M) ic = some (2000 + c) ∧ px_Mh M = [] ∧ 6 ≤ px_Mf M ∧ px_wt S + 81 ≤ px_Mw M) : px_Wp sx k pc L S h Q ↔ (h.2.length + 1 ≤ px_CT ∧ h.1 + 6 ≤ px_ST) ∧ Q (.inr h.2.length) (px_al h 6 (.inl (c, []))) := by
  have hone : px_one px_G0 sx M pc L S h (.new idx) = none := by
    have : ¬ (c < px_NC ∧ h.2.length + 1 ≤ px_CT ∧ h.1 + (px_Gd px_G0 c).length ≤ px_ST) := fun q => by omega
    simp only [px_one, px_new, hk, if_neg this, px_toH, Option.map_none]
  by_cases hq : h.2.length + 1 ≤ px_CT ∧ h.1 + 6 ≤ px_ST
  · rw [wp_thr hM hi hone (h' := px_al h 6 (.inl (c, []))) (by
      simp only [px_thr, hk, h3, h4, h7]
      rw [if_pos ⟨hc.1, hc.2.1, hc.2.2.1, hc.2.2.2.1, hc.2.2.2.2, hq⟩]
      rfl)]
    exact ⟨fun w => ⟨hq, w⟩, fun w => w.2⟩
  · refine ⟨?_, fun w => absurd w.1 hq⟩
    rintro ⟨o, h2, ⟨n, hn⟩, q⟩
    cases n with
    | zero => simp [px_run] at hn
    | succ n =>
      rw [px_run] at hn
      simp only [hM, hi, px_kind, px_retv, hone] at hn
      simp only [px_thr, hk, h3, h4, h7] at hn
      rw [if_neg (fun q => hq q.2.2.2.2.2)] at hn
      cases hn
theorem wp_cs {idx k' : Nat} (hM : px_Gm px_G0 k = some M) (hi : px_Gi px_G0 k pc = some (.invokestatic idx, 3)) (hc : px_Gc px_G0 (px_Mo M) idx = some k') (hk' : k' < 1000) (hM' : px_Gm px_G0 k' = some M') {as rest : List Value} (ht : px_take (px_Ma M') S = some (as, rest)) (hcd : px_fitM M M' (px_wt rest) = true ∧ (px_ent as).length ≤ px_Ml M') (hh : px_Mh M = []) {L1 : px_L} (hL : px_entry (px_Ml M') as = L1) :
    px_Wp sx k pc L S h Q ↔ px_Wp sx k' 0 L1 [] h (px_K sx k (pc + 3) L rest Q) := by subst hL; exact wp_call hM hi rfl hc hk' hM' ht rfl hcd hh
theorem wp_cv {idx k' r : Nat} (hM : px_Gm px_G0 k = some M) (hi : px_Gi px_G0 k pc = some (.invokevirtual idx, 3)) (hc : px_Gc px_G0 (px_Mo M) idx = some k') (hk' : k' < 1000) (hM' : px_Gm px_G0 k' = some M') {as rest : List Value} (ht : px_take (px_Ma M') S = some (.ref r :: as, rest)) (hcd : px_fitM M M' (px_wt rest) = true ∧ (px_ent (.ref r :: as)).length ≤ px_Ml M') (hh : px_Mh M = []) {L1 : px_L} (hL : px_entry (px_Ml M') (.ref r :: as) = L1) {cn : Nat} (hcn : px_Mo M' = cn) :
    px_Wp sx k pc L S h Q ↔ px_cls h r = some cn ∧ px_Wp sx k' 0 L1 [] h (px_K sx k (pc + 3) L rest Q) := by
  subst hL; subst hcn
  by_cases hrc : px_recv M' h 1 (.ref r :: as) = true
  · have hcl : px_cls h r = some (px_Mo M') := by
      simp only [px_recv] at hrc
      split at hrc
      · next c fs hr => simp only [px_cls, hr]; rw [of_decide_eq_true hrc]
      · cases hrc
    rw [wp_call hM hi rfl hc hk' hM' ht hrc hcd hh]
    exact ⟨fun w => ⟨hcl, w⟩, fun w => w.2⟩
  · refine ⟨?_, fun w => ?_⟩
    · rintro ⟨o, h', ⟨n, hn⟩, q⟩
      cases n with
      | zero => simp [px_run] at hn
      | succ n =>
        rw [px_run] at hn
        simp only [hM, hi, px_kind, hc, if_pos hk', hM', ht] at hn
        rw [if_neg (fun q => hrc q.1)] at hn
        cases hn
    · exfalso
      apply hrc
      have h1 := w.1
      simp only [px_cls] at h1
      simp only [px_recv]
      split at h1
      · next c fs hr => rw [hr]; simp at h1 ⊢; exact h1
      · cases h1
theorem wp_ci {idx k' r : Nat} (hM : px_Gm px_G0 k = some M) (hi : px_Gi px_G0 k pc = some (.invokespecial idx, 3)) (hc : px_Gc px_G0 (px_Mo M) idx = some k') (hk' : k' < 1000) (hM' : px_Gm px_G0 k' = some M') {as rest : List Value} (ht : px_take (px_Ma M') S = some (.ref r :: as, rest)) (hcd : px_fitM M M' (px_wt rest) = true ∧ (px_ent (.ref r :: as)).length ≤ px_Ml M') (hh : px_Mh M = []) {L1 : px_L} (hL : px_entry (px_Ml M') (.ref r :: as) = L1) (hn : (px_Mm M').name = "<init>") :
    px_Wp sx k pc L S h Q ↔ px_Wp sx k' 0 L1 [] h (px_K sx k (pc + 3) L rest Q) := by subst hL; exact wp_call hM hi rfl hc hk' hM' ht (by simp [px_recv, hn]) hcd hh
theorem wp_oi {idx r : Nat} (hM : px_Gm px_G0 k = some M) (hi : px_Gi px_G0 k pc = some (.invokespecial idx, 3)) (hc : px_Gc px_G0 (px_Mo M) idx = some 1000) (hcd : 1 ≤ px_Mf M ∧ px_wt S + 12 ≤ px_Mw M) : px_Wp sx k pc L (.ref r :: S) h Q ↔ px_Wp sx k (pc + 3) L S h Q :=
  wp_prim hM hi rfl hc (by decide) (by simp only [px_prim]; rw [if_pos hcd])
theorem wp_min {idx : Nat} {x y : Int32} (hM : px_Gm px_G0 k = some M) (hi : px_Gi px_G0 k pc = some (.invokestatic idx, 3)) (hc : px_Gc px_G0 (px_Mo M) idx = some 1002) (hcd : 1 ≤ px_Mf M ∧ px_wt S + 13 ≤ px_Mw M) : px_Wp sx k pc L (.int y :: .int x :: S) h Q ↔ px_Wp sx k (pc + 3) L (.int (if y < x then y else x) :: S) h Q :=
  wp_prim hM hi rfl hc (by decide) (by simp only [px_prim]; rw [if_pos hcd])
theorem wp_sl {idx r : Nat} (hM : px_Gm px_G0 k = some M) (hi : px_Gi px_G0 k pc = some (.invokevirtual idx, 3)) (hc : px_Gc px_G0 (px_Mo M) idx = some 1003) (hcd : 2 ≤ px_Mf M ∧ px_wt S ≤ 8 ∧ 40 ≤ px_Mw M) : px_Wp sx k pc L (.retAddr r :: S) h Q ↔ (1 ≤ r ∧ r ≤ 11) ∧ px_Wp sx k (pc + 3) L (.int (nI (px_sl.getD (r - 1) 0)) :: S) h Q := by
  by_cases hr : 1 ≤ r ∧ r ≤ 11
  · rw [wp_prim hM hi rfl hc (by decide) (by simp only [px_prim]; rw [if_pos ⟨hr, hcd⟩])]
    exact ⟨fun w => ⟨hr, w⟩, fun w => w.2⟩
  · exact ⟨fun w => absurd w (wp_primN hM hi rfl hc (by decide) (by simp only [px_prim]; rw [if_neg (fun z => hr z.1)])), fun w => absurd w.1 hr⟩
theorem wp_sc {idx r : Nat} {x : Int32} (hM : px_Gm px_G0 k = some M) (hi : px_Gi px_G0 k pc = some (.invokevirtual idx, 3)) (hc : px_Gc px_G0 (px_Mo M) idx = some 1004) (hcd : 4 ≤ px_Mf M ∧ px_wt S ≤ 8 ∧ 85 ≤ px_Mw M) : px_Wp sx k pc L (.int x :: .retAddr r :: S) h Q ↔ ((1 ≤ r ∧ r ≤ 11) ∧ px_in x (px_sl.getD (r - 1) 0) = true) ∧ px_Wp sx k (pc + 3) L (.int ((px_sb.getD (r - 1) []).getD x.toNatClampNeg 0) :: S) h Q := by
  by_cases hr : (1 ≤ r ∧ r ≤ 11) ∧ px_in x (px_sl.getD (r - 1) 0) = true
  · rw [wp_prim hM hi rfl hc (by decide) (by simp only [px_prim]; rw [if_pos ⟨hr, hcd⟩])]
    exact ⟨fun w => ⟨hr, w⟩, fun w => w.2⟩
  · exact ⟨fun w => absurd w (wp_primN hM hi rfl hc (by decide) (by simp only [px_prim]; rw [if_neg (fun z => hr z.1)])), fun w => absurd w.1 hr⟩
theorem wp_cp {idx s d : Nat} {sp dp n : Int32} (hM : px_Gm px_G0 k = some M) (hi : px_Gi px_G0 k pc = some (.invokestatic idx, 3)) (hc : px_Gc px_G0 (px_Mo M) idx = some 1001) (hcd : 1 ≤ px_Mf M ∧ px_wt S + 18 ≤ px_Mw M) : px_Wp sx k pc L (.int n :: .int dp :: .ref d :: .int sp :: .ref s :: S) h Q ↔ px_op (px_cp h s d sp dp n) (fun h1 => px_Wp sx k (pc + 3) L S h1 Q) := by
  have hp : px_prim (px_Mf M) (px_Mw M) 1001 0 (.int n :: .int dp :: .ref d :: .int sp :: .ref s :: S) h = (px_cp h s d sp dp n).map (fun h1 => (S, h1)) := by
    simp only [px_prim]; rw [if_pos hcd]
  cases hq : px_cp h s d sp dp n with
  | none =>
    rw [hq] at hp
    exact ⟨fun w => absurd w (wp_primN hM hi rfl hc (by decide) hp), fun w => by cases w⟩
  | some h1 =>
    rw [hq] at hp
    exact wp_prim hM hi rfl hc (by decide) hp
end OPS
