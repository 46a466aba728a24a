/-! WHAT THE REAL HEAP HOLDS OF THE PURE ONE -/
/-- a pure value's real one: cell r lies at b0 + r; sc: the script and the String constants -/
def px_rv (b0 : Nat) (sc : Nat → Nat) : Value → Value
  | .ref r => .ref (b0 + r)
  | .retAddr k => .ref (sc k)
  | v => v
def px_E (cA : Nat → ClassId) (b0 : Nat) (sc : Nat → Nat) : px_C → va_E
  | .inl (c, fs) => .inr (c, fs.map (px_rv b0 sc))
  | .inr (t, n, .inl f) => .inl (cA t, n, .inl f)
  | .inr (t, n, .inr (.inl f)) => .inl (cA t, n, .inr (.inl f))
  | .inr (t, n, .inr (.inr f)) => .inl (cA t, n, .inr (.inr (.inr (.inr (fun j => (f j).map (b0 + ·))))))
def px_ws (cA : Nat → ClassId) (b0 : Nat) (sc : Nat → Nat) (h : List px_C) : va_W := h.mapIdx (fun r x => (b0 + r, px_E cA b0 sc x))
theorem px_rv_cat (b0 : Nat) (sc : Nat → Nat) (v : Value) : (px_rv b0 sc v).category = v.category := by cases v <;> rfl
theorem px_ws_at {cA : Nat → ClassId} {b0 : Nat} {sc : Nat → Nat} {h : List px_C} {r : Nat} {x : px_C} (hx : h[r]? = some x) : (px_ws cA b0 sc h)[r]? = some (b0 + r, px_E cA b0 sc x) := by
  simp [px_ws, List.getElem?_mapIdx, hx]
theorem px_ws_inv {cA : Nat → ClassId} {b0 : Nat} {sc : Nat → Nat} {h : List px_C} {r : Nat} {q : Nat × va_E} (hx : (px_ws cA b0 sc h)[r]? = some q) : ∃ x, h[r]? = some x ∧ q = (b0 + r, px_E cA b0 sc x) := by
  simp only [px_ws, List.getElem?_mapIdx] at hx
  cases hh : h[r]? with
  | none => rw [hh] at hx; cases hx
  | some x => rw [hh] at hx; exact ⟨x, rfl, (Option.some.inj hx).symm⟩
theorem px_ws_set (cA : Nat → ClassId) (b0 : Nat) (sc : Nat → Nat) (h : List px_C) (r : Nat) (x : px_C) : px_ws cA b0 sc (h.set r x) = (px_ws cA b0 sc h).set r (b0 + r, px_E cA b0 sc x) := by
  apply List.ext_getElem?
  intro i
  simp only [px_ws, List.getElem?_mapIdx, List.getElem?_set, List.length_mapIdx]
  by_cases hi : r = i
  · subst hi
    by_cases hl : r < h.length <;> simp [hl]
  · simp [hi]
theorem px_ws_push (cA : Nat → ClassId) (b0 : Nat) (sc : Nat → Nat) (h : List px_C) (x : px_C) : px_ws cA b0 sc (h ++ [x]) = px_ws cA b0 sc h ++ [(b0 + h.length, px_E cA b0 sc x)] := by
  simp [px_ws, List.mapIdx_append]
theorem px_ws_D (cA : Nat → ClassId) (b0 : Nat) (sc : Nat → Nat) (h : List px_C) : va_D (fun q => b0 ≤ q) (px_ws cA b0 sc h) := by
  refine ⟨fun i j x y hx hy hxy => ?_, fun k q hq => ?_⟩
  · obtain ⟨_, -, rfl⟩ := px_ws_inv hx
    obtain ⟨_, -, rfl⟩ := px_ws_inv hy
    simp only at hxy
    omega
  · obtain ⟨_, -, rfl⟩ := px_ws_inv hq
    simp only
    omega
/-- the locals -/
def px_loc (b0 : Nat) (sc : Nat → Nat) (ls : Array Slot) (L : px_L) : Prop := ls.size = L.length ∧ lv_wf ls ∧ ∀ (i : Nat) (v : Value), L[i]? = some (some v) → ls[i]? = some (.val (px_rv b0 sc v))
def px_as (b0 : Nat) (sc : Nat → Nat) (L : px_L) : List (Nat × Value) := (List.range L.length).filterMap (fun i => match L[i]? with
  | some (some v) => some (i, px_rv b0 sc v)
  | _ => none)
theorem px_as_mem {b0 : Nat} {sc : Nat → Nat} {L : px_L} {i : Nat} {v : Value} (h : L[i]? = some (some v)) : (i, px_rv b0 sc v) ∈ px_as b0 sc L :=
  List.mem_filterMap.mpr ⟨i, List.mem_range.mpr (List.getElem?_eq_some_iff.mp h).1, by simp only [h]⟩
theorem px_as_inv {b0 : Nat} {sc : Nat → Nat} {L : px_L} {q : Nat × Value} (h : q ∈ px_as b0 sc L) : ∃ v, L[q.1]? = some (some v) ∧ q = (q.1, px_rv b0 sc v) := by
  obtain ⟨i, -, hi⟩ := List.mem_filterMap.mp h
  split at hi
  · next v hv =>
    cases hi
    exact ⟨v, hv, rfl⟩
  · cases hi
theorem px_loc.has {b0 : Nat} {sc : Nat → Nat} {ls : Array Slot} {L : px_L} (h : px_loc b0 sc ls L) : lv_has ls L.length (px_as b0 sc L) := by
  refine ⟨h.1, h.2.1, fun q hq => ?_⟩
  obtain ⟨v, hv, he⟩ := px_as_inv hq
  rw [he]
  exact h.2.2 _ _ hv
theorem px_st1_len (L : px_L) (i : Nat) (v : Value) : (px_st1 L i v).length = L.length := by
  induction L generalizing i with
  | nil => simp [px_st1]
  | cons o t ih =>
    rcases i with _ | _ | i
    · simp [px_st1]
    · simp [px_st1, ih]
    · simp [px_st1, ih]
theorem px_st1_get (L : px_L) (i : Nat) (v w : Value) (j : Nat) (h : (px_st1 L i v)[j]? = some (some w)) : (j = i ∧ w = v) ∨ (j ≠ i ∧ L[j]? = some (some w) ∧ ¬ (j + 1 = i ∧ w.category = 2)) := by
  induction L generalizing i j with
  | nil => simp [px_st1] at h
  | cons o t ih =>
    rcases i with _ | _ | i
    · cases j with
      | zero => simp [px_st1] at h; exact Or.inl ⟨rfl, h.symm⟩
      | succ j => simp [px_st1] at h; exact Or.inr ⟨by omega, by simpa using h, by omega⟩
    · cases j with
      | zero =>
        simp [px_st1] at h
        refine Or.inr ⟨by omega, ?_, ?_⟩
        · rcases o with _ | x
          · simp [px_kill] at h
          · cases x <;> simp [px_kill] at h <;> simp [h]
        · rintro ⟨-, h2⟩
          rcases o with _ | x
          · simp [px_kill] at h
          · cases x <;> simp [px_kill] at h <;> subst h <;> simp [Value.category] at h2
      | succ j =>
        simp only [px_st1, List.getElem?_cons_succ] at h
        rcases ih 0 j h with ⟨h1, h2⟩ | ⟨h1, h2, h3⟩
        · exact Or.inl ⟨by omega, h2⟩
        · exact Or.inr ⟨by omega, by simpa using h2, by omega⟩
    · cases j with
      | zero => simp [px_st1] at h; exact Or.inr ⟨by omega, by simp [h], by omega⟩
      | succ j =>
        simp only [px_st1, List.getElem?_cons_succ] at h
        rcases ih (i + 1) j h with ⟨h1, h2⟩ | ⟨h1, h2, h3⟩
        · exact Or.inl ⟨by omega, h2⟩
        · exact Or.inr ⟨by omega, by simpa using h2, fun q => h3 ⟨by omega, q.2⟩⟩
theorem px_st2_len (L : px_L) (i : Nat) (v : Value) : (px_st2 L i v).length = L.length := by
  induction L generalizing i with
  | nil => simp [px_st2]
  | cons o t ih =>
    rcases i with _ | _ | i
    · cases t <;> simp [px_st2, px_cl1]
    · simp [px_st2, ih]
    · simp [px_st2, ih]
theorem px_st2_get (L : px_L) (i : Nat) (v w : Value) (j : Nat) (h : (px_st2 L i v)[j]? = some (some w)) : (j = i ∧ w = v) ∨ (j ≠ i ∧ j ≠ i + 1 ∧ L[j]? = some (some w) ∧ ¬ (j + 1 = i ∧ w.category = 2)) := by
  induction L generalizing i j with
  | nil => simp [px_st2] at h
  | cons o t ih =>
    rcases i with _ | _ | i
    · cases t with
      | nil =>
        cases j with
        | zero => simp [px_st2] at h; exact Or.inl ⟨rfl, h.symm⟩
        | succ j => simp [px_st2, px_cl1] at h
      | cons o2 t2 =>
        rcases j with _ | _ | j
        · simp [px_st2] at h; exact Or.inl ⟨rfl, h.symm⟩
        · simp [px_st2, px_cl1] at h
        · simp [px_st2, px_cl1] at h; exact Or.inr ⟨by omega, by omega, by simpa using h, by omega⟩
    · cases j with
      | zero =>
        simp [px_st2] at h
        refine Or.inr ⟨by omega, by omega, ?_, ?_⟩
        · rcases o with _ | x
          · simp [px_kill] at h
          · cases x <;> simp [px_kill] at h <;> simp [h]
        · rintro ⟨-, h2⟩
          rcases o with _ | x
          · simp [px_kill] at h
          · cases x <;> simp [px_kill] at h <;> subst h <;> simp [Value.category] at h2
      | succ j =>
        simp only [px_st2, List.getElem?_cons_succ] at h
        rcases ih 0 j h with ⟨h1, h2⟩ | ⟨h1, h2, h3, h4⟩
        · exact Or.inl ⟨by omega, h2⟩
        · exact Or.inr ⟨by omega, by omega, by simpa using h3, by omega⟩
    · cases j with
      | zero => simp [px_st2] at h; exact Or.inr ⟨by omega, by omega, by simp [h], by omega⟩
      | succ j =>
        simp only [px_st2, List.getElem?_cons_succ] at h
        rcases ih (i + 1) j h with ⟨h1, h2⟩ | ⟨h1, h2, h3, h4⟩
        · exact Or.inl ⟨by omega, h2⟩
        · exact Or.inr ⟨by omega, by omega, by simpa using h3, fun q => h4 ⟨by omega, q.2⟩⟩
theorem px_loc.st1 {b0 : Nat} {sc : Nat → Nat} {ls' : Array Slot} {L : px_L} {i : Nat} {v : Value} (h : lv_has ls' L.length ((i, px_rv b0 sc v) :: (px_as b0 sc L).filter (fun q => !(q.1 == i) && !(q.1 + 1 == i && q.2.category == 2)))) : px_loc b0 sc ls' (px_st1 L i v) := by
  refine ⟨h.1.trans (px_st1_len L i v).symm, h.2.1, fun j w hj => ?_⟩
  rcases px_st1_get L i v w j hj with ⟨h1, h2⟩ | ⟨h1, h2, h3⟩
  · subst h1; subst h2
    exact h.2.2 _ List.mem_cons_self
  · refine h.2.2 (j, px_rv b0 sc w) (List.mem_cons_of_mem _ (List.mem_filter.mpr ⟨px_as_mem h2, ?_⟩))
    simp only [px_rv_cat, Bool.and_eq_true, Bool.not_eq_true', beq_eq_false_iff_ne, ne_eq, Bool.and_eq_false_iff]
    refine ⟨h1, ?_⟩
    by_cases h4 : j + 1 = i
    · exact Or.inr (fun q => h3 ⟨h4, q⟩)
    · exact Or.inl h4
theorem px_loc.st2 {b0 : Nat} {sc : Nat → Nat} {ls' : Array Slot} {L : px_L} {i : Nat} {v : Value} (h : lv_has ls' L.length ((i, px_rv b0 sc v) :: (px_as b0 sc L).filter (fun q => !(q.1 == i) && (!(q.1 == i + 1) && !(q.1 + 1 == i && q.2.category == 2))))) : px_loc b0 sc ls' (px_st2 L i v) := by
  refine ⟨h.1.trans (px_st2_len L i v).symm, h.2.1, fun j w hj => ?_⟩
  rcases px_st2_get L i v w j hj with ⟨h1, h2⟩ | ⟨h1, h2, h3, h4⟩
  · subst h1; subst h2
    exact h.2.2 _ List.mem_cons_self
  · refine h.2.2 (j, px_rv b0 sc w) (List.mem_cons_of_mem _ (List.mem_filter.mpr ⟨px_as_mem h3, ?_⟩))
    simp only [px_rv_cat, Bool.and_eq_true, Bool.not_eq_true', beq_eq_false_iff_ne, ne_eq, Bool.and_eq_false_iff]
    refine ⟨h1, h2, ?_⟩
    by_cases h5 : j + 1 = i
    · exact Or.inr (fun q => h4 ⟨h5, q⟩)
    · exact Or.inl h5
theorem px_ld_inv {L : px_L} {i : Nat} {ok : Value → Bool} {v : Value} (h : px_ld L i ok = some v) : L[i]? = some (some v) ∧ ok v = true := by
  unfold px_ld at h
  split at h
  · next w hw =>
    split at h
    · next hk => cases h; exact ⟨hw, hk⟩
    · cases h
  · cases h
theorem px_to_inv {pc pc' : Nat} {L L' : px_L} {h h' : px_H} {o : Option (List Value)} {S' : List Value} (q : px_to pc L h o = some (pc', L', S', h')) : o = some S' ∧ pc' = pc ∧ L' = L ∧ h' = h := by
  cases o with
  | none => simp [px_to] at q
  | some S => simp [px_to] at q; obtain ⟨rfl, rfl, rfl, rfl⟩ := q; exact ⟨rfl, rfl, rfl, rfl⟩
theorem px_toH_inv {pc pc' : Nat} {L L' : px_L} {h' : px_H} {o : Option (List Value × px_H)} {S' : List Value} (q : px_toH pc L o = some (pc', L', S', h')) : o = some (S', h') ∧ pc' = pc ∧ L' = L := by
  cases o with
  | none => simp [px_toH] at q
  | some S => obtain ⟨S, hh⟩ := S; simp [px_toH] at q; obtain ⟨rfl, rfl, rfl, rfl⟩ := q; exact ⟨rfl, rfl, rfl⟩
theorem px_ii_inv {f : Int32 → Int32 → Int32} {S S' : List Value} (h : px_ii f S = some S') : ∃ x y S0, S = .int y :: .int x :: S0 ∧ S' = .int (f x y) :: S0 := by
  unfold px_ii at h
  split at h
  · cases h; exact ⟨_, _, _, rfl, rfl⟩
  · cases h
theorem px_jj_inv {f : Int64 → Int64 → Int64} {S S' : List Value} (h : px_jj f S = some S') : ∃ x y S0, S = .long y :: .long x :: S0 ∧ S' = .long (f x y) :: S0 := by
  unfold px_jj at h
  split at h
  · cases h; exact ⟨_, _, _, rfl, rfl⟩
  · cases h
theorem px_ji_inv {f : Int64 → Int32 → Int64} {S S' : List Value} (h : px_ji f S = some S') : ∃ x y S0, S = .int y :: .long x :: S0 ∧ S' = .long (f x y) :: S0 := by
  unfold px_ji at h
  split at h
  · cases h; exact ⟨_, _, _, rfl, rfl⟩
  · cases h
theorem px_i1_inv {f : Int32 → Value} {S S' : List Value} (h : px_i1 f S = some S') : ∃ x S0, S = .int x :: S0 ∧ S' = f x :: S0 := by
  unfold px_i1 at h
  split at h
  · cases h; exact ⟨_, _, rfl, rfl⟩
  · cases h
theorem px_j1_inv {f : Int64 → Value} {S S' : List Value} (h : px_j1 f S = some S') : ∃ x S0, S = .long x :: S0 ∧ S' = f x :: S0 := by
  unfold px_j1 at h
  split at h
  · cases h; exact ⟨_, _, rfl, rfl⟩
  · cases h
/-! the String constants in the real heap -/
def px_Str (b0 : Nat) (sc : Nat → Nat) (s : State) : Prop :=
  (∃ adV : Nat → Nat, vk_S 11 px_sl px_sb (fun i => sc (i + 1)) adV (fun q => b0 ≤ q) s s.heap) ∧
  (va_Z "java/lang/String" "COMPACT_STRINGS" "Z" (.int 1) (fun q => b0 ≤ q) s s.heap ∧ va_Zq "jdk/internal/util/Preconditions" "SIOOBE_FORMATTER" "Ljava/util/function/BiFunction;" (fun q => b0 ≤ q) s s.heap) ∧
  ∀ (i : Nat) (q : String × Nat × String), px_txt[i]? = some q → vk_R q.1 q.2.1 q.2.2 (sc (i + 1)) s
theorem px_Str.moved {b0 : Nat} {sc : Nat → Nat} {s U : State} (h : px_Str b0 sc s) (hW : s.WarmedH U.vm) (hq : ∀ a : Nat, a < s.heap.size → ¬ b0 ≤ a → U.heap[a]? = s.heap[a]?) : px_Str b0 sc U := by
  obtain ⟨⟨adV, h1⟩, ⟨h2, h3⟩, h4⟩ := h
  exact ⟨⟨adV, (vk_S.moved hW.alike h1).kept hq⟩, ⟨(h2.moved hW.alike).kept hq, (h3.moved hW.alike).kept hq⟩, fun i q e => (h4 i q e).warm hW⟩
/-- a static field's place, in a cell below b0 -/
def px_LS (C n d : String) (b0 : Nat) (U : State) (H : Heap) : Prop := ∃ (c : ClassId) (k : Class) (i : Nat) (f : Field) (a : Nat) (cell : Cell), U.vm.findClass C = some c ∧ U.fieldFound? C n d = some (c, k, i, f) ∧ f.isStatic = true ∧ k.statics = some a ∧ H[a]? = some cell ∧ cell.vm.isStatics = true ∧ cell.cls = c ∧ f.slot < cell.slots.size ∧ k.staticTypes[f.slot]? = some f.type ∧ a < b0
theorem px_LS.moved {C n d : String} {b0 : Nat} {u U : State} {H : Heap} (hvm : u.vm.Alike U.vm) (h : px_LS C n d b0 u H) : px_LS C n d b0 U H := by
  obtain ⟨c, k, i, f, a, cell, h0, h1, h2, h3, h4, h5, h6, h7, h8, h9⟩ := h
  obtain ⟨k', hi', he⟩ := State.fieldFound?_setVm hvm h1
  exact ⟨c, k', i, f, a, cell, by rw [hvm.findClass]; exact h0, hi', h2, by rw [he]; exact h3, h4, h5, h6, h7, by rw [he]; exact h8, h9⟩
theorem px_LS.kept {C n d : String} {b0 : Nat} {U : State} {H H1 : Heap} (h : px_LS C n d b0 U H) (hq : ∀ a : Nat, a < H.size → ¬ b0 ≤ a → H1[a]? = H[a]?) : px_LS C n d b0 U H1 := by
  obtain ⟨c, k, i, f, a, cell, h0, h1, h2, h3, h4, h5, h6, h7, h8, h9⟩ := h
  exact ⟨c, k, i, f, a, cell, h0, h1, h2, h3, by rw [hq a (Array.getElem?_eq_some_iff.mp h4).1 (by omega)]; exact h4, h5, h6, h7, h8, h9⟩
theorem px_LS.of {C n d : String} {s : State} {args : Array Value} (h : (Jvm.Cond.laysStatic C n d).before args s = true) : px_LS C n d s.heap.size s s.heap := by
  obtain ⟨c, k, i, f, a, cell, hc, hi, hst, ha, hcell, hs, hcls, hlt, hty⟩ := Cond.laysStatic_spec h
  exact ⟨c, k, i, f, a, cell, hc, hi, hst, ha, hcell, hs, hcls, hlt, hty, (Array.getElem?_eq_some_iff.mp hcell).1⟩
theorem px_LS.use {C n d : String} {b0 : Nat} {s : State} {args : Array Value} (h : px_LS C n d b0 s s.heap) : (Jvm.Cond.laysStatic C n d).before args s = true := by
  obtain ⟨c, k, i, f, a, cell, h0, h1, h2, h3, h4, h5, h6, h7, h8, h9⟩ := h
  simp [Jvm.Cond.before, Jvm.Cond.holds, Jvm.Cond.value, h0, h1, h2, h3, h4, h5, h6, h7, h8]
