/-! FROM THE LAW'S ENTRY -/
def px_exc : List String := ["java/lang/IllegalArgumentException", "java/util/NoSuchElementException", "java/lang/IndexOutOfBoundsException", "java/lang/IllegalStateException", "java/lang/UnsupportedOperationException"]
theorem px_E0 : (px_exc.all fun x => px_has (.instantiable x 6) && px_has (.castable x x)) = true := by decide +kernel
theorem px_E1 : (px_exc.all fun x => px_exc.all fun y => decide (x = y) || (flatC (Jvm.Cond.and given_1 narrow_1)).any fun w => decide (w = .not (.castable x y))) = true := by decide +kernel
theorem px_E2 : ((flatC (Jvm.Cond.and given_1 narrow_1)).any fun w => decide (w = px_isU)) = true ∧ ((flatC (Jvm.Cond.and given_1 narrow_1)).any fun w => decide (w = px_isS)) = true := by decide +kernel
theorem px_E3 : (lw_tbl.any fun w => decide (w = px_lsU)) = true ∧ (lw_tbl.any fun w => decide (w = px_lsS)) = true ∧ px_has (.initialized "java/lang/Throwable") = true := by decide +kernel
theorem px_E4 : (px_cl.zipIdx.all fun q => decide (¬ (10 + q.2 ∈ px_tags)) || lw_tbl.any fun w => decide (w = .arrayOver (.object q.1.1))) = true := by decide +kernel
theorem px_any {l : List Jvm.Cond} {a : Jvm.Cond} (h : (l.any fun w => decide (w = a)) = true) : a ∈ l := by
  rw [List.any_eq_true] at h
  obtain ⟨w, hw, he⟩ := h
  rw [← of_decide_eq_true he]
  exact hw
theorem px_clx : ∀ (c : Nat) (q : vw_C), px_cl[c]? = some q → px_NC ≤ c → q.1 ∈ px_exc ∧ px_exc[c - px_NC]? = some q.1 := by
  intro c q hq hc
  have hl : c < 17 := (List.getElem?_eq_some_iff.mp hq).1
  have h12 : px_NC = 12 := rfl
  rw [h12] at hc ⊢
  have : c = 12 ∨ c = 13 ∨ c = 14 ∨ c = 15 ∨ c = 16 := by omega
  rcases this with rfl | rfl | rfl | rfl | rfl <;> cases hq <;> exact ⟨by decide, by decide⟩
/-- what holds at the law's entry -/
def px_At (p : Program) (s : State) (m : MethodId) (meth : Method) (c : Code) (b L : Nat) (xs : Nat → Int32) : Prop :=
  (p.tables.exec = Jvm.exec ∧ c.code = code ∧ meth.sig.returnType = ret ∧ c.maxLocals = 8 ∧ s.vm.findClass "ImageYardLaw" = some m.cls ∧ (∀ w ∈ lw_tbl, w.before #[Value.ref b] s = true) ∧ va_X b L xs s s.heap ∧ b < s.heap.size ∧ meth.locks = false ∧ (Jvm.Cond.and given_1 narrow_1).before #[Value.ref b] s = true) ∧
  meth.name = "law" ∧ c.exceptionTable.isEmpty = true
theorem px_classes {s : State} {args : Array Value} (hts : ∀ w ∈ px_Ts, w.before args s = true) : ∃ D : va_G, ∀ (c : Nat) (q : vw_C), px_cl[c]? = some q → u_Kn s q.1 q.2.1 q.2.2 (D.1 c) (D.2 c) := by
  have h : ∀ c : Nat, ∃ x : ClassId × (Nat → Nat), ∀ q : vw_C, px_cl[c]? = some q → u_Kn s q.1 q.2.1 q.2.2 x.1 x.2 := by
    intro c
    cases hq : px_cl[c]? with
    | none => exact ⟨(0, fun _ => 0), fun q h => by cases h⟩
    | some q =>
      obtain ⟨g1, -, -, g4⟩ := px_GoodC0 c q hq
      have hi : ∃ n, (Jvm.Cond.instantiable q.1 n).before args s = true := by
        by_cases hc : c < px_NC
        · exact ⟨_, hts _ (g4 hc).1⟩
        · obtain ⟨hx, -⟩ := px_clx c q hq (by omega)
          have h2 := List.all_eq_true.mp px_E0 _ hx
          rw [Bool.and_eq_true] at h2
          exact ⟨6, hts _ (px_has_mem h2.1)⟩
      obtain ⟨n, hi⟩ := hi
      obtain ⟨cC, iS, hk⟩ := u_known hts g1 hi
      exact ⟨(cC, iS), fun q' h => by cases h; exact hk⟩
  exact ⟨(fun c => (Classical.choose (h c)).1, fun c => (Classical.choose (h c)).2), fun c q hq => Classical.choose_spec (h c) q hq⟩
theorem px_arrs {s : State} {args : Array Value} (hts : ∀ w ∈ px_Ts, w.before args s = true) (hAO : ∀ (c : Nat) (q : vw_C), px_cl[c]? = some q → 10 + c ∈ px_tags → va_AO q.1 s) :
    ∃ cA : Nat → ClassId, ∀ t ∈ px_tags, ArrOfT s (cA t) (px_ty px_cl t) ∧ va_RA s (cA t) (px_ty px_cl t) := by
  have hA := px_A0
  simp only [Bool.and_eq_true] at hA
  have prim : ∀ {ty : FieldType}, (∀ C, ty ≠ .object C) → (Jvm.Cond.arrayClass ty).before args s = true → ∃ x : ClassId, ArrOfT s x ty ∧ va_RA s x ty := by
    intro ty hno h
    obtain ⟨x, k, comp, h1, h2, h3⟩ := Cond.arrayClass_spec h
    refine ⟨x, fun n z => ⟨fun k h => (by cases h), k, h2, comp, h3⟩, ?_⟩
    cases ty with
    | object C => exact absurd rfl (hno C)
    | _ => exact h1
  have h : ∀ t : Nat, ∃ x : ClassId, t ∈ px_tags → ArrOfT s x (px_ty px_cl t) ∧ va_RA s x (px_ty px_cl t) := by
    intro t
    by_cases ht : t ∈ px_tags
    · by_cases h10 : 10 ≤ t
      · rw [px_ty_obj h10]
        have hlt : t - 10 < px_cl.length := by
          have : t ∈ [0, 1, 2, 3, 12, 15, 17, 18] := ht
          have h17 : px_cl.length = 17 := rfl
          simp at this
          omega
        have hq := List.getElem?_eq_getElem hlt
        rw [hq]
        obtain ⟨comp, x, k, f1, -, f3, f4, f5⟩ := Cond.arrayOver_spec (args := #[]) (hAO (t - 10) _ hq (by rw [show 10 + (t - 10) = t by omega]; exact ht))
        exact ⟨x, fun _ => ⟨fun n z => ⟨fun k h => (by cases h), k, f3, comp, f4⟩, k, comp, f3, f4, f1, f5⟩⟩
      · have : t ∈ [0, 1, 2, 3, 12, 15, 17, 18] := ht
        simp at this
        have h4 : t = 0 ∨ t = 1 ∨ t = 2 ∨ t = 3 := by omega
        rcases h4 with rfl | rfl | rfl | rfl
        · obtain ⟨x, hx⟩ := prim (ty := .byte) (fun _ h => by cases h) (hts _ (px_chk_mem hA.1.1.1)); exact ⟨x, fun _ => hx⟩
        · obtain ⟨x, hx⟩ := prim (ty := .int) (fun _ h => by cases h) (hts _ (px_chk_mem hA.1.1.2)); exact ⟨x, fun _ => hx⟩
        · obtain ⟨x, hx⟩ := prim (ty := .long) (fun _ h => by cases h) (hts _ (px_chk_mem hA.1.2)); exact ⟨x, fun _ => hx⟩
        · obtain ⟨x, hx⟩ := prim (ty := .boolean) (fun _ h => by cases h) (hts _ (px_chk_mem hA.2)); exact ⟨x, fun _ => hx⟩
    · exact ⟨0, fun h => absurd h ht⟩
  exact ⟨fun t => Classical.choose (h t), fun t ht => Classical.choose_spec (h t) ht⟩
theorem px_start {p : Program} {e : Env} {s : State} {m : MethodId} {below : List Frame} {meth : Method} {c : Code} {l : Launch} {b L : Nat} {xs : Nat → Int32} (htr : e.platform.stackTraces = false) (C0 : px_At p s m meth c b L xs)
    {h' : px_H} (hrun : px_Ev px_G0 (L, xs) 277 0 (px_entry 8 [.retAddr 0]) [] (0, []) (.inl (some (.int 1))) h') :
    W p l e room_1 s m #[Value.ref b] below meth c s.heap [] 0 0 (fun t => ∃ o, t.status = .running ∧ Ended t below o ∧ o = .returned (some (.int 1)) ∧ Framed s o t [] 601024 7293034) (entryFrame m ([Value.ref b] : List Value).toArray 8) := by
  obtain ⟨⟨hx, hb, hr, hml, ho, hts0, hX, hbl, hlk, hgv⟩, hnm, hexc⟩ := C0
  have hts : ∀ w ∈ px_Ts, w.before #[Value.ref b] s = true := fun w hw => hts0 w (List.mem_filter.mp hw).1
  have hfl := flat_of_before _ hgv
  have hAO : ∀ (cn : Nat) (q : vw_C), px_cl[cn]? = some q → 10 + cn ∈ px_tags → va_AO q.1 s := by
    intro cn q hq ht
    have h1 := List.all_eq_true.mp px_E4 (q, cn) (List.mem_of_getElem? (i := cn) (by simp [hq]))
    rw [Bool.or_eq_true] at h1
    rcases h1 with h1 | h1
    · exact absurd ht (of_decide_eq_true h1)
    · exact va_AO.of (hts0 _ (px_any h1))
  obtain ⟨D, hD⟩ := px_classes hts
  obtain ⟨cA, hcA⟩ := px_arrs hts hAO
  have hK : va_K D px_cl (px_tys px_cl cA) s := by
    refine ⟨hD, fun k q hq => ?_⟩
    obtain ⟨t, ht, rfl⟩ := List.mem_map.mp (List.mem_of_getElem? hq)
    exact hcA t ht
  have hno : ∀ a : Nat, a < s.heap.size → ¬ s.heap.size ≤ a := fun a h => by omega
  have hini := hts _ (px_has_mem px_E3.2.2)
  have hAs : ∀ c1 c2, px_NC ≤ c1 → px_NC ≤ c2 → c1 < px_cl.length → c2 < px_cl.length → s.vm.assignable (D.1 c1) (D.1 c2) = decide (c1 = c2) := by
    intro c1 c2 n1 n2 l1 l2
    have q1 := List.getElem?_eq_getElem l1
    have q2 := List.getElem?_eq_getElem l2
    obtain ⟨m1, i1⟩ := px_clx _ _ q1 n1
    obtain ⟨m2, i2⟩ := px_clx _ _ q2 n2
    have f1 := (hD _ _ q1).2.1
    have f2 := (hD _ _ q2).2.1
    by_cases hc : c1 = c2
    · subst hc
      have h1 := List.all_eq_true.mp px_E0 _ m1
      rw [Bool.and_eq_true] at h1
      obtain ⟨x, y, g1, g2, g3⟩ := Cond.castable_spec (hts _ (px_has_mem h1.2))
      cases f1.symm.trans g1
      cases f1.symm.trans g2
      simpa using g3
    · have hne : px_cl[c1].1 ≠ px_cl[c2].1 := by
        intro hq
        rw [hq] at i1
        have hnd : px_exc.Nodup := by decide
        have h5 := List.getElem?_inj (i := c1 - px_NC) (j := c2 - px_NC) (List.getElem?_eq_some_iff.mp i1).1 hnd |>.mp (i1.trans i2.symm)
        omega
      have h1 := List.all_eq_true.mp (List.all_eq_true.mp px_E1 _ m1) _ m2
      rw [Bool.or_eq_true] at h1
      rcases h1 with h1 | h1
      · exact absurd (of_decide_eq_true h1) hne
      · have h2 := Cond.holds_not_iff.mp (hfl _ (px_any h1))
        simp only [Jvm.Cond.value, f1, f2] at h2
        rw [Option.some.inj h2]
        exact (decide_eq_false hc).symm
  have hm : px_Gm px_G0 277 = some pg_m277 := rfl
  obtain ⟨ad, hStr⟩ := px_StrAt b hts0 hfl
  obtain ⟨n, hn⟩ := hrun
  have sim := px_sound (p := p) (l := l) (e := e) (sx := (L, xs)) (D := D) (cA := cA) (b0 := s.heap.size) (sc := px_sc b ad) px_TsOk0 px_GoodC0 px_GoodAll0 htr n 277 pg_m277 0 (px_entry 8 [.retAddr 0]) [] (0, []) _ h' (fun c hc => by cases hc) hm hn
  have act : px_Act p s m #[Value.ref b] meth c pg_m277 (L, xs) D px_cl cA s.heap.size (px_sc b ad) px_Ts (0, []) := by
    refine ⟨⟨hx, hb, hml, ho, hts⟩, ⟨hr, hlk, hnm, ?_⟩, ⟨hK, hX, hbl, rfl, fun k q hq => ?_, hStr⟩, ⟨va_Zqof (hts0 _ (px_any px_E3.1)) hini (hfl _ (px_any px_E2.1)) hno, va_Zqof (hts0 _ (px_any px_E3.2.1)) hini (hfl _ (px_any px_E2.2)) hno, hAs⟩, hAO, px_LS.of (hts0 _ (px_any px_E3.1)), px_LS.of (hts0 _ (px_any px_E3.2.1))⟩
    · have : c.exceptionTable.toList = [] := by simpa [Array.isEmpty_iff] using hexc
      rw [this]; rfl
    · simp [px_ws] at hq
  have hloc := px_entry_loc s.heap.size (px_sc b ad) [.retAddr 0] (n := 8) (by decide)
  have hw := sim (0, []) s m #[Value.ref b] below meth c act (by decide) ⟨Nat.le_refl _, Nat.zero_le _⟩ ⟨Nat.le_refl _, Nat.zero_le _⟩ s.heap [] _ rfl (fun k q hq => by simp [px_ws] at hq) va_S.rf hloc
  have hE := lg_entry_eq m [Value.ref b] 8
  rw [hE]
  intro T hT X
  obtain ⟨t, st, oc, hrun, hend, hW, ⟨Lc, hsame, hL⟩, hl1, hl2, -, -, -, hoc⟩ := hw T hT X
  refine ⟨t, st, oc, hrun, hend, hoc, ⟨_, hoc⟩, hW, hsame.weaken (fun x hx hlt => ?_) hl1.2 hl2.2⟩
  exact absurd hlt (Nat.not_lt.mpr (hL x hx))
