/-! CALLS -/
/-- what the tables say of a callee -/
def px_GoodY (Ts : List Jvm.Cond) (M' : px_M) : Prop :=
  (px_Mm M').cls = px_Mn M' ∧ ((px_Mm M').cls ≠ "java/lang/invoke/MethodHandle" ∧ (px_Mm M').cls ≠ "java/lang/invoke/VarHandle") ∧ plainFor (px_Mm M') = true ∧
  ((px_Mh M' = [] ∧ Jvm.Cond.code (px_Mm M') (px_Mb M') (px_Ml M') (px_Mr M') ∈ Ts) ∨ Jvm.Cond.codeWith (px_Mm M') (px_Mb M') (px_Ml M') (px_Mr M') ((px_Mh M').map (fun q => (q.1, q.2.1, q.2.2.1, q.2.2.2.1))) ∈ Ts)
/-- what the tables say of a call -/
def px_GoodK (cl : List vw_C) (Ts : List Jvm.Cond) (M M' : px_M) (kd idx : Nat) : Prop :=
  px_GoodY Ts M' ∧ Jvm.Cond.methodLink (px_Mn M) idx (px_Mm M') ∈ Ts ∧
  (kd = 0 → Jvm.Cond.static (px_Mm M') ∈ Ts ∧ Jvm.Cond.initialized (px_Mm M').cls ∈ Ts ∧ (parseMethodDescriptor (px_Mm M').desc).map (fun d => d.parameters.length) = some (px_Ma M')) ∧
  (kd ≠ 0 → Jvm.Cond.instanceMethod (px_Mm M') ∈ Ts ∧ (parseMethodDescriptor (px_Mm M').desc).map (fun d => d.parameters.length + 1) = some (px_Ma M')) ∧
  (kd = 1 → Jvm.Cond.selects (px_Mn M') (px_Mm M') (px_Mm M') ∈ Ts ∧ ∃ q : vw_C, cl[px_Mo M']? = some q ∧ q.1 = px_Mn M') ∧
  (kd = 2 → (px_Mm M').name = "<init>" ∧ px_Mr M' = none ∧ px_Mh M' = [] ∧ Jvm.Cond.code (px_Mm M') (px_Mb M') (px_Ml M') (px_Mr M') ∈ Ts)
theorem px_facts {Ts : List Jvm.Cond} {M' : px_M} (g : px_GoodY Ts M') {args : Array Value} {s : State} (hts : ∀ w ∈ Ts, w.before args s = true) :
    ∃ mk methM cM, s.methodNamed? (px_Mm M') = some mk ∧ s.vm.method? mk = some methM ∧ methM.code = some cM ∧ cM.code = px_Mb M' ∧ cM.maxLocals = px_Ml M' ∧ methM.sig.returnType = px_Mr M' ∧ methM.locks = false ∧
      cM.exceptionTable.toList.map (fun h => (h.startPc, h.endPc, h.handlerPc, h.catchType)) = (px_Mh M').map (fun q => (q.1, q.2.1, q.2.2.1, q.2.2.2.1)) ∧ parseMethodDescriptor (px_Mm M').desc = some methM.sig := by
  obtain ⟨-, -, -, h | h⟩ := g
  · obtain ⟨h0, h⟩ := h
    have hc := hts _ h
    obtain ⟨mk, hn⟩ := Cond.code_named hc
    obtain ⟨meth, c, h1, h2, h3, h4, h5, h6, h7, h8⟩ := Cond.code_spec hn hc
    refine ⟨mk, meth, c, hn, h1, h2, h3, h4, h5, h6, ?_, h8⟩
    rw [h0]
    have : c.exceptionTable.toList = [] := by simpa [Array.isEmpty_iff] using h7
    rw [this]; rfl
  · obtain ⟨mk, meth, c, h1, h2, h3, h4, h5, h6, h7, h8, h9⟩ := Cond.codeWith_spec (hts _ h)
    exact ⟨mk, meth, c, h1, h2, h3, h4, h5, h7, h8, h6, h9⟩
theorem px_under {tb : Tables} {e : Env} {g : Frame} {below : List Frame} {s t : State} (h : Steps tb e (g :: below) s t) : Steps tb e below s t := by
  obtain ⟨n, h1, h2⟩ := h
  exact ⟨n, h1, fun k hk => Within.weaken (mid := [g]) (h2 k hk)⟩
theorem px_ent_len (as : List Value) (b0 : Nat) (sc : Nat → Nat) : (lg_sl (as.map (px_rv b0 sc))).length = (px_ent as).length := by
  induction as with
  | nil => rfl
  | cons v t ih =>
    have hc := px_rv_cat b0 sc v
    simp only [lg_sl, List.map_cons, List.flatMap_cons, List.length_append] at ih ⊢
    rw [hc, ih]
    by_cases h2 : v.category = 2
    · simp [px_ent, h2]; omega
    · simp [px_ent, h2]; omega
theorem px_ent_at (b0 : Nat) (sc : Nat → Nat) (as : List Value) : ∀ (o i : Nat) (v : Value), (px_ent as)[i]? = some (some v) → (o + i, px_rv b0 sc v) ∈ lv_args o (as.map (px_rv b0 sc)) := by
  induction as with
  | nil => intro o i v h; simp [px_ent] at h
  | cons w t ih =>
    intro o i v h
    simp only [List.map_cons, lv_args, px_rv_cat]
    unfold px_ent at h
    split at h
    · next hc =>
      rw [if_pos hc]
      rcases i with _ | _ | i
      · simp at h; subst h; exact List.mem_cons_self
      · simp at h
      · simp only [List.getElem?_cons_succ] at h
        have := ih (o + 2) i v h
        rw [show o + 2 + i = o + (i + 1 + 1) by omega] at this
        exact List.mem_cons_of_mem _ this
    · next hc =>
      rw [if_neg hc]
      rcases i with _ | i
      · simp at h; subst h; exact List.mem_cons_self
      · simp only [List.getElem?_cons_succ] at h
        have := ih (o + 1) i v h
        rw [show o + 1 + i = o + (i + 1) by omega] at this
        exact List.mem_cons_of_mem _ this
theorem px_entry_loc (b0 : Nat) (sc : Nat → Nat) (as : List Value) {n : Nat} (hn : (px_ent as).length ≤ n) :
    px_loc b0 sc ((lg_sl (as.map (px_rv b0 sc)) ++ List.replicate (n - (lg_sl (as.map (px_rv b0 sc))).length) Slot.unset).toArray) (px_entry n as) := by
  have h := lv_entry (as.map (px_rv b0 sc)) (n := n) (by rw [px_ent_len]; exact hn)
  refine ⟨h.1.trans (by simp [px_entry]; omega), h.2.1, fun i v hi => ?_⟩
  have hi' : (px_ent as)[i]? = some (some v) := by
    unfold px_entry at hi
    by_cases hl : i < (px_ent as).length
    · rwa [List.getElem?_append_left hl] at hi
    · rw [List.getElem?_append_right (by omega), List.getElem?_replicate] at hi
      split at hi <;> simp at hi
  have := px_ent_at b0 sc as 0 i v hi'
  rw [Nat.zero_add] at this
  exact h.2.2 _ this
section PXC
variable {p : Program} {l : Launch} {e : Env} {R : Room} {s : State} {m : MethodId} {args : Array Value} {below : List Frame} {meth : Method} {c : Code} {Q : State → Prop}
variable {G : px_G} {sx : Nat × (Nat → Int32)} {M : px_M} {D : va_G} {cl : List vw_C} {cA : Nat → ClassId} {b0 : Nat} {sc : Nat → Nat} {Ts : List Jvm.Cond} {h0 : px_H}
variable {pc : Nat} {L : px_L} {S : List Value} {h : px_H}
/-- the room of a method that begins at the heap h -/
def px_room (M : px_M) (h : px_H) : Room := { frames := px_Mf M, cells := px_CT - h.2.length, slots := px_ST - h.1, locals := px_Mw M }
/-- what a run of a method says of the machine -/
def px_Sim (p : Program) (l : Launch) (e : Env) (sx : Nat × (Nat → Int32)) (D : va_G) (cl : List vw_C) (cA : Nat → ClassId) (b0 : Nat) (sc : Nat → Nat) (Ts : List Jvm.Cond) (M : px_M) (pc : Nat) (L : px_L) (S : List Value) (h : px_H) (o : px_O) (h' : px_H) : Prop :=
  ∀ (h0 : px_H) (s : State) (m : MethodId) (args : Array Value) (below : List Frame) (meth : Method) (c : Code), px_Act p s m args meth c M sx D cl cA b0 sc Ts h0 → L.length = px_Ml M →
    px_W p l e (px_room M h0) s m args below meth c (px_End below s D cl cA b0 sc h0 o h') D cl cA b0 sc h0 pc L S h
/-- into the callee and through it: what has come of it -/
theorem px_through (A : px_Act p s m args meth c M sx D cl cA b0 sc Ts h0) (hok : px_TsOk Ts) {M' : px_M} (gy : px_GoodY Ts M') {as rest : List Value} {o : px_O} {h1 : px_H} (hfit : px_fitM M M' (px_wt rest) = true) (hent : (px_ent as).length ≤ px_Ml M')
    (sim : px_Sim p l e sx D cl cA b0 sc Ts M' 0 (px_entry (px_Ml M') as) [] h o h1) (a : h0.2.length ≤ h.2.length ∧ h.2.length ≤ px_CT) (b : h0.1 ≤ h.1 ∧ h.1 ≤ px_ST)
    {H : Heap} {locs : List Loc} {ls : Array Slot} (z : H.size = b0 + h.2.length) (P : va_P D cl (px_ws cA b0 sc h.2) H) (hS : va_S (fun q => b0 ≤ q) s.heap H locs) (hl : px_loc b0 sc ls L) (hLl : L.length = px_Ml M)
    {T : State} (hT : T.heap = H) (X : Stand p l e (px_room M h0) s m args below meth c T locs (h.2.length - h0.2.length) (h.1 - h0.1)) {mk : MethodId} (hn : s.methodNamed? (px_Mm M') = some mk) {i : Instr} {len : Nat} (hd : decode (px_Mb M) pc = .ok (i, len)) :
    ∃ t : State, Steps p.tables e below (doInvoke e (T.setTop (F0 m pc ls (rest.map (px_rv b0 sc)))) [] mk (as.map (px_rv b0 sc)).toArray).1 t ∧
      px_End (.java (F0 m pc ls (rest.map (px_rv b0 sc))) :: below) (T.calling (F0 m pc ls (rest.map (px_rv b0 sc))) mk (as.map (px_rv b0 sc)).toArray) D cl cA b0 sc h o h1 t := by
  obtain ⟨⟨hx, hb, hml, ho, hts⟩, -, ⟨hK, hX, hsc, hz, -, hStr⟩, ⟨hZU, hZS, hAs⟩, hAO, hLU, hLS⟩ := A
  obtain ⟨mk', methM, cM, hn', hmM, hcM, hbM, hlM, hrM, hkM, heM, hsig⟩ := px_facts gy hts
  cases hn.symm.trans hn'
  have hal : s.vm.Alike T.vm := X.warmed.alike
  have hmT : T.vm.method? mk = some methM := by rw [hal.method?]; exact hmM
  have hnT : T.methodNamed? (px_Mm M') = some mk := X.named hn
  have hpl : T.plainMethod mk := State.plainMethod.of_named gy.2.2.1 hnT hmT
  obtain ⟨hf1, hf2⟩ := of_decide_eq_true hfit
  have hwr : ((rest.map (px_rv b0 sc)).map fun v => v.category).sum = px_wt rest := by
    unfold px_wt
    rw [List.map_map]
    congr 1
    exact List.map_congr_left fun v _ => px_rv_cat b0 sc v
  obtain ⟨Y, hdo⟩ := X.into (g := F0 m pc ls (rest.map (px_rv b0 sc))) rfl (hl.1.trans (hLl.trans hml.symm)) (by rw [hb]; exact hd) (as.map (px_rv b0 sc)).toArray (R' := px_room M' h) hmT hcM hkM hpl hf1
    (by
      show 2 * 0 + ((rest.map (px_rv b0 sc)).map fun v => v.category).sum + (cM.maxLocals + 11) + px_Mw M' ≤ px_Mw M
      rw [hwr, hlM]; omega)
    (by show h.2.length - h0.2.length + (px_CT - h.2.length) ≤ px_CT - h0.2.length; omega) (by show h.1 - h0.1 + (px_ST - h.1) ≤ px_ST - h0.1; omega)
  have hold : ∀ q : Nat, q < s.heap.size → ¬ b0 ≤ q → T.heap[q]? = s.heap[q]? := fun q h1 h2 => by rw [hT]; exact hS.2.1 q h1 h2
  have hWc : s.WarmedH (T.calling (F0 m pc ls (rest.map (px_rv b0 sc))) mk (as.map (px_rv b0 sc)).toArray).vm := X.warmed
  have hnm := name_of_methodNamed hn hmM
  have act : px_Act p (T.calling (F0 m pc ls (rest.map (px_rv b0 sc))) mk (as.map (px_rv b0 sc)).toArray) mk (as.map (px_rv b0 sc)).toArray methM cM M' sx D cl cA b0 sc Ts h := by
    refine ⟨⟨hx, hbM, hlM, ?_, px_words hok hts hWc _⟩, ⟨hrM, hkM, hnm.1, heM⟩, ⟨hK.moved hWc.alike, ?_, hsc, by show T.heap.size = _; rw [hT]; exact z, by show va_P D cl _ T.heap; rw [hT]; exact P, hStr.moved hWc hold⟩, ⟨(hZU.moved hWc.alike).kept hold, (hZS.moved hWc.alike).kept hold, fun c1 c2 q1 q2 q3 q4 => by rw [hWc.alike.assignable]; exact hAs c1 c2 q1 q2 q3 q4⟩, fun cc q h1 h2 => (hAO cc q h1 h2).moved hWc.alike, (hLU.moved hWc.alike).kept hold, (hLS.moved hWc.alike).kept hold⟩
    · rw [hWc.alike.findClass, ← gy.1]; exact findClass_of_methodNamed hn
    · exact (hX.moved hWc.alike).kept (hold (sc 0) (by omega) (by omega))
  have hloc := px_entry_loc b0 sc as hent
  have hw := sim h (T.calling (F0 m pc ls (rest.map (px_rv b0 sc))) mk (as.map (px_rv b0 sc)).toArray) mk (as.map (px_rv b0 sc)).toArray (.java (F0 m pc ls (rest.map (px_rv b0 sc))) :: below) methM cM act (by simp [px_entry]; omega)
    ⟨Nat.le_refl _, a.2⟩ ⟨Nat.le_refl _, b.2⟩ H [] _ z P (by
      have : va_S (fun q => b0 ≤ q) H H [] := va_S.rf
      show va_S (fun q => b0 ≤ q) T.heap H []
      rw [hT]; exact this) hloc
  rw [Nat.sub_self, Nat.sub_self, List.map_nil, ← lg_entry_eq mk (as.map (px_rv b0 sc)) (px_Ml M'), ← hlM] at hw
  obtain ⟨t, st, hE⟩ := hw ((T.setTop (F0 m pc ls (rest.map (px_rv b0 sc)))).pushFrame (.java (entryFrame mk (as.map (px_rv b0 sc)).toArray cM.maxLocals))) hT Y
  refine ⟨t, ?_, hE⟩
  rw [hdo]
  exact px_under st
end PXC
