/-! BEHIND A CALL: RETURNED, PASSED ON, CAUGHT -/
section PXF
variable {p : Program} {l : Launch} {e : Env} {R : Room} {s : State} {m : MethodId} {args : Array Value} {below : List Frame} {meth : Method} {c : Code} {Q : State → Prop}
variable {G : px_G} {sx : Nat × (Nat → Int32)} {M : px_M} {D : va_G} {cl : List vw_C} {cA : Nat → ClassId} {b0 : Nat} {sc : Nat → Nat} {Ts : List Jvm.Cond} {h0 : px_H}
variable {pc : Nat} {L : px_L} {S : List Value} {h h1 : px_H} {H : Heap} {locs Lc : List Loc} {ls : Array Slot} {T : State}
theorem px_S_after (hS : va_S (fun q => b0 ≤ q) s.heap H locs) (hz : s.heap.size = b0 + h0.2.length) (hl1 : h0.2.length ≤ h1.2.length) {H1 : Heap} (hz1 : H1.size = b0 + h1.2.length) (hold : ∀ q : Nat, q < b0 → H1[q]? = H[q]?) (hL : ∀ q ∈ Lc, b0 ≤ q.base) : va_S (fun q => b0 ≤ q) s.heap H1 (locs ++ Lc) := by
  refine ⟨by omega, fun q h2 h3 => ?_, fun q hq => ?_⟩
  · rw [hold q (by omega)]; exact hS.2.1 q h2 h3
  · rcases List.mem_append.mp hq with h4 | h4
    · exact hS.2.2 q h4
    · exact hL q h4
theorem px_returned {v : Option Value} {rest : List Value} {mk : MethodId} {aa : Array Value} {t : State} (hz : s.heap.size = b0 + h0.2.length) (a : h0.2.length ≤ h.2.length ∧ h.2.length ≤ px_CT) (b : h0.1 ≤ h.1 ∧ h.1 ≤ px_ST) (hS : va_S (fun q => b0 ≤ q) s.heap H locs) (hl : px_loc b0 sc ls L) (hT : T.heap = H)
    (X : Stand p l e R s m args below meth c T locs (h.2.length - h0.2.length) (h.1 - h0.1)) {i : Instr} (hd : decode c.code pc = .ok (i, 3))
    (hE : px_End (.java (F0 m pc ls (rest.map (px_rv b0 sc))) :: below) (T.calling (F0 m pc ls (rest.map (px_rv b0 sc))) mk aa) D cl cA b0 sc h (.inl v) h1 t)
    (k : px_W p l e R s m args below meth c Q D cl cA b0 sc h0 (pc + 3) L (v.toList ++ rest) h1) : ∃ t2, Steps p.tables e below t t2 ∧ Q t2 := by
  obtain ⟨oc, hrun, hend, hW, ⟨Lc, hsame, hL⟩, hl1, hl2, hz1, P1, hold1, hoc⟩ := hE
  subst hoc
  obtain ⟨T', X', hWT, hsm, ht⟩ := X.outOf (g := F0 m pc ls (rest.map (px_rv b0 sc))) rfl hd hend hW hsame
  have hh : T'.heap = t.heap := by rw [ht]; rfl
  rw [show h.2.length - h0.2.length + (h1.2.length - h.2.length) = h1.2.length - h0.2.length by omega, show h.1 - h0.1 + (h1.1 - h.1) = h1.1 - h0.1 by omega] at X'
  have hold2 : ∀ q : Nat, q < b0 → t.heap[q]? = H[q]? := fun q hq => by rw [hold1 q hq]; show T.heap[q]? = _; rw [hT]
  obtain ⟨t2, st, hq⟩ := k (by omega) (by omega) T'.heap (locs ++ Lc) ls (by rw [hh]; exact hz1) (by rw [hh]; exact P1) (by rw [hh]; exact px_S_after hS hz (by omega) hz1 hold2 hL) hl T' rfl X'
  refine ⟨t2, ?_, hq⟩
  rw [ht]
  have hst : (v.toList ++ rest).map (px_rv b0 sc) = (v.map (px_rv b0 sc)).toList ++ rest.map (px_rv b0 sc) := by cases v <;> rfl
  rw [hst] at st
  exact st
theorem px_passed {r : Nat} {rest : List Value} {mk : MethodId} {aa : Array Value} {t : State} (hz : s.heap.size = b0 + h0.2.length) (a : h0.2.length ≤ h.2.length ∧ h.2.length ≤ px_CT) (b : h0.1 ≤ h.1 ∧ h.1 ≤ px_ST) (hS : va_S (fun q => b0 ≤ q) s.heap H locs) (hT : T.heap = H)
    (X : Stand p l e R s m args below meth c T locs (h.2.length - h0.2.length) (h.1 - h0.1)) (hout : ∀ x ∈ c.exceptionTable.toList, covers x pc = false) (hlk : meth.locks = false)
    (hE : px_End (.java (F0 m pc ls (rest.map (px_rv b0 sc))) :: below) (T.calling (F0 m pc ls (rest.map (px_rv b0 sc))) mk aa) D cl cA b0 sc h (.inr r) h1 t) : ∃ t2, Steps p.tables e below t t2 ∧ px_End below s D cl cA b0 sc h0 (.inr r) h1 t2 := by
  obtain ⟨oc, hrun, hend, hW, ⟨Lc, hsame, hL⟩, hl1, hl2, hz1, P1, hold1, hoc, hcn⟩ := hE
  subst hoc
  obtain ⟨T', X', hWT, hsm, ht⟩ := X.outOfThrown (g := F0 m pc ls (rest.map (px_rv b0 sc))) rfl hend hW hsame
  have hh : T'.heap = t.heap := by rw [ht]; rfl
  rw [show h.2.length - h0.2.length + (h1.2.length - h.2.length) = h1.2.length - h0.2.length by omega, show h.1 - h0.1 + (h1.1 - h.1) = h1.1 - h0.1 by omega] at X'
  have hold2 : ∀ q : Nat, q < b0 → t.heap[q]? = H[q]? := fun q hq => by rw [hold1 q hq]; show T.heap[q]? = _; rw [hT]
  obtain ⟨st, hrun2, hend2, hW2, hsame2⟩ := X'.leaveThrown (b0 + r) (g := F0 m pc ls (rest.map (px_rv b0 sc))) rfl rfl rfl hout hlk
  refine ⟨_, by rw [ht]; exact st, .threw (b0 + r), hrun2, hend2, hW2, ⟨locs ++ Lc, hsame2, fun q hq => ?_⟩, by omega, by omega, by show T'.heap.size = _; rw [hh]; exact hz1, by show va_P D cl _ T'.heap; rw [hh]; exact P1, fun q hq => ?_, rfl, hcn⟩
  · rcases List.mem_append.mp hq with h4 | h4
    · exact hS.2.2 q h4
    · exact hL q h4
  · show T'.heap[q]? = _
    rw [hh, hold2 q hq]
    exact hS.2.1 q (by omega) (by simp only; omega)
/-- one row of the table whose class is linked, cold or warm -/
theorem px_goRow {f : JFrame} {ad : Addr} {x : ExceptionTableEntry} {t : List ExceptionTableEntry} {ci : ClassId} {cell : Cell} {U : State} (hx : covers x f.pc = true) (hne : x.catchType ≠ 0) (hl : U.vm.ClassLinks e.platform f.method.cls x.catchType ci)
    (hcell : U.heap[ad]? = some cell) (hobj : ∀ k, cell.vm ≠ .statics k) (hk : ∃ k, U.vm.classes[cell.cls]? = some k) (hc : ∃ k, U.vm.classes[ci]? = some k) {Qh : Handler → Pre} {Eh : CtlPost} {d : Bool} {acts : List Action} :
    wp (findHandler.go f ad (x :: t)) Qh Eh e d acts U ↔ if U.vm.assignable cell.cls ci = true then Qh (.found x.handlerPc) d acts (U.setVm (U.vm.noted f.method.cls x.catchType (.cls ci))) else wp (findHandler.go f ad t) Qh Eh e d acts (U.setVm (U.vm.noted f.method.cls x.catchType (.cls ci))) := by
  simp only [covers] at hx
  have hal : U.vm.Alike (U.vm.noted f.method.cls x.catchType (.cls ci)) := (Vm.Alike.refl U.vm).noted _ _ _
  obtain ⟨k1, hk1⟩ := hk
  obtain ⟨k2, hk2⟩ := hc
  obtain ⟨k1', hk1', -⟩ := hal.2.2 _ _ hk1
  obtain ⟨k2', hk2', -⟩ := hal.2.2 _ _ hk2
  obtain ⟨ha, hr⟩ := (resolveClass_links e.toSetting hl).op (op := VmOp.resolveClass f.method.cls x.catchType) rfl
  have has := hal.assignable (s := cell.cls) (t := ci)
  cases hv : U.vm.assignable cell.cls ci <;> rw [hv] at has <;> simp [findHandler.go, hx, hne, ha, hr, hcell, hobj, hk1', hk2', has, VmOp.dirties, VmOp.acts]
/-- what the tables say of a method's handlers -/
def px_GoodH (cl : List vw_C) (Ts : List Jvm.Cond) (M : px_M) : Prop := ∀ q ∈ px_Mh M, q.2.2.2.1 ≠ 0 ∧ px_NC ≤ q.2.2.2.2 ∧ ∃ r : vw_C, cl[q.2.2.2.2]? = some r ∧ Jvm.Cond.classLink (px_Mn M) q.2.2.2.1 r.1 ∈ Ts
theorem px_search {f : JFrame} {ad : Addr} {cell : Cell} {cn : Nat} {own : String} (hpl : e.platform.magicAccessors = ({} : Platform).magicAccessors) (hown : s.vm.findClass own = some f.method.cls) (hts : ∀ w ∈ Ts, w.before args s = true) (hK : va_K D cl (px_tys cl cA) s)
    (hAs : ∀ c1 c2, px_NC ≤ c1 → px_NC ≤ c2 → c1 < cl.length → c2 < cl.length → s.vm.assignable (D.1 c1) (D.1 c2) = decide (c1 = c2))
    (hcn : px_NC ≤ cn) (hcnl : cn < cl.length) (hcls : cell.cls = D.1 cn) (hobj : ∀ k, cell.vm ≠ .statics k) (hk0 : ∃ k, s.vm.classes[cell.cls]? = some k) :
    ∀ (hs : List px_Hd) (xs : List ExceptionTableEntry) (U : State) (hp : Nat), xs.map (fun h => (h.startPc, h.endPc, h.handlerPc, h.catchType)) = hs.map (fun q => (q.1, q.2.1, q.2.2.1, q.2.2.2.1)) →
      (∀ q ∈ hs, q.2.2.2.1 ≠ 0 ∧ px_NC ≤ q.2.2.2.2 ∧ ∃ r : vw_C, cl[q.2.2.2.2]? = some r ∧ Jvm.Cond.classLink own q.2.2.2.1 r.1 ∈ Ts) → s.WarmedH U.vm → U.heap[ad]? = some cell → px_hand hs f.pc cn = some hp →
      ∃ vm', s.WarmedH vm' ∧ ∀ (Qh : Handler → Pre) (Eh : CtlPost) (d : Bool) (acts : List Action), wp (findHandler.go f ad xs) Qh Eh e d acts U ↔ Qh (.found hp) d acts (U.setVm vm') := by
  obtain ⟨k0, hk0⟩ := hk0
  intro hs
  induction hs with
  | nil => intro xs U hp _ _ _ _ hh; simp [px_hand] at hh
  | cons q hs ih =>
    intro xs U hp hmap hgood hW hcell hh
    cases xs with
    | nil => simp at hmap
    | cons x xs =>
      simp only [List.map_cons, List.cons.injEq, Prod.mk.injEq] at hmap
      obtain ⟨⟨e1, e2, e3, e4⟩, hmap⟩ := hmap
      obtain ⟨hne, hqc, r, hr, hlink⟩ := hgood q List.mem_cons_self
      have hgood' := fun y hy => hgood y (List.mem_cons_of_mem _ hy)
      obtain ⟨k0', hk0', -⟩ := hW.alike.2.2 _ _ hk0
      by_cases hcov : covers x f.pc = true
      · have hcov' : decide (q.1 ≤ f.pc) = true ∧ decide (f.pc < q.2.1) = true := by rw [← e1, ← e2]; simpa [covers] using hcov
        obtain ⟨ci, hci, hcl⟩ := Cond.classLink_spec hown (hts _ hlink) e.platform hpl
        have hcD : ci = D.1 q.2.2.2.2 := Option.some.inj (hci.symm.trans (hK.1 _ _ hr).2.1)
        obtain ⟨dk, _, _, kt, hd, _, _, _, _, hkt, _, hopen⟩ := hcl.here
        obtain ⟨kt', hkt', -⟩ := hW.alike.2.2 _ _ hkt
        rw [← e4] at hcl hopen hne
        have hrow := fun (Qh : Handler → Pre) (Eh : CtlPost) (d : Bool) (acts : List Action) => px_goRow (e := e) (f := f) (ad := ad) (x := x) (t := xs) (ci := ci) (cell := cell) (U := U) hcov hne (hW.classLinks hcl) hcell hobj ⟨k0', hk0'⟩ ⟨kt', hkt'⟩ (Qh := Qh) (Eh := Eh) (d := d) (acts := acts)
        have hasg : U.vm.assignable cell.cls ci = decide (cn = q.2.2.2.2) := by
          rw [hW.alike.assignable, hcls, hcD]
          exact hAs _ _ hcn hqc hcnl (List.getElem?_eq_some_iff.mp hr).1
        have hW2 : s.WarmedH (U.vm.noted f.method.cls x.catchType (.cls ci)) := hW.noted hd hopen (State.rightAt_cls hcl)
        by_cases hc : cn = q.2.2.2.2
        · refine ⟨_, hW2, fun Qh Eh d acts => ?_⟩
          rw [hrow, hasg, if_pos (by simpa using hc)]
          have hhp : hp = x.handlerPc := by
            unfold px_hand at hh
            rw [List.find?_cons_of_pos (by simp [hcov'.1, hcov'.2, hc])] at hh
            rw [e3]; exact (Option.some.inj hh).symm
          rw [hhp]
        · have hh' : px_hand hs f.pc cn = some hp := by
            unfold px_hand at hh ⊢
            rwa [List.find?_cons_of_neg (by simp; intro _ _ h3; exact hc h3.symm)] at hh
          obtain ⟨vm', hW', hq⟩ := ih xs (U.setVm (U.vm.noted f.method.cls x.catchType (.cls ci))) hp hmap hgood' hW2 hcell hh'
          refine ⟨vm', hW', fun Qh Eh d acts => ?_⟩
          rw [hrow, hasg, if_neg (by simpa using hc)]
          exact hq Qh Eh d acts
      · have hh' : px_hand hs f.pc cn = some hp := by
          unfold px_hand at hh ⊢
          rwa [List.find?_cons_of_neg (by
            intro hn
            apply hcov
            simp only [Bool.and_eq_true] at hn
            rw [show covers x f.pc = (decide (q.1 ≤ f.pc) && decide (f.pc < q.2.1)) by rw [← e1, ← e2], hn.1.1, hn.1.2]
            rfl)] at hh
        obtain ⟨vm', hW', hq⟩ := ih xs U hp hmap hgood' hW hcell hh'
        refine ⟨vm', hW', fun Qh Eh d acts => ?_⟩
        rw [W.findHandler_go_skip (by simpa using hcov)]
        exact hq Qh Eh d acts
theorem px_step_caught {g : JFrame} {ad : Addr} {hp : Nat} {vm' : Vm} {U : State} {r : List Frame} (hf : ∀ (Qh : Handler → Pre) (Eh : CtlPost) (d : Bool) (acts : List Action), wp (findHandler g ad) Qh Eh e d acts U ↔ Qh (.found hp) d acts (U.setVm vm')) :
    (stepThrowing e U ad (.java g :: r)).1 = (U.setVm vm').setFrames (.java { g with pc := hp, stack := [.ref ad] } :: r) := by
  simp only [stepThrowing, searchFrame, vmDo]
  generalize hr : Sem.go _ e false [] U = res
  obtain ⟨as, rfl, -⟩ := Sem.eq_ok_of hr (a := Handler.found hp) (s' := U.setVm vm') (acts' := []) (by simp [hf _ _ _ _])
  rfl
theorem px_caught (A : px_Act p s m args meth c M sx D cl cA b0 sc Ts h0) (Gh : px_GoodH cl Ts M) {r hp : Nat} {rest : List Value} {mk : MethodId} {aa : Array Value} {t : State} (a : h0.2.length ≤ h.2.length ∧ h.2.length ≤ px_CT) (b : h0.1 ≤ h.1 ∧ h.1 ≤ px_ST) (hS : va_S (fun q => b0 ≤ q) s.heap H locs) (hl : px_loc b0 sc ls L) (hT : T.heap = H)
    (X : Stand p l e R s m args below meth c T locs (h.2.length - h0.2.length) (h.1 - h0.1))
    (hE : px_End (.java (F0 m pc ls (rest.map (px_rv b0 sc))) :: below) (T.calling (F0 m pc ls (rest.map (px_rv b0 sc))) mk aa) D cl cA b0 sc h (.inr r) h1 t) {cn : Nat} {fs : List Value} (hr : h1.2[r]? = some (.inl (cn, fs))) (hh : px_hand (px_Mh M) pc cn = some hp)
    (k : px_W p l e R s m args below meth c Q D cl cA b0 sc h0 hp L [.ref r] h1) : ∃ t2, Steps p.tables e below t t2 ∧ Q t2 := by
  obtain ⟨⟨hx, hb, hml, ho, hts⟩, ⟨-, hlk, -, hexc⟩, ⟨hK, -, -, hz, -⟩, ⟨-, -, hAs⟩, -⟩ := A
  obtain ⟨oc, hrun, hend, hW, ⟨Lc, hsame, hL⟩, hl1, hl2, hz1, P1, hold1, hoc, cn', hcn', hnc⟩ := hE
  subst hoc
  cases hr.symm.trans hcn'
  obtain ⟨T', X', hWT, hsm, ht⟩ := X.outOfThrown (g := F0 m pc ls (rest.map (px_rv b0 sc))) rfl hend hW hsame
  have hh1 : T'.heap = t.heap := by rw [ht]; rfl
  rw [show h.2.length - h0.2.length + (h1.2.length - h.2.length) = h1.2.length - h0.2.length by omega, show h.1 - h0.1 + (h1.1 - h.1) = h1.1 - h0.1 by omega] at X'
  have hold2 : ∀ q : Nat, q < b0 → t.heap[q]? = H[q]? := fun q hq => by rw [hold1 q hq]; show T.heap[q]? = _; rw [hT]
  obtain ⟨q, hq, cell, hcell, hcls, hvm, -⟩ : ∃ q : vw_C, cl[cn]? = some q ∧ t_OB (b0 + r) (D.1 cn) q.2.2 (D.2 cn) t.heap _ := P1 _ _ (px_ws_at hr)
  have hpl : e.platform.magicAccessors = ({} : Platform).magicAccessors := by rw [X.admits.platform]
  obtain ⟨hfc, kC, hkC, -⟩ := (hK.1 _ _ hq).2
  obtain ⟨vm', hW', hf⟩ := px_search (e := e) (s := s) (args := args) (D := D) (cl := cl) (cA := cA) (Ts := Ts) (f := F0 m pc ls (rest.map (px_rv b0 sc))) (ad := b0 + r) (cell := cell) (cn := cn) (own := px_Mn M) hpl ho hts hK hAs hnc (List.getElem?_eq_some_iff.mp hq).1 hcls (by rw [hvm]; intro k hk; cases hk) ⟨kC, by rw [hcls]; exact hkC⟩
    (px_Mh M) c.exceptionTable.toList ((T'.setTop (F0 m pc ls (rest.map (px_rv b0 sc)))).pushFrame (.throwing (b0 + r))) hp hexc Gh X'.warmed (by rw [← ht]; exact hcell) hh
  have X2 := X'.noted hW'
  obtain ⟨t2, st, hq2⟩ := k (by omega) (by omega) T'.heap (locs ++ Lc) ls (by rw [hh1]; exact hz1) (by rw [hh1]; exact P1) (by rw [hh1]; exact px_S_after hS hz (by omega) hz1 hold2 hL) hl (T'.setVm vm') rfl X2
  refine ⟨t2, ?_, hq2⟩
  rw [ht]
  have hAt : At T' (F0 m pc ls (rest.map (px_rv b0 sc))).method c below := X'.here
  obtain ⟨hgo, hw⟩ := hAt.throwing (b0 + r)
  refine Steps.head hgo hw ?_
  rw [stepThread_throwing (frames_entered hAt.top _), px_step_caught (hp := hp) (vm' := vm') (fun Qh Eh d acts => by rw [W.findHandler_eq X'.method' X'.code]; exact hf Qh Eh d acts)]
  obtain ⟨g₀, hg⟩ := X'.frames_eq
  have e1 : (((T'.setTop (F0 m pc ls (rest.map (px_rv b0 sc)))).pushFrame (.throwing (b0 + r))).setVm vm').setFrames (.java { F0 m pc ls (rest.map (px_rv b0 sc)) with pc := hp, stack := [.ref (b0 + r)] } :: T'.frames.tail) = (T'.setVm vm').setTop (F0 m hp ls [.ref (b0 + r)]) := by
    rw [State.setTop_of_frames (s := T'.setVm vm') _ (show (T'.setVm vm').frames = .java g₀ :: below from hg), X'.tail]
    rw [State.pushFrame, State.setTop_of_frames _ hg, State.setFrames_setFrames]
    show ((T'.setVm vm').setFrames _).setFrames _ = _
    rw [State.setFrames_setFrames]
  rw [e1]
  exact st
end PXF
