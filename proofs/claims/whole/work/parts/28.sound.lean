/-! WHAT THE PURE MACHINE RUNS, THE MACHINE DOES -/
theorem px_take_inv {n : Nat} {S as rest : List Value} (h : px_take n S = some (as, rest)) : S = as.reverse ++ rest ∧ as.length = n := by
  unfold px_take at h
  split at h
  · next hn =>
    cases h
    exact ⟨by rw [List.reverse_reverse, List.take_append_drop], by rw [List.length_reverse, List.length_take]; omega⟩
  · cases h
theorem px_one_len {G : px_G} {sx : Nat × (Nat → Int32)} {M : px_M} {pc pc' : Nat} {L L' : px_L} {S S' : List Value} {h h' : px_H} {i : Instr} (h1 : px_one G sx M pc L S h i = some (pc', L', S', h')) : L'.length = L.length := by
  have hto : ∀ {q : Nat} {o : Option (List Value)}, px_to q L h o = some (pc', L', S', h') → L'.length = L.length := fun q => by obtain ⟨-, -, rfl, -⟩ := px_to_inv q; rfl
  have htoH : ∀ {q : Nat} {o : Option (List Value × px_H)}, px_toH q L o = some (pc', L', S', h') → L'.length = L.length := fun q => by obtain ⟨-, -, rfl⟩ := px_toH_inv q; rfl
  have hsto : ∀ {q j : Nat} {ok : Value → Bool}, px_sto q L h j ok S = some (pc', L', S', h') → L'.length = L.length := fun q => by obtain ⟨v, -, -, -, -, rfl, -⟩ := px_sto_inv q; exact px_st1_len _ _ _
  have hsto2 : ∀ {q j : Nat}, px_sto2 q L h j S = some (pc', L', S', h') → L'.length = L.length := fun q => by obtain ⟨v, -, -, -, rfl, -⟩ := px_sto2_inv q; exact px_st2_len _ _ _
  have hjmp : ∀ {off : Int} {b : Bool} {S0 : List Value}, px_jmp pc off b L S0 h = some (pc', L', S', h') → L'.length = L.length := fun q => by obtain ⟨-, rfl, -⟩ := px_jmp_inv q; rfl
  cases i
  case if_acmp cd off =>
    cases cd <;> simp only [px_one] at h1 <;> split at h1 <;> first | exact hjmp h1 | (cases h1; done)
  all_goals first
    | exact hto h1
    | exact htoH h1
    | exact hsto h1
    | exact hsto2 h1
    | exact hjmp h1
    | (simp only [px_one] at h1; cases h1; done)
    | (simp only [px_one] at h1; cases h1; rfl)
    | skip
  all_goals simp only [px_one, px_inc, px_tsw, px_lsw] at h1
  all_goals (repeat' (split at h1))
  all_goals first
    | (cases h1; done)
    | (cases h1; rfl)
    | exact hjmp h1
    | (cases h1; exact px_st1_len _ _ _)
    | skip
/-- what the tables say of a method, all of it -/
def px_GoodAll (G : px_G) (cl : List vw_C) (Ts : List Jvm.Cond) (k : Nat) (M : px_M) : Prop :=
  px_GoodM G cl Ts M ∧ px_GoodX G cl Ts M ∧ px_GoodH cl Ts M ∧
  (∀ (pc : Nat) (i : Instr) (len : Nat), px_Gi G k pc = some (i, len) → decode (px_Mb M) pc = .ok (i, len) ∧ (px_ln i = 0 ∨ len = px_ln i)) ∧
  (∀ (pc : Nat) (i : Instr) (len kd idx k' : Nat) (M' : px_M), px_Gi G k pc = some (i, len) → px_kind i = some (kd, idx) → px_Gc G (px_Mo M) idx = some k' → k' < 1000 → px_Gm G k' = some M' → px_GoodK cl Ts M M' kd idx) ∧
  (∀ (pc : Nat) (i : Instr) (len kd idx : Nat), px_Gi G k pc = some (i, len) → px_kind i = some (kd, idx) → px_Gc G (px_Mo M) idx = some 1000 → Jvm.Cond.methodLink (px_Mn M) idx Lib.objectInit ∈ Ts ∧ Jvm.Cond.instanceMethod Lib.objectInit ∈ Ts ∧ Jvm.Cond.code Lib.objectInit ⟨#[0xb1]⟩ 1 none ∈ Ts) ∧
  (∀ idx : Nat, px_Gc G (px_Mo M) idx = some 1001 → Jvm.Cond.methodLink (px_Mn M) idx arraycopyName ∈ Ts ∧ Jvm.Cond.native arraycopyName ∈ Ts ∧ Jvm.Cond.static arraycopyName ∈ Ts ∧ Jvm.Cond.initialized "java/lang/System" ∈ Ts) ∧
  (∀ idx : Nat, px_Gc G (px_Mo M) idx = some 1002 → Jvm.Cond.methodLink (px_Mn M) idx Lib.Math.min.name ∈ Ts ∧ Jvm.Cond.static Lib.Math.min.name ∈ Ts ∧ Jvm.Cond.initialized "java/lang/Math" ∈ Ts ∧ Jvm.Cond.code Lib.Math.min.name Lib.Math.min.code 2 (some .int) ∈ Ts) ∧
  (∀ idx : Nat, px_Gc G (px_Mo M) idx = some 1003 → GoodIn Ts (wsV (px_Mn M) idx "java/lang/String" ps_yL ps_wL)) ∧
  (∀ idx : Nat, px_Gc G (px_Mo M) idx = some 1004 → GoodIn Ts (wsV (px_Mn M) idx "java/lang/String" ps_yA ps_wA))
/-- a String constant, by its number -/
theorem px_Str.at {b0 : Nat} {sc : Nat → Nat} {s : State} (h : px_Str b0 sc s) {k : Nat} (hk : 1 ≤ k ∧ k ≤ 11) : ∃ t : Nat, ps_St b0 (sc k) t (px_sl.getD (k - 1) 0) (fun j => (px_sb.getD (k - 1) []).getD j 0) s := by
  obtain ⟨⟨adV, h1, -⟩, ⟨h2, h3⟩, -⟩ := h
  obtain ⟨g1, g2, g3, g4⟩ := h1 (k - 1) (by omega)
  dsimp only at g1 g2 g3
  rw [show k - 1 + 1 = k by omega] at g1 g2 g3
  exact ⟨adV (k - 1), g1, g2, g3, g4, h2, h3⟩
theorem px_sl_ok : ∀ k, k < 11 → px_sl.getD k 0 < 1000 ∧ ∀ j, j < px_sl.getD k 0 → (px_sb.getD k []).getD j 0 &&& 255 = (px_sb.getD k []).getD j 0 := by decide +kernel
section PXM
variable {p : Program} {l : Launch} {e : Env} {R : Room} {s : State} {m : MethodId} {args : Array Value} {below : List Frame} {meth : Method} {c : Code} {Q : State → Prop}
variable {G : px_G} {sx : Nat × (Nat → Int32)} {M M' : px_M} {D : va_G} {cl : List vw_C} {cA : Nat → ClassId} {b0 : Nat} {sc : Nat → Nat} {Ts : List Jvm.Cond} {h0 : px_H}
variable {pc : Nat} {L : px_L} {S as rest : List Value} {h h1 : px_H} {H : Heap} {locs : List Loc} {ls : Array Slot} {T : State} {cells slots : Nat}
theorem px_invoke (A : px_Act p s m args meth c M sx D cl cA b0 sc Ts h0) {kd idx : Nat} (gk : px_GoodK cl Ts M M' kd idx) {i : Instr} (hki : px_kind i = some (kd, idx)) (hd : decode (px_Mb M) pc = .ok (i, 3)) (htk : px_take (px_Ma M') S = some (as, rest)) (hrc : px_recv M' h kd as = true)
    (P : va_P D cl (px_ws cA b0 sc h.2) H) (hT : T.heap = H) (X : Stand p l e R s m args below meth c T locs cells slots) :
    ∃ (mk : MethodId) (vm₁ : Vm), s.methodNamed? (px_Mm M') = some mk ∧ Stand p l e R s m args below meth c (T.setVm vm₁) locs cells slots ∧
      ∀ target, Steps p.tables e below (doInvoke e ((T.setVm vm₁).setTop (F0 m pc ls (rest.map (px_rv b0 sc)))) [] mk (as.map (px_rv b0 sc)).toArray).1 target → Steps p.tables e below (T.setTop (F0 m pc ls (S.map (px_rv b0 sc)))) target := by
  obtain ⟨⟨hx, hb, hml, ho, hts⟩, -, ⟨hK, -⟩, -⟩ := A
  obtain ⟨gy, hlink, g0, g1, gv, gi⟩ := gk
  obtain ⟨mk, methM, cM, hn, hmM, hcM, hbM, hlM, hrM, hkM, heM, hsig⟩ := px_facts gy hts
  obtain ⟨hSe, hal⟩ := px_take_inv htk
  subst hSe
  obtain ⟨kP, hkP, hkn⟩ := className_of_methodNamed hn
  have hst : (as.reverse ++ rest).map (px_rv b0 sc) = (as.map (px_rv b0 sc)).reverse ++ rest.map (px_rv b0 sc) := by rw [List.map_append, List.map_reverse]
  rw [hst]
  have hd' : decode c.code pc = .ok (i, 3) := by rw [hb]; exact hd
  cases i <;> simp only [px_kind] at hki <;> first | (cases hki; done) | skip
  · -- invokespecial
    cases hki
    obtain ⟨hinst, hpar⟩ := g1 (by decide)
    obtain ⟨hy1, hrn, -, hcode⟩ := gi rfl
    rcases as with _ | ⟨v, as⟩
    · simp [px_recv] at hrc
    cases v <;> simp [px_recv] at hrc
    next r =>
    have hpl : e.platform.magicAccessors = ({} : Platform).magicAccessors := by rw [X.admits.platform]
    rw [hrn] at hcode
    obtain ⟨tm, methO, cd, kO, vm₁, hnO, -, -, -, -, -, -, -, hW₁, st⟩ := Steps.initColdArgs (tb := p.tables) (e := e) (below := below) X.here hx X.warmed hpl ho hy1 gy.2.1 (hts _ hlink) (hts _ hinst) (hts _ hcode)
      (f := F0 m pc ls (((Value.ref r :: as).map (px_rv b0 sc)).reverse ++ rest.map (px_rv b0 sc))) rfl (a := b0 + r) (argsL := as.map (px_rv b0 sc)) (rest := rest.map (px_rv b0 sc))
      (fun sig hs => by
        rw [hs] at hpar
        have h3 : sig.parameters.length + 1 = px_Ma M' := Option.some.inj hpar
        simp only [List.length_cons] at hal
        rw [List.length_map]; omega)
      (by simp [px_rv]) hd'
    exact ⟨tm, vm₁, hnO, X.noted hW₁, fun target h => st target fun acts => by rw [doInvoke_state]; exact h⟩
  · -- invokestatic
    cases hki
    obtain ⟨hstat, hini, hpar⟩ := g0 rfl
    have hstatic : methM.isStatic = true := Cond.static_spec hn hmM (hts _ hstat)
    have hinitP : kP.init = .initialized := Cond.initialized_spec (findClass_of_methodNamed hn) hkP (hts _ hini)
    obtain ⟨vm₁, X₁, st⟩ := X.invokestatic hx ho (hts _ hlink) hn hmM hstatic hkP hinitP gy.2.1 (g := F0 m pc ls ((as.map (px_rv b0 sc)).reverse ++ rest.map (px_rv b0 sc))) rfl (argsL := as.map (px_rv b0 sc)) (rest := rest.map (px_rv b0 sc))
      (by
        rw [hsig] at hpar
        have h3 : methM.sig.parameters.length = px_Ma M' := Option.some.inj hpar
        rw [List.length_map]; omega) rfl hd'
    exact ⟨mk, vm₁, hn, X₁, fun target h => st target fun acts => by rw [doInvoke_state]; exact h⟩
  · -- invokevirtual
    cases hki
    obtain ⟨hinst, hpar⟩ := g1 (by decide)
    obtain ⟨hsel, q, hq, hqn⟩ := gv rfl
    rcases as with _ | ⟨v, as⟩
    · simp [px_recv] at hrc
    cases v <;> simp only [px_recv] at hrc <;> first | (cases hrc; done) | skip
    next r =>
    split at hrc
    · next c' fs hr =>
      have hcc : c' = px_Mo M' := of_decide_eq_true hrc
      subst hcc
      obtain ⟨q', hq', cell, hcell, hcls, hvm, -⟩ : ∃ q : vw_C, cl[px_Mo M']? = some q ∧ t_OB (b0 + r) (D.1 (px_Mo M')) q.2.2 (D.2 (px_Mo M')) H _ := P _ _ (px_ws_at hr)
      obtain ⟨mk2, methM2, hn2, hmM2, hstM, habM⟩ := Cond.instanceMethod_spec (hts _ hinst)
      cases hn.symm.trans hn2
      cases hmM.symm.trans hmM2
      obtain ⟨c2, r2, m2, q1, q2, q3, q4, kP2, hkP2, hkPi⟩ := Cond.selects_spec (hts _ hsel)
      have hfc : s.vm.findClass (px_Mn M') = some cell.cls := by
        rw [hcls, ← hqn]; exact (hK.1 _ _ hq).2.1
      cases hfc.symm.trans q1
      cases (State.methodFound?_of_named hn gy.2.1).symm.trans q2
      cases hn.symm.trans q3
      cases hkP.symm.trans hkP2
      have hselP : selectMethod e.platform s.vm cell.cls mk = .method mk := by rw [Launch.admits_selectMethod X.admits]; exact q4
      obtain ⟨vm₁, X₁, st⟩ := X.invokevirtual hx ho (hts _ hlink) hn hmM hstM hkP hkPi gy.2.1 (a := b0 + r) (cell := cell) (by rw [hT]; exact hcell) (by rw [hvm]; intro k hk; cases hk) hselP hmM habM hkP hkPi
        (g := F0 m pc ls (((Value.ref r :: as).map (px_rv b0 sc)).reverse ++ rest.map (px_rv b0 sc))) rfl (argsL := as.map (px_rv b0 sc)) (rest := rest.map (px_rv b0 sc))
        (by
          rw [hsig] at hpar
          have h3 : methM.sig.parameters.length + 1 = px_Ma M' := Option.some.inj hpar
          simp only [List.length_cons] at hal
          rw [List.length_map]; omega)
        (by simp [px_rv]) hd'
      exact ⟨mk, vm₁, hn, X₁, fun target h => st target fun acts => by rw [doInvoke_state]; exact h⟩
    · cases hrc
/-- what the library does in one stroke -/
theorem px_stroke (A : px_Act p s m args meth c M sx D cl cA b0 sc Ts h0) (hby : px_Byt h) {kd idx k' : Nat} {i : Instr}
    (Go : k' = 1000 → Jvm.Cond.methodLink (px_Mn M) idx Lib.objectInit ∈ Ts ∧ Jvm.Cond.instanceMethod Lib.objectInit ∈ Ts ∧ Jvm.Cond.code Lib.objectInit ⟨#[0xb1]⟩ 1 none ∈ Ts)
    (Gcp : k' = 1001 → Jvm.Cond.methodLink (px_Mn M) idx arraycopyName ∈ Ts ∧ Jvm.Cond.native arraycopyName ∈ Ts ∧ Jvm.Cond.static arraycopyName ∈ Ts ∧ Jvm.Cond.initialized "java/lang/System" ∈ Ts)
    (Gmn : k' = 1002 → Jvm.Cond.methodLink (px_Mn M) idx Lib.Math.min.name ∈ Ts ∧ Jvm.Cond.static Lib.Math.min.name ∈ Ts ∧ Jvm.Cond.initialized "java/lang/Math" ∈ Ts ∧ Jvm.Cond.code Lib.Math.min.name Lib.Math.min.code 2 (some .int) ∈ Ts)
    (Gsl : k' = 1003 → GoodIn Ts (wsV (px_Mn M) idx "java/lang/String" ps_yL ps_wL)) (Gsc : k' = 1004 → GoodIn Ts (wsV (px_Mn M) idx "java/lang/String" ps_yA ps_wA))
    (hR : R.cells = px_CT - h0.2.length ∧ R.slots = px_ST - h0.1 ∧ R.frames = px_Mf M ∧ R.locals = px_Mw M) (hLl : L.length = px_Ml M) (hk : px_kind i = some (kd, idx)) (hd : decode (px_Mb M) pc = .ok (i, 3)) {S1 : List Value} (hp : px_prim (px_Mf M) (px_Mw M) k' kd S h = some (S1, h1))
    (kk : px_W p l e R s m args below meth c Q D cl cA b0 sc h0 (pc + 3) L S1 h1) : px_W p l e R s m args below meth c Q D cl cA b0 sc h0 pc L S h := by
  obtain ⟨⟨hx, hb, hml, ho, hts⟩, -, ⟨hK, -, -, hz, -, hStr⟩, -⟩ := A
  obtain ⟨hR1, hR2, hR3, hR4⟩ := hR
  have hwr : ∀ S2 : List Value, ((S2.map (px_rv b0 sc)).map fun v => v.category).sum = px_wt S2 := by
    intro S2
    unfold px_wt
    rw [List.map_map]
    congr 1
    exact List.map_congr_left fun v _ => px_rv_cat b0 sc v
  unfold px_prim at hp
  split at hp
  · next r S2 =>
    split at hp
    · next hcd =>
      cases hp
      obtain ⟨hf1, hw1⟩ := hcd
      obtain ⟨w1, w2, w3⟩ := Go rfl
      have hi2 : i = .invokespecial idx := by cases i <;> simp only [px_kind] at hk <;> first | (cases hk; done) | (cases hk; rfl)
      subst hi2
      intro a b H locs ls z P hS hl
      refine W.objInit hx hb ho (hts _ w1) (hts _ w2) (hts _ w3) rfl (hl.1.trans (hLl.trans hml.symm)) (a := b0 + r) (rest := S1.map (px_rv b0 sc)) rfl hd (by rw [hR3]; exact hf1) ?_ (kk a b H locs ls z P hS hl)
      show 2 * 0 + ((S1.map (px_rv b0 sc)).map fun v => v.category).sum + 12 ≤ R.locals
      rw [hwr, hR4]; omega
    · cases hp
  · next n dp d sp s2 S2 =>
    split at hp
    · next hcd =>
      obtain ⟨h3, hq, he⟩ := Option.map_eq_some_iff.mp hp
      cases he
      obtain ⟨hf1, hw1⟩ := hcd
      obtain ⟨w1, w2, w3, w4⟩ := Gcp rfl
      have hi2 : i = .invokestatic idx := by cases i <;> simp only [px_kind] at hk <;> first | (cases hk; done) | (cases hk; rfl)
      subst hi2
      unfold px_cp at hq
      split at hq
      · next n0 f n1 g hs1 hd1 =>
        split at hq
        · next hcc =>
          cases hq
          obtain ⟨⟨c1, c2, c3⟩, c4, c5⟩ := hcc
          intro a b H locs ls z P hS hl
          obtain ⟨t0, ht0⟩ := px_tys_at cl cA (t := 0) (by decide)
          refine va_copyi (rest := S1.map (px_rv b0 sc)) hx hb (hl.1.trans (hLl.trans hml.symm)).symm ho (hts _ w1) (hts _ w2) (hts _ w3) (hts _ w4) hK P (px_ws_D cA b0 sc _) hS s2 d t0 t0 (px_ws_at hs1) (px_ws_at hd1) ht0 ht0 rfl c1 c2 c3 c4 c5 (fun j _ => hby.at hs1 _) (by rw [hR3]; exact hf1) ?_ hd fun H1 locs1 P1 _ hS1 => ?_
          · show ((S1.map (px_rv b0 sc)).map fun v => v.category).sum + 18 ≤ R.locals
            rw [hwr, hR4]; omega
          · rw [show ((b0 + d, Sum.inl (cA 0, n1, Sum.inl (va_cpy f g sp.toNatClampNeg dp.toNatClampNeg n.toNatClampNeg))) : Nat × va_E) = (b0 + d, px_E cA b0 sc (.inr (0, n1, .inl (va_cpy f g sp.toNatClampNeg dp.toNatClampNeg n.toNatClampNeg)))) from rfl, ← px_ws_set] at P1
            exact px_wrote (h' := (_, _)) (px_lt hd1) rfl hz a P1 fun z1 => kk (by simpa using a) b H1 locs1 ls z1 P1 hS1 hl
        · cases hq
      · cases hq
    · cases hp
  · next y x S2 =>
    split at hp
    · next hcd =>
      cases hp
      obtain ⟨hf1, hw1⟩ := hcd
      obtain ⟨w1, w2, w3, w4⟩ := Gmn rfl
      have hi2 : i = .invokestatic idx := by cases i <;> simp only [px_kind] at hk <;> first | (cases hk; done) | (cases hk; rfl)
      subst hi2
      intro a b H locs ls z P hS hl
      refine va_mmin (rest := S2.map (px_rv b0 sc)) hx hb (hl.1.trans (hLl.trans hml.symm)).symm ho (hts _ w1) (hts _ w2) (hts _ w3) (hts _ w4) (by rw [hR3]; exact hf1) ?_ (by rw [hR1]; omega) (by rw [hR2]; omega) hd (kk a b H locs ls z P hS hl)
      rw [hwr, hR4]; omega
    · cases hp
  · next k2 S2 =>
    split at hp
    · next hcd =>
      cases hp
      obtain ⟨hk2, hf1, hw1, hw2⟩ := hcd
      have hi2 : i = .invokevirtual idx := by cases i <;> simp only [px_kind] at hk <;> first | (cases hk; done) | (cases hk; rfl)
      subst hi2
      intro a b H locs ls z P hS hl
      have hq : ∀ a : Nat, a < s.heap.size → ¬ b0 ≤ a → H[a]? = s.heap[a]? := hS.2.1
      obtain ⟨t, hSt⟩ := hStr.at hk2
      have hH : ∀ U : State, U.heap = H → s.WarmedH U.vm → ps_St b0 (sc k2) t (px_sl.getD (k2 - 1) 0) (fun j => (px_sb.getD (k2 - 1) []).getD j 0) U := by
        intro U hU hW
        obtain ⟨g1, g2, g3, g4, g5, g6⟩ := hSt
        unfold ps_St
        rw [hU]
        exact ⟨(va_O.moved hW.alike g1).kept hq, (va_OF.moved hW.alike g2).kept hq, (va_OF.moved hW.alike g3).kept hq, (va_T.moved hW.alike g4).kept hq, (va_Z.moved hW.alike g5).kept hq, (va_Zq.moved hW.alike g6).kept hq⟩
      have hrecv : ∃ cell : Cell, H[sc k2]? = some cell ∧ cell.vm.isStatics = false ∧ s.vm.findClass "java/lang/String" = some cell.cls := by
        obtain ⟨cell, q1, q2, q3, -⟩ := hSt.1.kept hq
        exact ⟨cell, q1, q2, q3⟩
      refine ps_ci (W.runV (As := []) (rest := S2.map (px_rv b0 sc)) ⟨hx, hb, hml, ho, hts⟩ (ps_len l b0 (sc k2) t (px_sl.getD (k2 - 1) 0) (fun j => (px_sb.getD (k2 - 1) []).getD j 0) (px_sl_ok (k2 - 1) (by omega)).1) (cwV 0 hts (Gsl rfl) rfl rfl rfl (by decide +kernel) ⟨by rw [hR3]; exact hf1, by rw [hR4]; exact hw2⟩) ⟨ps_blind, hrecv, fun U hU hW => ⟨rfl, hH U hU hW⟩⟩ rfl rfl (hl.1.trans hLl) rfl (lv_room (by rw [hwr]; exact hw1)) hd ⟨by rw [hR1]; omega, by rw [hR2]; omega⟩) (kk a b H locs ls z P hS hl)
    · cases hp
  · next x k2 S2 =>
    split at hp
    · next hcd =>
      cases hp
      obtain ⟨⟨hk2, hin⟩, hf1, hw1, hw2⟩ := hcd
      have hi2 : i = .invokevirtual idx := by cases i <;> simp only [px_kind] at hk <;> first | (cases hk; done) | (cases hk; rfl)
      subst hi2
      intro a b H locs ls z P hS hl
      have hq : ∀ a : Nat, a < s.heap.size → ¬ b0 ≤ a → H[a]? = s.heap[a]? := hS.2.1
      obtain ⟨t, hSt⟩ := hStr.at hk2
      have hH : ∀ U : State, U.heap = H → s.WarmedH U.vm → ps_St b0 (sc k2) t (px_sl.getD (k2 - 1) 0) (fun j => (px_sb.getD (k2 - 1) []).getD j 0) U := by
        intro U hU hW
        obtain ⟨g1, g2, g3, g4, g5, g6⟩ := hSt
        unfold ps_St
        rw [hU]
        exact ⟨(va_O.moved hW.alike g1).kept hq, (va_OF.moved hW.alike g2).kept hq, (va_OF.moved hW.alike g3).kept hq, (va_T.moved hW.alike g4).kept hq, (va_Z.moved hW.alike g5).kept hq, (va_Zq.moved hW.alike g6).kept hq⟩
      have hrecv : ∃ cell : Cell, H[sc k2]? = some cell ∧ cell.vm.isStatics = false ∧ s.vm.findClass "java/lang/String" = some cell.cls := by
        obtain ⟨cell, q1, q2, q3, -⟩ := hSt.1.kept hq
        exact ⟨cell, q1, q2, q3⟩
      have hvi : vp_in x (px_sl.getD (k2 - 1) 0) := show ¬ (x < 0 ∨ px_sl.getD (k2 - 1) 0 ≤ x.toNatClampNeg) from of_decide_eq_true hin
      have hlt : x.toNatClampNeg < px_sl.getD (k2 - 1) 0 := Nat.not_le.mp fun q => hvi (Or.inr q)
      obtain ⟨o1, o2⟩ := px_sl_ok (k2 - 1) (by omega)
      refine ps_ci (W.runV (As := [.int x]) (rest := S2.map (px_rv b0 sc)) ⟨hx, hb, hml, ho, hts⟩ (ps_char l b0 (sc k2) t (px_sl.getD (k2 - 1) 0) (fun j => (px_sb.getD (k2 - 1) []).getD j 0) o1 x hvi (o2 _ hlt)) (cwV 1 hts (Gsc rfl) rfl rfl rfl (by decide +kernel) ⟨by rw [hR3]; exact hf1, by rw [hR4]; exact hw2⟩) ⟨ps_blind, hrecv, fun U hU hW => ⟨rfl, hH U hU hW⟩⟩ rfl rfl (hl.1.trans hLl) rfl (lv_room (by rw [hwr]; exact hw1)) hd ⟨by rw [hR1]; omega, by rw [hR2]; omega⟩) (kk a b H locs ls z P hS hl)
    · cases hp
  · cases hp
theorem px_sound (hok : px_TsOk Ts) (Gc : px_GoodC G cl Ts) (Ga : ∀ k M, px_Gm G k = some M → px_GoodAll G cl Ts k M) (htr : e.platform.stackTraces = false) (n : Nat) :
    ∀ (k : Nat) (M : px_M) (pc : Nat) (L : px_L) (S : List Value) (h : px_H) (o : px_O) (h' : px_H), px_Byt h → px_Gm G k = some M → px_run G sx n k pc L S h = some (o, h') → px_Sim p l e sx D cl cA b0 sc Ts M pc L S h o h' := by
  induction n with
  | zero => intro k M pc L S h o h' _ _ hr; simp [px_run] at hr
  | succ n ih =>
    intro k M pc L S h o h' hby hM hrun h0 s m args below meth c A hLl
    obtain ⟨Gm, Gx, Gh, Gd, Gk, Go, Gcp, Gmn, Gsl, Gsc⟩ := Ga k M hM
    cases hi : px_Gi G k pc with
    | none => simp [px_run, hM, hi] at hrun
    | some il =>
      obtain ⟨i, len⟩ := il
      obtain ⟨hd, hln⟩ := Gd pc i len hi
      simp only [px_run, hM, hi] at hrun
      cases hk : px_kind i with
      | some q =>
        obtain ⟨kd, idx⟩ := q
        have hlen3 : len = 3 := by
          cases i <;> simp only [px_kind] at hk <;> first | (cases hk; done) | (rcases hln with q | q; (· cases q); exact q)
        subst hlen3
        simp only [hk] at hrun
        cases hc : px_Gc G (px_Mo M) idx with
        | none => simp only [hc] at hrun; cases hrun
        | some k' =>
          simp only [hc] at hrun
          by_cases hk' : k' < 1000
          · rw [if_pos hk'] at hrun
            cases hM' : px_Gm G k' with
            | none => simp only [hM'] at hrun; cases hrun
            | some M' =>
              simp only [hM'] at hrun
              cases htk : px_take (px_Ma M') S with
              | none => simp only [htk] at hrun; cases hrun
              | some ar =>
                obtain ⟨as, rest⟩ := ar
                simp only [htk] at hrun
                by_cases hcd : px_recv M' h kd as = true ∧ px_fitM M M' (px_wt rest) = true ∧ (px_ent as).length ≤ px_Ml M'
                · rw [if_pos hcd] at hrun
                  obtain ⟨hrc, hfit, hent⟩ := hcd
                  have gk := Gk pc i 3 kd idx k' M' hi hk hc hk' hM'
                  cases hin : px_run G sx n k' 0 (px_entry (px_Ml M') as) [] h with
                  | none => simp only [hin] at hrun; cases hrun
                  | some oh =>
                    obtain ⟨o1, h1⟩ := oh
                    have sim := ih k' M' 0 (px_entry (px_Ml M') as) [] h o1 h1 hby hM' hin
                    have hby1 := px_run_byt hby hin
                    intro a b H locs ls z P hS hl T hT X
                    have hz := A.2.2.1.2.2.2.1
                    obtain ⟨mk, vm₁, hn, X₁, hstep⟩ := px_invoke (ls := ls) A gk hk hd htk hrc P hT X
                    obtain ⟨t, st, hE⟩ := px_through (L := L) (ls := ls) A hok gk.1 hfit hent sim a b z P hS hl hLl (T := T.setVm vm₁) hT X₁ hn hd
                    cases o1 with
                    | inl v =>
                      simp only [hin] at hrun
                      have kk := ih k M (pc + 3) L (v.toList ++ rest) h1 o h' hby1 hM hrun h0 s m args below meth c A hLl
                      obtain ⟨t2, st2, hq⟩ := px_returned hz a b hS hl (T := T.setVm vm₁) hT X₁ (by rw [A.1.2.1]; exact hd) hE kk
                      exact ⟨t2, hstep _ (st.trans st2), hq⟩
                    | inr r =>
                      simp only [hin] at hrun
                      by_cases hnh : px_Mh M = []
                      · rw [if_pos hnh] at hrun
                        cases hrun
                        have hout : ∀ x ∈ c.exceptionTable.toList, covers x pc = false := by
                          intro x hx1
                          have hexc := A.2.1.2.2.2
                          rw [hnh] at hexc
                          rw [List.map_eq_nil_iff.mp hexc] at hx1
                          cases hx1
                        obtain ⟨t2, st2, hq⟩ := px_passed hz a b hS (T := T.setVm vm₁) hT X₁ hout A.2.1.2.1 hE
                        exact ⟨t2, hstep _ (st.trans st2), hq⟩
                      · rw [if_neg hnh] at hrun
                        split at hrun
                        · next cn fs hr1 =>
                          split at hrun
                          · cases hrun
                          · next hp hhp =>
                            have kk := ih k M hp L [.ref r] h1 o h' hby1 hM hrun h0 s m args below meth c A hLl
                            obtain ⟨t2, st2, hq⟩ := px_caught A Gh a b hS hl (T := T.setVm vm₁) hT X₁ hE hr1 hhp kk
                            exact ⟨t2, hstep _ (st.trans st2), hq⟩
                        · cases hrun
                · rw [if_neg hcd] at hrun; cases hrun
          · rw [if_neg hk'] at hrun
            split at hrun
            · next S1 h1 hp =>
              have kk := ih k M (pc + 3) L S1 h1 o h' (px_prim_byt hby hp) hM hrun h0 s m args below meth c A hLl
              exact px_stroke A hby (fun q => Go pc i 3 kd idx hi hk (q ▸ hc)) (fun q => Gcp idx (q ▸ hc)) (fun q => Gmn idx (q ▸ hc)) (fun q => Gsl idx (q ▸ hc)) (fun q => Gsc idx (q ▸ hc)) ⟨rfl, rfl, rfl, rfl⟩ hLl hk hd hp kk
            · cases hrun
      | none =>
        simp only [hk] at hrun
        cases hrt : px_retv M i S with
        | some v =>
          simp only [hrt] at hrun
          cases hrun
          exact px_ret A hd hln hrt
        | none =>
          simp only [hrt] at hrun
          cases h1 : px_one G sx M pc L S h i with
          | some q =>
            obtain ⟨pc', L', S', h2⟩ := q
            simp only [h1] at hrun
            exact px_one_sound A Gc Gm ⟨rfl, rfl⟩ hd hln h1 (ih k M pc' L' S' h2 o h' (px_one_byt hby h1) hM hrun h0 s m args below meth c A ((px_one_len h1).trans hLl))
          | none =>
            simp only [h1] at hrun
            split at hrun
            · next idx =>
              obtain ⟨h3, hth, he⟩ := Option.map_eq_some_iff.mp hrun
              cases he
              have hl3 : len = 3 := by rcases hln with q | q; (· cases q); exact q
              subst hl3
              exact px_throw A hok Gx htr ⟨rfl, rfl, rfl, rfl⟩ hLl (fun q i len hq => (Gd q i len hq).1) hi hth
            · cases hrun
end PXM
