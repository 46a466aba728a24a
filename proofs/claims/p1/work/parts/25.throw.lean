/-! A THROW OF A NEW EXCEPTION -/
def px_sup : List String := ["java/lang/RuntimeException", "java/lang/Exception"]
def px_TsOk (Ts : List Jvm.Cond) : Prop := ∀ w ∈ Ts, ∀ (args a' : Array Value) (s U : State), s.WarmedH U.vm → w.before args s = true → w.before a' U = true
def px_isU : Jvm.Cond := .isRef (.static "java/lang/Throwable" "UNASSIGNED_STACK" "[Ljava/lang/StackTraceElement;")
def px_isS : Jvm.Cond := .isRef (.static "java/lang/Throwable" "SUPPRESSED_SENTINEL" "Ljava/util/List;")
def px_lsU : Jvm.Cond := .laysStatic "java/lang/Throwable" "UNASSIGNED_STACK" "[Ljava/lang/StackTraceElement;"
def px_lsS : Jvm.Cond := .laysStatic "java/lang/Throwable" "SUPPRESSED_SENTINEL" "Ljava/util/List;"
def px_GoodX (G : px_G) (cl : List vw_C) (Ts : List Jvm.Cond) (M : px_M) : Prop := ∀ (idx cn ic : Nat), px_Gk G (px_Mo M) idx = some cn → px_NC ≤ cn → px_Gc G (px_Mo M) ic = some (2000 + cn) →
  ∃ q : vw_C, cl[cn]? = some q ∧ q.2.2 = 0 ∧ Jvm.Cond.classLink (px_Mn M) idx q.1 ∈ Ts ∧ Jvm.Cond.instantiable q.1 6 ∈ Ts ∧ Jvm.Cond.initialized q.1 ∈ Ts ∧ Bundle.fit q.1 = true ∧
    ∀ a ∈ Bundle.ownAtoms0 (px_Mn M) ic q.1 px_sup, a ∈ Ts ∨ a = px_isU ∨ a = px_isS ∨ a = px_lsU ∨ a = px_lsS
theorem px_words {Ts : List Jvm.Cond} (hok : px_TsOk Ts) {args : Array Value} {s U : State} (hts : ∀ w ∈ Ts, w.before args s = true) (hW : s.WarmedH U.vm) (a' : Array Value) : ∀ w ∈ Ts, w.before a' U = true := fun w hw => hok w hw args a' s U hW (hts w hw)
theorem px_isRef_of {C n d : String} {A : Nat → Prop} {s : State} {args : Array Value} (h : va_Zq C n d A s s.heap) : (Jvm.Cond.isRef (.static C n d)).before args s = true := by
  rcases h with h | ⟨t, h⟩ <;> (obtain ⟨cf, kf, fi, f, a, cell, h1, h2, h3, h4, h5, h6, h7, -⟩ := h; simp [Jvm.Cond.before, Jvm.Cond.holds, Jvm.Cond.value, Term.eval, State.fieldNamed?, h1, h2, h4, h5, h6, h7, Value.isRef])
theorem px_unframe {T t : State} {fs : List Frame} {Lc : List Loc} {k n : Nat} (h : (T.setFrames fs).sameButNew t Lc k n) : T.sameButNew t Lc k n := by
  obtain ⟨a1, a2⟩ := h
  refine ⟨?_, a2⟩
  rw [State.setFrames_setFrames] at a1
  exact a1
theorem px_cells {s t : State} {k n : Nat} (h : s.sameButNew t [] k n) {q : Nat} {cell : Cell} (hq : s.heap[q]? = some cell) : t.heap[q]? = some cell := by
  obtain ⟨c', h1, h2, h3, h4⟩ := h.2.2.2.2.2 q cell hq
  have hs : c'.slots = cell.slots := by
    apply Array.ext_getElem?
    intro i
    exact h4 i (by simp)
  rw [h1, h2, hs]
section PXT
variable {p : Program} {l : Launch} {e : Env} {R : Room} {s : State} {m : MethodId} {args : Array Value} {below : List Frame} {meth : Method} {c : Code} {Q : State → Prop}
variable {G : px_G} {sx : Nat × (Nat → Int32)} {M : px_M} {D : va_G} {cl : List vw_C} {cA : Nat → ClassId} {b0 : Nat} {sc : Nat → Nat} {Ts : List Jvm.Cond} {h0 : px_H}
variable {pc : Nat} {L : px_L} {S : List Value} {h : px_H}
theorem px_throw (A : px_Act p s m args meth c M sx D cl cA b0 sc Ts h0) (hok : px_TsOk Ts) (Gx : px_GoodX G cl Ts M) (htr : e.platform.stackTraces = false) (hR : R.cells = px_CT - h0.2.length ∧ R.slots = px_ST - h0.1 ∧ R.frames = px_Mf M ∧ R.locals = px_Mw M) (hLl : L.length = px_Ml M)
    {k idx : Nat} (hdec : ∀ q i len, px_Gi G k q = some (i, len) → decode (px_Mb M) q = .ok (i, len)) (hi : px_Gi G k pc = some (.new idx, 3)) {h' : px_H} (h1 : px_thr G k M pc S h idx = some h') :
    px_W p l e R s m args below meth c (px_End below s D cl cA b0 sc h0 (.inr h.2.length) h') D cl cA b0 sc h0 pc L S h := by
  obtain ⟨⟨hx, hb, hml, ho, hts⟩, ⟨-, hlk, -, hexc⟩, ⟨hK, -, -, hz, -⟩, ⟨hZU, hZS, -⟩, -, hLU, hLS⟩ := A
  unfold px_thr at h1
  split at h1
  · next cn ic hk hi3 hi4 hi7 =>
    split at h1
    · next hq =>
      obtain ⟨hnc, hcal, hnoh, hfr, hwt, hct, hst⟩ := hq
      cases h1
      obtain ⟨⟨E, TT, N⟩, hqc, hN, hlink, hins, hini, hfit, hat⟩ := Gx _ _ _ hk hnc hcal
      subst hN
      have hd := hdec _ _ _ hi
      have hd3 := hdec _ _ _ hi3
      have hd4 := hdec _ _ _ hi4
      have hd7 := hdec _ _ _ hi7
      intro a b H locs ls z P hS hl T hT X
      have hc1 : h.2.length - h0.2.length ≤ R.cells := by omega
      have hs1 : h.1 - h0.1 ≤ R.slots := by omega
      have X' := px_rebase X hc1 hs1
      have hal : s.vm.Alike (T.setFrames (.invoking m args :: below)).vm := X.warmed.alike
      have hWs : s.WarmedH (T.setFrames (.invoking m args :: below)).vm := X.warmed
      have hts' := px_words hok hts hWs args
      have ho' : (T.setFrames (.invoking m args :: below)).vm.findClass (px_Mn M) = some m.cls := by rw [hal.findClass]; exact ho
      obtain ⟨-, hfc', kC0, hkC0, hkind⟩ := (hK.moved hal).1 cn _ hqc
      have hTh : (T.setFrames (.invoking m args :: below)).heap = H := hT
      have hsz : (T.setFrames (.invoking m args :: below)).heap.size = H.size := by rw [hTh]
      have hold : ∀ q : Nat, q < s.heap.size → ¬ b0 ≤ q → T.heap[q]? = s.heap[q]? := fun q h1 h2 => by rw [hT]; exact hS.2.1 q h1 h2
      have hatoms : ∀ w ∈ Bundle.ownAtoms0 (px_Mn M) ic E px_sup, w.before args (T.setFrames (.invoking m args :: below)) = true := by
        intro w hw
        rcases hat w hw with h2 | rfl | rfl | rfl | rfl
        · exact hts' w h2
        · exact px_isRef_of ((hZU.moved hal).kept hold)
        · exact px_isRef_of ((hZS.moved hal).kept hold)
        · exact px_LS.use ((hLU.moved hal).kept hold)
        · exact px_LS.use ((hLS.moved hal).kept hold)
      have hout : ∀ x ∈ c.exceptionTable.toList, covers x (pc + 7) = false := by
        intro x hx1
        rw [hnoh] at hexc
        have : c.exceptionTable.toList = [] := List.map_eq_nil_iff.mp hexc
        rw [this] at hx1
        cases hx1
      have w : W p l e { frames := R.frames, cells := R.cells - (h.2.length - h0.2.length), slots := R.slots - (h.1 - h0.1), locals := R.locals } (T.setFrames (.invoking m args :: below)) m args below meth c H [] 0 0
          (px_End below s D cl cA b0 sc h0 (.inr h.2.length) (h.1 + 6, h.2 ++ [.inl (cn, [])])) (F0 m pc ls (S.map (px_rv b0 sc))) := by
        refine W.newcK hx hb ho' (hts' _ hlink) (hts' _ hins) (hts' _ hini) rfl hd (by show 0 + 1 ≤ R.cells - _; omega) (by show 0 + 6 ≤ R.slots - _; omega) hfc' rfl fun H1 kC hkC e1 z1 o1 => ?_
        refine lv_dup hx hb hd3 rfl ?_
        intro T2 hT2 X2
        obtain ⟨U, st, hrun, hend, hWU, hsame, ce, hce, hOwn⟩ := X2.ctorThrow0 hx htr ho' hfit (by decide) hatoms (fun x hx1 => by cases hx1) hfc' hkC (by rw [hT2]; exact e1) (by rw [hsz]; exact Nat.le_refl _)
          (g := F0 m (pc + 3 + 1) ls (.ref H.size :: .ref H.size :: S.map (px_rv b0 sc))) rfl (hl.1.trans (hLl.trans hml.symm)) rfl rfl rfl (by rw [hb]; exact hd4) (by rw [hb]; exact hd7) hout
          (by show 2 + 3 < R.frames; omega)
          (by
            have hwS : ((S.map (px_rv b0 sc)).map fun v => v.category).sum = px_wt S := by
              unfold px_wt
              rw [List.map_map]
              congr 1
              exact List.map_congr_left fun v _ => px_rv_cat b0 sc v
            show 2 * 0 + ((Value.ref H.size :: S.map (px_rv b0 sc)).map fun v => v.category).sum + (13 * (2 + 1) + 41) ≤ R.locals
            rw [List.map_cons, List.sum_cons, hwS]
            show 2 * 0 + (1 + px_wt S) + (13 * (2 + 1) + 41) ≤ R.locals
            omega) hlk
        have hsame1 := px_unframe hsame
        have hkeep : ∀ (q : Nat) (cell : Cell), H[q]? = some cell → U.heap[q]? = some cell := fun q cell hq => px_cells hsame1 (by rw [hT]; exact hq)
        have hUlt : H.size < U.heap.size := (Array.getElem?_eq_some_iff.mp hce).1
        have hUle : U.heap.size ≤ T.heap.size + (0 + 1) := hsame1.2.2.1
        have hUz : U.heap.size = H.size + 1 := by rw [hT] at hUle; omega
        have hkq : ∀ q : Nat, q < H.size → U.heap[q]? = H[q]? := fun q hq => by
          have h2 : H[q]? = some H[q] := Array.getElem?_eq_getElem hq
          rw [h2]; exact hkeep q _ h2
        refine ⟨U, st, .threw H.size, hrun, hend, hWs.trans hWU, ⟨locs ++ [], ?_, by simpa using hS.2.2⟩, by simp; omega, by simp only; omega, by rw [hUz, z]; simp; omega, ?_, fun q hq => ?_, by rw [z], cn, by simp, hnc⟩
        · have h3 := X.same.trans (hsame1.setVm s.vm)
          simp only [List.length_append, List.length_singleton]
          rw [show h.2.length + 1 - h0.2.length = h.2.length - h0.2.length + (0 + 1) by omega, show h.1 + 6 - h0.1 = h.1 - h0.1 + (0 + 6) by omega]
          exact h3
        · rw [px_ws_push]
          refine va_P.app (P.kept fun k x hx1 => hkq x.1 ((P k x hx1).lt)) (fun k x hx1 => ?_)
          have hk0 : k < 1 := (List.getElem?_eq_some_iff.mp hx1).1
          rw [show k = 0 by omega] at hx1
          cases hx1
          refine ⟨_, hqc, ce, by rw [← z]; exact hce, ?_, hOwn.vm, fun j hj => absurd hj (Nat.not_lt_zero _)⟩
          exact Option.some.inj (hOwn.cls.symm.trans hfc')
        · rw [hkq q (by omega)]
          exact hS.2.1 q (by omega) (by simp only; omega)
      exact w T hT X'
    · cases h1
  · cases h1
end PXT
