/-! HOW A METHOD ENDS -/
def px_End (below : List Frame) (s : State) (D : va_G) (cl : List vw_C) (cA : Nat → ClassId) (b0 : Nat) (sc : Nat → Nat) (h0 : px_H) (o : px_O) (h' : px_H) : State → Prop := fun t =>
  ∃ oc : Outcome, t.status = .running ∧ Ended t below oc ∧ s.WarmedH t.vm ∧ (∃ Lc : List Loc, s.sameButNew ({ t with vm := s.vm } : State) Lc (h'.2.length - h0.2.length) (h'.1 - h0.1) ∧ ∀ q ∈ Lc, b0 ≤ q.base) ∧
    (h0.2.length ≤ h'.2.length ∧ h'.2.length ≤ px_CT) ∧ (h0.1 ≤ h'.1 ∧ h'.1 ≤ px_ST) ∧ t.heap.size = b0 + h'.2.length ∧ va_P D cl (px_ws cA b0 sc h'.2) t.heap ∧ (∀ q : Nat, q < b0 → t.heap[q]? = s.heap[q]?) ∧
    match o with
    | .inl v => oc = .returned (v.map (px_rv b0 sc))
    | .inr r => oc = .threw (b0 + r) ∧ ∃ cn, h'.2[r]? = some (.inl (cn, [])) ∧ px_NC ≤ cn
section PXE
variable {p : Program} {l : Launch} {e : Env} {R : Room} {s : State} {m : MethodId} {args : Array Value} {below : List Frame} {meth : Method} {c : Code} {Q : State → Prop}
variable {G : px_G} {sx : Nat × (Nat → Int32)} {M : px_M} {D : va_G} {cl : List vw_C} {cA : Nat → ClassId} {b0 : Nat} {sc : Nat → Nat} {Ts : List Jvm.Cond} {h0 : px_H}
variable {pc : Nat} {L : px_L} {S : List Value} {h : px_H}
theorem px_back {v : Option Value} {H : Heap} {locs : List Loc} {g : JFrame} (hz : s.heap.size = b0 + h0.2.length) (a : h0.2.length ≤ h.2.length ∧ h.2.length ≤ px_CT) (b : h0.1 ≤ h.1 ∧ h.1 ≤ px_ST) (z : H.size = b0 + h.2.length) (P : va_P D cl (px_ws cA b0 sc h.2) H) (hS : va_S (fun q => b0 ≤ q) s.heap H locs)
    (k : W p l e R s m args below meth c H locs (h.2.length - h0.2.length) (h.1 - h0.1) (MQ below (fun _ _ o t => o = .returned (v.map (px_rv b0 sc)) ∧ t.heap = H) args s (h.2.length - h0.2.length) (h.1 - h0.1) (fun q => b0 ≤ q)) g) :
    W p l e R s m args below meth c H locs (h.2.length - h0.2.length) (h.1 - h0.1) (px_End below s D cl cA b0 sc h0 (.inl v) h) g := by
  intro T hT X
  obtain ⟨t, st, o, hrun, hend, ⟨ho, hh⟩, Lc, ⟨-, hW, hsame⟩, hL⟩ := k T hT X
  refine ⟨t, st, o, hrun, hend, hW, ⟨Lc, hsame, hL⟩, a, b, by rw [hh]; exact z, by rw [hh]; exact P, fun q hq => by rw [hh]; exact hS.2.1 q (by omega) (by simp only; omega), ho⟩
theorem px_ret (A : px_Act p s m args meth c M sx D cl cA b0 sc Ts h0) {i : Instr} {len : Nat} (hd : decode (px_Mb M) pc = .ok (i, len)) (hlen : px_ln i = 0 ∨ len = px_ln i) {v : Option Value} (h1 : px_retv M i S = some v) :
    px_W p l e R s m args below meth c (px_End below s D cl cA b0 sc h0 (.inl v) h) D cl cA b0 sc h0 pc L S h := by
  obtain ⟨⟨hx, hb, hml, ho, hts⟩, ⟨hr, hlk, -⟩, ⟨-, -, -, hz, -⟩, -⟩ := A
  intro a b H locs ls z P hS hl
  have hf : ∀ q ∈ locs, b0 ≤ q.base := hS.2.2
  refine px_back hz a b z P hS ?_
  unfold px_retv at h1
  split at h1
  · rcases hlen with q | rfl
    · cases q
    split at h1
    · next x ty hty =>
      split at h1
      · next hn =>
        cases h1
        exact W.zret hx hb (hr.trans hty) hn (fun t ht _ => ⟨rfl, ht⟩) hf hd hlk
      · cases h1
    · cases h1
  · rcases hlen with q | rfl
    · cases q
    split at h1
    · next x hty => cases h1; exact W.lret hx hb (hr.trans hty) (fun t ht _ => ⟨rfl, ht⟩) hf hd hlk
    · cases h1
  · rcases hlen with q | rfl
    · cases q
    split at h1
    · next x n hty => cases h1; exact W.aret hx hb (hr.trans hty) (Or.inl ⟨_, rfl⟩) (Or.inr ⟨_, rfl⟩) (fun t ht _ => ⟨rfl, ht⟩) hf hd hlk
    · next x n hty => cases h1; exact W.aret hx hb (hr.trans hty) (Or.inr ⟨_, rfl⟩) (Or.inr ⟨_, rfl⟩) (fun t ht _ => ⟨rfl, ht⟩) hf hd hlk
    · cases h1
  · rcases hlen with q | rfl
    · cases q
    split at h1
    · next n hty => cases h1; exact W.aret hx hb (hr.trans hty) (Or.inl ⟨_, rfl⟩) (Or.inl rfl) (fun t ht _ => ⟨rfl, ht⟩) hf hd hlk
    · next n hty => cases h1; exact W.aret hx hb (hr.trans hty) (Or.inr ⟨_, rfl⟩) (Or.inl rfl) (fun t ht _ => ⟨rfl, ht⟩) hf hd hlk
    · cases h1
  · rcases hlen with q | rfl
    · cases q
    split at h1
    · next hty => cases h1; exact W.vret hx hb (hr.trans hty) (fun t ht _ => ⟨rfl, ht⟩) hf hd hlk
    · cases h1
  · cases h1
/-- the invocation, as if it had begun at the heap that stands now -/
theorem px_rebase {T : State} {locs : List Loc} {cells slots : Nat} (X : Stand p l e R s m args below meth c T locs cells slots) (hc : cells ≤ R.cells) (hs : slots ≤ R.slots) :
    Stand p l e { frames := R.frames, cells := R.cells - cells, slots := R.slots - slots, locals := R.locals } (T.setFrames (.invoking m args :: below)) m args below meth c T [] 0 0 := by
  obtain ⟨g₀, hfr⟩ := X.frames_eq
  have hcur : T.cur < T.threads.size := State.cur_lt_of_frames hfr
  have hf : (T.setFrames (.invoking m args :: below)).frames = .invoking m args :: below := State.frames_setFrames _ hcur
  obtain ⟨th, hth, -⟩ := State.frames_cons hf
  have hm : (T.setFrames (.invoking m args :: below)).vm.method? m = some meth := X.method'
  have hloc : (T.setFrames (.invoking m args :: below)).localsInUse = s.localsInUse := by
    rw [State.localsInUse_invoking hf hm X.code, State.localsInUse_invoking X.frames X.method X.code]
  have hlim : e.platform.stackLimits (T.setFrames (.invoking m args :: below)).me = e.platform.stackLimits s.me := by rw [State.stackLimits_setFrames]; exact X.limits
  have hby : (T.setFrames (.invoking m args :: below)).me.stackBytes = s.me.stackBytes := by rw [State.stackBytes_setFrames]; exact X.bytes
  have hTs : T = (T.setFrames (.invoking m args :: below)).setFrames T.frames := by
    obtain ⟨t0, ht0, -⟩ := State.frames_cons hfr
    rw [State.setFrames_setFrames, State.setFrames_self ht0]
  refine ⟨X.admits, X.cas, X.clock, hf, ?_, ?_, hm, X.code, X.here, X.tail, State.WarmedH.refl _, by rw [hlim]; exact X.limits, by rw [hby]; exact X.bytes, ?_⟩
  · have hr := X.room
    have hsz := X.heapSize
    have hus := X.used
    simp only [State.hasRoom, Bool.and_eq_true, decide_eq_true_eq] at hr ⊢
    rw [hloc, hlim, hby, hf]
    rw [X.frames] at hr
    refine ⟨⟨⟨⟨hr.1.1.1.1, hr.1.1.1.2⟩, ?_⟩, ?_⟩, X.book⟩
    · have := hr.1.1.2
      show T.heap.size + (R.cells - cells) ≤ _
      omega
    · have := hr.1.2
      show T.slotsUsed + (R.slots - slots) ≤ _
      omega
  · have hh := X.hears
    unfold State.hears at hh ⊢
    cases below with
    | nil =>
      show (T.vm.method? m).any _ = true
      rw [X.warmed.alike.method?]
      exact hh
    | cons b r =>
      cases b <;> first
        | exact hh
        | (show (T.vm.method? m).any _ = true
           rw [X.warmed.alike.method?]
           exact hh)
        | (simp only [State.code?_eq] at hh ⊢
           show (((T.vm.method? _).bind _).bind _).isSome = true
           rw [X.warmed.alike.method?]
           exact hh)
  · have h1 := (State.sameButNew.refl (T.setFrames (.invoking m args :: below)) hth).setFrames T.frames (State.cur_lt_of_frames hf)
    rw [← hTs] at h1
    exact h1
end PXE
