/-! WHAT A RUN COMES TO: by rewriting -/
def px_Wp (sx : Nat × (Nat → Int32)) (k pc : Nat) (L : px_L) (S : List Value) (h : px_H) (Q : px_O → px_H → Prop) : Prop := ∃ o h', px_Ev px_G0 sx k pc L S h o h' ∧ Q o h'
def px_op {α : Type} (o : Option α) (K : α → Prop) : Prop := match o with
  | some a => K a
  | none => False
theorem px_op_some {α : Type} (a : α) (K : α → Prop) : px_op (some a) K ↔ K a := Iff.rfl
theorem px_op_none {α : Type} (K : α → Prop) : px_op none K ↔ False := Iff.rfl
/-! what comes behind an instruction that reads or writes, as a name: rewriting does not look into it -/
def px_kv (sx : Nat × (Nat → Int32)) (k pc : Nat) (L : px_L) (S : List Value) (h : px_H) (Q : px_O → px_H → Prop) (v : Value) : Prop := px_Wp sx k pc L (v :: S) h Q
def px_ki (sx : Nat × (Nat → Int32)) (k pc : Nat) (L : px_L) (S : List Value) (h : px_H) (Q : px_O → px_H → Prop) (x : Int32) : Prop := px_Wp sx k pc L (.int x :: S) h Q
def px_kl (sx : Nat × (Nat → Int32)) (k pc : Nat) (L : px_L) (S : List Value) (h : px_H) (Q : px_O → px_H → Prop) (x : Int64) : Prop := px_Wp sx k pc L (.long x :: S) h Q
def px_kn (sx : Nat × (Nat → Int32)) (k pc : Nat) (L : px_L) (S : List Value) (h : px_H) (Q : px_O → px_H → Prop) (n : Nat) : Prop := px_Wp sx k pc L (.int (Int32.ofNat n) :: S) h Q
def px_kh (sx : Nat × (Nat → Int32)) (k pc : Nat) (L : px_L) (S : List Value) (Q : px_O → px_H → Prop) (h : px_H) : Prop := px_Wp sx k pc L S h Q
theorem px_kv_ap (sx : Nat × (Nat → Int32)) (k pc : Nat) (L : px_L) (S : List Value) (h : px_H) (Q : px_O → px_H → Prop) (v : Value) : px_kv sx k pc L S h Q v ↔ px_Wp sx k pc L (v :: S) h Q := Iff.rfl
theorem px_ki_ap (sx : Nat × (Nat → Int32)) (k pc : Nat) (L : px_L) (S : List Value) (h : px_H) (Q : px_O → px_H → Prop) (x : Int32) : px_ki sx k pc L S h Q x ↔ px_Wp sx k pc L (.int x :: S) h Q := Iff.rfl
theorem px_kl_ap (sx : Nat × (Nat → Int32)) (k pc : Nat) (L : px_L) (S : List Value) (h : px_H) (Q : px_O → px_H → Prop) (x : Int64) : px_kl sx k pc L S h Q x ↔ px_Wp sx k pc L (.long x :: S) h Q := Iff.rfl
theorem px_kn_ap (sx : Nat × (Nat → Int32)) (k pc : Nat) (L : px_L) (S : List Value) (h : px_H) (Q : px_O → px_H → Prop) (n : Nat) : px_kn sx k pc L S h Q n ↔ px_Wp sx k pc L (.int (Int32.ofNat n) :: S) h Q := Iff.rfl
theorem px_kh_ap (sx : Nat × (Nat → Int32)) (k pc : Nat) (L : px_L) (S : List Value) (Q : px_O → px_H → Prop) (h : px_H) : px_kh sx k pc L S Q h ↔ px_Wp sx k pc L S h Q := Iff.rfl
section WP
variable {sx : Nat × (Nat → Int32)} {k pc : Nat} {L : px_L} {S : List Value} {h : px_H} {Q : px_O → px_H → Prop} {M M' : px_M} {i : Instr} {len : Nat}
theorem wp_mono {Q' : px_O → px_H → Prop} (w : px_Wp sx k pc L S h Q) (hQ : ∀ o h', Q o h' → Q' o h') : px_Wp sx k pc L S h Q' := by
  obtain ⟨o, h', e, q⟩ := w
  exact ⟨o, h', e, hQ o h' q⟩
theorem wp_st (hM : px_Gm px_G0 k = some M) (hi : px_Gi px_G0 k pc = some (i, len)) (hk : px_kind i = none) (hr : px_retv M i S = none) {pc' : Nat} {L' : px_L} {S' : List Value} {h1 : px_H} (h1' : px_one px_G0 sx M pc L S h i = some (pc', L', S', h1)) : px_Wp sx k pc L S h Q ↔ px_Wp sx k pc' L' S' h1 Q := by
  constructor
  · rintro ⟨o, h', ⟨n, hn⟩, q⟩
    cases n with
    | zero => simp [px_run] at hn
    | succ n =>
      rw [px_run] at hn
      simp only [hM, hi, hk, hr, h1'] at hn
      exact ⟨o, h', ⟨n, hn⟩, q⟩
  · rintro ⟨o, h', e, q⟩
    exact ⟨o, h', px_Ev.step hM hi hk hr h1' e, q⟩
/-- an instruction that may have nowhere to go (no exception is thrown here) -/
theorem wp_on (hM : px_Gm px_G0 k = some M) (hi : px_Gi px_G0 k pc = some (i, len)) (hk : px_kind i = none) (hr : px_retv M i S = none) (hn : ∀ idx, i = .new idx → px_thr px_G0 k M pc S h idx = none) : px_Wp sx k pc L S h Q ↔ px_op (px_one px_G0 sx M pc L S h i) (fun q => px_Wp sx k q.1 q.2.1 q.2.2.1 q.2.2.2 Q) := by
  cases h1' : px_one px_G0 sx M pc L S h i with
  | some q => exact wp_st hM hi hk hr h1'
  | none =>
    refine ⟨?_, False.elim⟩
    rintro ⟨o, h', ⟨n, hn'⟩, q⟩
    cases n with
    | zero => simp [px_run] at hn'
    | succ n =>
      rw [px_run] at hn'
      simp only [hM, hi, hk, hr, h1'] at hn'
      split at hn'
      · next idx => rw [hn idx rfl] at hn'; cases hn'
      · cases hn'
theorem wp_ret (hM : px_Gm px_G0 k = some M) (hi : px_Gi px_G0 k pc = some (i, len)) (hk : px_kind i = none) {v : Option Value} (hr : px_retv M i S = some v) : px_Wp sx k pc L S h Q ↔ Q (.inl v) h := by
  constructor
  · rintro ⟨o, h', ⟨n, hn⟩, q⟩
    cases n with
    | zero => simp [px_run] at hn
    | succ n =>
      rw [px_run] at hn
      simp only [hM, hi, hk, hr] at hn
      cases hn
      exact q
  · intro q
    exact ⟨_, _, px_Ev.ret hM hi hk hr, q⟩
theorem wp_call {kd idx k' : Nat} (hM : px_Gm px_G0 k = some M) (hi : px_Gi px_G0 k pc = some (i, len)) (hk : px_kind i = some (kd, idx)) (hc : px_Gc px_G0 (px_Mo M) idx = some k') (hk' : k' < 1000) (hM' : px_Gm px_G0 k' = some M') {as rest : List Value} (ht : px_take (px_Ma M') S = some (as, rest))
    (hrc : px_recv M' h kd as = true) (hcd : px_fitM M M' (px_wt rest) = true ∧ (px_ent as).length ≤ px_Ml M') (hh : px_Mh M = []) : px_Wp sx k pc L S h Q ↔ px_Wp sx k' 0 (px_entry (px_Ml M') as) [] h (fun o h1 => match o with
      | .inl v => px_Wp sx k (pc + 3) L (v.toList ++ rest) h1 Q
      | .inr r => Q (.inr r) h1) := by
  constructor
  · rintro ⟨o, h', ⟨n, hn⟩, q⟩
    cases n with
    | zero => simp [px_run] at hn
    | succ n =>
      rw [px_run] at hn
      simp only [hM, hi, hk, hc, if_pos hk', hM', ht, if_pos (⟨hrc, hcd⟩ : px_recv M' h kd as = true ∧ px_fitM M M' (px_wt rest) = true ∧ (px_ent as).length ≤ px_Ml M')] at hn
      cases hin : px_run px_G0 sx n k' 0 (px_entry (px_Ml M') as) [] h with
      | none => simp only [hin] at hn; cases hn
      | some oh =>
        obtain ⟨o1, h1⟩ := oh
        simp only [hin] at hn
        cases o1 with
        | inl v => exact ⟨_, _, ⟨n, hin⟩, o, h', ⟨n, hn⟩, q⟩
        | inr r =>
          simp only [if_pos hh] at hn
          cases hn
          exact ⟨_, _, ⟨n, hin⟩, q⟩
  · rintro ⟨o1, h1, e1, w⟩
    cases o1 with
    | inl v =>
      obtain ⟨o, h', e, q⟩ := w
      exact ⟨o, h', px_Ev.call hM hi hk hc hk' hM' ht ⟨hrc, hcd⟩ e1 e, q⟩
    | inr r => exact ⟨_, _, px_Ev.callPass hM hi hk hc hk' hM' ht ⟨hrc, hcd⟩ e1 hh, w⟩
/-- a call where exceptions are caught: only this way is asked -/
theorem wp_callH {kd idx k' : Nat} (hM : px_Gm px_G0 k = some M) (hi : px_Gi px_G0 k pc = some (i, len)) (hk : px_kind i = some (kd, idx)) (hc : px_Gc px_G0 (px_Mo M) idx = some k') (hk' : k' < 1000) (hM' : px_Gm px_G0 k' = some M') {as rest : List Value} (ht : px_take (px_Ma M') S = some (as, rest))
    (hrc : px_recv M' h kd as = true) (hcd : px_fitM M M' (px_wt rest) = true ∧ (px_ent as).length ≤ px_Ml M') (hh : px_Mh M ≠ []) (w : px_Wp sx k' 0 (px_entry (px_Ml M') as) [] h (fun o h1 => match o with
      | .inl v => px_Wp sx k (pc + 3) L (v.toList ++ rest) h1 Q
      | .inr r => ∃ cn fs hp, h1.2[r]? = some (.inl (cn, fs)) ∧ px_hand (px_Mh M) pc cn = some hp ∧ px_Wp sx k hp L [.ref r] h1 Q)) : px_Wp sx k pc L S h Q := by
  obtain ⟨o1, h1, e1, w⟩ := w
  cases o1 with
  | inl v =>
    obtain ⟨o, h', e, q⟩ := w
    exact ⟨o, h', px_Ev.call hM hi hk hc hk' hM' ht ⟨hrc, hcd⟩ e1 e, q⟩
  | inr r =>
    obtain ⟨cn, fs, hp, hr, hhd, o, h', e, q⟩ := w
    exact ⟨o, h', px_Ev.callCatch hM hi hk hc hk' hM' ht ⟨hrc, hcd⟩ e1 hh hr hhd e, q⟩
theorem wp_thr (hM : px_Gm px_G0 k = some M) {idx : Nat} (hi : px_Gi px_G0 k pc = some (.new idx, len)) (h1' : px_one px_G0 sx M pc L S h (.new idx) = none) {h' : px_H} (ht : px_thr px_G0 k M pc S h idx = some h') : px_Wp sx k pc L S h Q ↔ Q (.inr h.2.length) h' := by
  constructor
  · rintro ⟨o, h2, ⟨n, hn⟩, q⟩
    cases n with
    | zero => simp [px_run] at hn
    | succ n =>
      rw [px_run] at hn
      simp only [hM, hi, px_kind, px_retv, h1', ht, Option.map_some] at hn
      cases hn
      exact q
  · intro q
    exact ⟨_, _, px_Ev.thr hM hi h1' ht, q⟩
theorem wp_prim {kd idx k' : Nat} (hM : px_Gm px_G0 k = some M) (hi : px_Gi px_G0 k pc = some (i, len)) (hk : px_kind i = some (kd, idx)) (hc : px_Gc px_G0 (px_Mo M) idx = some k') (hk' : ¬ k' < 1000) {S1 : List Value} {h1 : px_H} (hp : px_prim (px_Mf M) (px_Mw M) k' kd S h = some (S1, h1)) : px_Wp sx k pc L S h Q ↔ px_Wp sx k (pc + 3) L S1 h1 Q := by
  constructor
  · rintro ⟨o, h2, ⟨n, hn⟩, q⟩
    cases n with
    | zero => simp [px_run] at hn
    | succ n =>
      rw [px_run] at hn
      simp only [hM, hi, hk, hc, if_neg hk', hp] at hn
      exact ⟨o, h2, ⟨n, hn⟩, q⟩
  · rintro ⟨o, h2, e, q⟩
    exact ⟨o, h2, px_Ev.prim hM hi hk hc hk' hp e, q⟩
theorem wp_primN {kd idx k' : Nat} (hM : px_Gm px_G0 k = some M) (hi : px_Gi px_G0 k pc = some (i, len)) (hk : px_kind i = some (kd, idx)) (hc : px_Gc px_G0 (px_Mo M) idx = some k') (hk' : ¬ k' < 1000) (hp : px_prim (px_Mf M) (px_Mw M) k' kd S h = none) : ¬ px_Wp sx k pc L S h Q := by
  rintro ⟨o, h2, ⟨n, hn⟩, q⟩
  cases n with
  | zero => simp [px_run] at hn
  | succ n =>
    rw [px_run] at hn
    simp only [hM, hi, hk, hc, if_neg hk', hp] at hn
    cases hn
end WP
