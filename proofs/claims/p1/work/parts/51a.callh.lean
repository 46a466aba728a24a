/-! CALLS WHERE EXCEPTIONS ARE CAUGHT -/
def px_KH (sx : Nat × (Nat → Int32)) (k pc : Nat) (hs : List px_Hd) (L : px_L) (rest : List Value) (Q : px_O → px_H → Prop) : px_O → px_H → Prop := fun o h1 => match o with
  | .inl v => px_Wp sx k (pc + 3) L (v.toList ++ rest) h1 Q
  | .inr r => px_op (px_cls h1 r) (fun cn => px_op (px_hand hs pc cn) (fun hp => px_Wp sx k hp L [.ref r] h1 Q))
theorem px_KH_some {sx : Nat × (Nat → Int32)} {k pc : Nat} {hs : List px_Hd} {L : px_L} {rest : List Value} {Q : px_O → px_H → Prop} {v : Value} {h1 : px_H} : px_KH sx k pc hs L rest Q (.inl (some v)) h1 ↔ px_Wp sx k (pc + 3) L (v :: rest) h1 Q := Iff.rfl
theorem px_KH_none {sx : Nat × (Nat → Int32)} {k pc : Nat} {hs : List px_Hd} {L : px_L} {rest : List Value} {Q : px_O → px_H → Prop} {h1 : px_H} : px_KH sx k pc hs L rest Q (.inl none) h1 ↔ px_Wp sx k (pc + 3) L rest h1 Q := Iff.rfl
theorem px_KH_thr {sx : Nat × (Nat → Int32)} {k pc : Nat} {hs : List px_Hd} {L : px_L} {rest : List Value} {Q : px_O → px_H → Prop} {r : Nat} {h1 : px_H} : px_KH sx k pc hs L rest Q (.inr r) h1 ↔ px_op (px_cls h1 r) (fun cn => px_op (px_hand hs pc cn) (fun hp => px_Wp sx k hp L [.ref r] h1 Q)) := Iff.rfl
section WPH
variable {sx : Nat × (Nat → Int32)} {k pc : Nat} {L : px_L} {S : List Value} {h : px_H} {Q : px_O → px_H → Prop} {M M' : px_M} {i : Instr} {len : Nat}
theorem wp_cvh {idx k' r : Nat} (hM : px_Gm px_G0 k = some M) (hi : px_Gi px_G0 k pc = some (.invokevirtual idx, 3)) (hc : px_Gc px_G0 (px_Mo M) idx = some k') (hk' : k' < 1000) (hM' : px_Gm px_G0 k' = some M') {as rest : List Value} (ht : px_take (px_Ma M') S = some (.ref r :: as, rest)) (hcd : px_fitM M M' (px_wt rest) = true ∧ (px_ent (.ref r :: as)).length ≤ px_Ml M') {hs : List px_Hd} (hh : px_Mh M = hs) (hne : hs ≠ []) {L1 : px_L} (hL : px_entry (px_Ml M') (.ref r :: as) = L1) {cn : Nat} (hcn : px_Mo M' = cn) :
    px_Wp sx k pc L S h Q ↔ px_cls h r = some cn ∧ px_Wp sx k' 0 L1 [] h (px_KH sx k pc hs L rest Q) := by
  subst hL; subst hcn; subst hh
  have hrcl : px_recv M' h 1 (.ref r :: as) = true ↔ px_cls h r = some (px_Mo M') := by
    simp only [px_recv, px_cls]
    cases h.2[r]? with
    | none => simp
    | some x => rcases x with ⟨c, fs⟩ | x <;> simp
  constructor
  · rintro ⟨o, h', ⟨n, hn⟩, q⟩
    cases n with
    | zero => simp [px_run] at hn
    | succ n =>
      rw [px_run] at hn
      simp only [hM, hi, px_kind, hc, if_pos hk', hM', ht] at hn
      by_cases hrc : px_recv M' h 1 (.ref r :: as) = true
      · rw [if_pos ⟨hrc, hcd⟩] at hn
        refine ⟨hrcl.mp hrc, ?_⟩
        cases hin : px_run px_G0 sx n k' 0 (px_entry (px_Ml M') (.ref r :: as)) [] h with
        | none => simp only [hin] at hn; cases hn
        | some oh =>
          obtain ⟨o1, h1⟩ := oh
          simp only [hin] at hn
          cases o1 with
          | inl v => exact ⟨_, _, ⟨n, hin⟩, o, h', ⟨n, hn⟩, q⟩
          | inr r1 =>
            refine ⟨_, _, ⟨n, hin⟩, ?_⟩
            simp only [if_neg hne] at hn
            show px_op (px_cls h1 r1) _
            cases hx : h1.2[r1]? with
            | none => simp only [hx] at hn; cases hn
            | some x =>
              rcases x with ⟨c, fs⟩ | x
              · simp only [hx] at hn
                have : px_cls h1 r1 = some c := by simp only [px_cls, hx]
                rw [this]
                show px_op (px_hand (px_Mh M) pc c) _
                cases hhp : px_hand (px_Mh M) pc c with
                | none => simp only [hhp] at hn; cases hn
                | some hp => simp only [hhp] at hn; exact ⟨o, h', ⟨n, hn⟩, q⟩
              · simp only [hx] at hn; cases hn
      · rw [if_neg (fun q => hrc q.1)] at hn
        cases hn
  · rintro ⟨hcl, o1, h1, e1, w⟩
    have hrc := hrcl.mpr hcl
    cases o1 with
    | inl v =>
      obtain ⟨o, h', e, q⟩ := w
      exact ⟨o, h', px_Ev.call hM hi rfl hc hk' hM' ht ⟨hrc, hcd⟩ e1 e, q⟩
    | inr r1 =>
      have w1 : px_op (px_cls h1 r1) (fun cn => px_op (px_hand (px_Mh M) pc cn) (fun hp => px_Wp sx k hp L [.ref r1] h1 Q)) := w
      cases hx : h1.2[r1]? with
      | none => simp [px_cls, hx, px_op] at w1
      | some x =>
        rcases x with ⟨c, fs⟩ | x
        · simp only [px_cls, hx, px_op] at w1
          cases hhp : px_hand (px_Mh M) pc c with
          | none => simp only [hhp] at w1
          | some hp =>
            simp only [hhp] at w1
            obtain ⟨o, h', e, q⟩ := w1
            exact ⟨o, h', px_Ev.callCatch hM hi rfl hc hk' hM' ht ⟨hrc, hcd⟩ e1 hne hx hhp e, q⟩
        · simp [px_cls, hx, px_op] at w1
end WPH
