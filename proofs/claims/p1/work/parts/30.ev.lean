/-! RUNS WITHOUT A NUMBER OF STEPS -/
section EV
variable {G : px_G} {sx : Nat × (Nat → Int32)}
theorem px_mono {n : Nat} : ∀ {k pc : Nat} {L : px_L} {S : List Value} {h : px_H} {r : px_O × px_H}, px_run G sx n k pc L S h = some r → px_run G sx (n + 1) k pc L S h = some r := by
  induction n with
  | zero => intro k pc L S h r hr; simp [px_run] at hr
  | succ n ih =>
    intro k pc L S h r hr
    rw [px_run] at hr ⊢
    cases hM : px_Gm G k with
    | none => simp only [hM] at hr; cases hr
    | some M =>
      cases hi : px_Gi G k pc with
      | none => simp only [hM, hi] at hr; cases hr
      | some il =>
        obtain ⟨i, len⟩ := il
        simp only [hM, hi] at hr ⊢
        cases hk : px_kind i with
        | some q =>
          obtain ⟨kd, idx⟩ := q
          simp only [hk] at hr ⊢
          cases hc : px_Gc G (px_Mo M) idx with
          | none => simp only [hc] at hr; cases hr
          | some k' =>
            simp only [hc] at hr ⊢
            by_cases hk' : k' < 1000
            · rw [if_pos hk'] at hr ⊢
              cases hM' : px_Gm G k' with
              | none => simp only [hM'] at hr; cases hr
              | some M' =>
                simp only [hM'] at hr ⊢
                cases htk : px_take (px_Ma M') S with
                | none => simp only [htk] at hr; cases hr
                | some ar =>
                  obtain ⟨as, rest⟩ := ar
                  simp only [htk] at hr ⊢
                  by_cases hcd : px_recv M' h kd as = true ∧ px_fitM M M' (px_wt rest) = true ∧ (px_ent as).length ≤ px_Ml M'
                  · rw [if_pos hcd] at hr ⊢
                    cases hin : px_run G sx n k' 0 (px_entry (px_Ml M') as) [] h with
                    | none => simp only [hin] at hr; cases hr
                    | some oh =>
                      obtain ⟨o1, h1⟩ := oh
                      rw [ih hin]
                      simp only [hin] at hr
                      cases o1 with
                      | inl v => exact ih hr
                      | inr q =>
                        simp only at hr ⊢
                        by_cases hnh : px_Mh M = []
                        · rw [if_pos hnh] at hr ⊢; exact hr
                        · rw [if_neg hnh] at hr ⊢
                          cases hq : h1.2[q]? with
                          | none => simp only [hq] at hr; cases hr
                          | some x =>
                            rcases x with ⟨c, fs⟩ | x
                            · simp only [hq] at hr ⊢
                              cases hhp : px_hand (px_Mh M) pc c with
                              | none => simp only [hhp] at hr; cases hr
                              | some hp => simp only [hhp] at hr ⊢; exact ih hr
                            · simp only [hq] at hr; cases hr
                  · rw [if_neg hcd] at hr; cases hr
            · rw [if_neg hk'] at hr ⊢
              cases hp : px_prim (px_Mf M) (px_Mw M) k' kd S h with
              | none => simp only [hp] at hr; cases hr
              | some vh =>
                obtain ⟨S1, h1⟩ := vh
                simp only [hp] at hr ⊢
                exact ih hr
        | none =>
          simp only [hk] at hr ⊢
          cases hrt : px_retv M i S with
          | some v => simp only [hrt] at hr ⊢; exact hr
          | none =>
            simp only [hrt] at hr ⊢
            cases h1 : px_one G sx M pc L S h i with
            | some q =>
              obtain ⟨pc', L', S', h2⟩ := q
              simp only [h1] at hr ⊢
              exact ih hr
            | none =>
              simp only [h1] at hr ⊢
              exact hr
theorem px_mono_le {n n' : Nat} (hn : n ≤ n') {k pc : Nat} {L : px_L} {S : List Value} {h : px_H} {r : px_O × px_H} (hr : px_run G sx n k pc L S h = some r) : px_run G sx n' k pc L S h = some r := by
  induction hn with
  | refl => exact hr
  | step _ ih => exact px_mono ih
/-- the run from here ends so -/
def px_Ev (G : px_G) (sx : Nat × (Nat → Int32)) (k pc : Nat) (L : px_L) (S : List Value) (h : px_H) (o : px_O) (h' : px_H) : Prop := ∃ n, px_run G sx n k pc L S h = some (o, h')
variable {k pc : Nat} {L : px_L} {S : List Value} {h h' h1 : px_H} {o : px_O} {M M' : px_M} {i : Instr} {len : Nat}
theorem px_Ev.of {n : Nat} (e : px_run G sx n k pc L S h = some (o, h')) : px_Ev G sx k pc L S h o h' := ⟨n, e⟩
theorem px_Ev.step (hM : px_Gm G k = some M) (hi : px_Gi G k pc = some (i, len)) (hk : px_kind i = none) (hr : px_retv M i S = none) {pc' : Nat} {L' : px_L} {S' : List Value} (h1' : px_one G sx M pc L S h i = some (pc', L', S', h1)) (e : px_Ev G sx k pc' L' S' h1 o h') : px_Ev G sx k pc L S h o h' := by
  obtain ⟨n, hn⟩ := e
  exact ⟨n + 1, by rw [px_run]; simp only [hM, hi, hk, hr, h1']; exact hn⟩
theorem px_Ev.ret (hM : px_Gm G k = some M) (hi : px_Gi G k pc = some (i, len)) (hk : px_kind i = none) {v : Option Value} (hr : px_retv M i S = some v) : px_Ev G sx k pc L S h (.inl v) h := ⟨1, by rw [px_run]; simp only [hM, hi, hk, hr]⟩
theorem px_Ev.call (hM : px_Gm G k = some M) (hi : px_Gi G k pc = some (i, len)) {kd idx k' : Nat} (hk : px_kind i = some (kd, idx)) (hc : px_Gc G (px_Mo M) idx = some k') (hk' : k' < 1000) (hM' : px_Gm G k' = some M') {as rest : List Value} (ht : px_take (px_Ma M') S = some (as, rest))
    (hcd : px_recv M' h kd as = true ∧ px_fitM M M' (px_wt rest) = true ∧ (px_ent as).length ≤ px_Ml M') {v : Option Value} (e1 : px_Ev G sx k' 0 (px_entry (px_Ml M') as) [] h (.inl v) h1) (e2 : px_Ev G sx k (pc + 3) L (v.toList ++ rest) h1 o h') : px_Ev G sx k pc L S h o h' := by
  obtain ⟨n1, hn1⟩ := e1
  obtain ⟨n2, hn2⟩ := e2
  refine ⟨max n1 n2 + 1, ?_⟩
  rw [px_run]
  simp only [hM, hi, hk, hc, if_pos hk', hM', ht, if_pos hcd, px_mono_le (Nat.le_max_left n1 n2) hn1, px_mono_le (Nat.le_max_right n1 n2) hn2]
theorem px_Ev.callPass (hM : px_Gm G k = some M) (hi : px_Gi G k pc = some (i, len)) {kd idx k' : Nat} (hk : px_kind i = some (kd, idx)) (hc : px_Gc G (px_Mo M) idx = some k') (hk' : k' < 1000) (hM' : px_Gm G k' = some M') {as rest : List Value} (ht : px_take (px_Ma M') S = some (as, rest))
    (hcd : px_recv M' h kd as = true ∧ px_fitM M M' (px_wt rest) = true ∧ (px_ent as).length ≤ px_Ml M') {r : Nat} (e1 : px_Ev G sx k' 0 (px_entry (px_Ml M') as) [] h (.inr r) h1) (hn : px_Mh M = []) : px_Ev G sx k pc L S h (.inr r) h1 := by
  obtain ⟨n1, hn1⟩ := e1
  refine ⟨n1 + 1, ?_⟩
  rw [px_run]
  simp only [hM, hi, hk, hc, if_pos hk', hM', ht, if_pos hcd, hn1, if_pos hn]
theorem px_Ev.callCatch (hM : px_Gm G k = some M) (hi : px_Gi G k pc = some (i, len)) {kd idx k' : Nat} (hk : px_kind i = some (kd, idx)) (hc : px_Gc G (px_Mo M) idx = some k') (hk' : k' < 1000) (hM' : px_Gm G k' = some M') {as rest : List Value} (ht : px_take (px_Ma M') S = some (as, rest))
    (hcd : px_recv M' h kd as = true ∧ px_fitM M M' (px_wt rest) = true ∧ (px_ent as).length ≤ px_Ml M') {r cn hp : Nat} {fs : List Value} (e1 : px_Ev G sx k' 0 (px_entry (px_Ml M') as) [] h (.inr r) h1) (hn : px_Mh M ≠ []) (hr : h1.2[r]? = some (.inl (cn, fs))) (hh : px_hand (px_Mh M) pc cn = some hp)
    (e2 : px_Ev G sx k hp L [.ref r] h1 o h') : px_Ev G sx k pc L S h o h' := by
  obtain ⟨n1, hn1⟩ := e1
  obtain ⟨n2, hn2⟩ := e2
  refine ⟨max n1 n2 + 1, ?_⟩
  rw [px_run]
  simp only [hM, hi, hk, hc, if_pos hk', hM', ht, if_pos hcd, px_mono_le (Nat.le_max_left n1 n2) hn1, if_neg hn, hr, hh, px_mono_le (Nat.le_max_right n1 n2) hn2]
theorem px_Ev.thr (hM : px_Gm G k = some M) {idx : Nat} (hi : px_Gi G k pc = some (.new idx, len)) (h1' : px_one G sx M pc L S h (.new idx) = none) (ht : px_thr G k M pc S h idx = some h') : px_Ev G sx k pc L S h (.inr h.2.length) h' := ⟨1, by rw [px_run]; simp only [hM, hi, px_kind, px_retv, h1', ht, Option.map_some]⟩
theorem px_Ev.prim (hM : px_Gm G k = some M) (hi : px_Gi G k pc = some (i, len)) {kd idx k' : Nat} (hk : px_kind i = some (kd, idx)) (hc : px_Gc G (px_Mo M) idx = some k') (hk' : ¬ k' < 1000) {S1 : List Value} (hp : px_prim (px_Mf M) (px_Mw M) k' kd S h = some (S1, h1))
    (e : px_Ev G sx k (pc + 3) L S1 h1 o h') : px_Ev G sx k pc L S h o h' := by
  obtain ⟨n, hn⟩ := e
  refine ⟨n + 1, ?_⟩
  rw [px_run]
  simp only [hM, hi, hk, hc, if_neg hk', hp, hn]
end EV
