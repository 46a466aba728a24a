/-! THE PROGRAM IS AS THE TABLES SAY -/
theorem px_N0 : (px_meths.all fun M => decide (px_Mn M = px_on (px_Mo M))) = true := by decide +kernel
theorem px_H0 : (px_meths.all fun M => (px_Mh M).all fun q => decide (q.2.2.2.1 ≠ 0) && decide (px_NC ≤ q.2.2.2.2) && (match px_cl[q.2.2.2.2]? with
  | some r => px_has (.classLink (px_Mn M) q.2.2.2.1 r.1)
  | none => false)) = true := by decide +kernel
theorem px_len3 : px_codes.length = 278 ∧ px_meths.length = 278 ∧ px_knd.length = 278 ∧ px_mps.length = 278 := by decide +kernel
theorem px_Y_of {M' : px_M} {kd : Nat} {ps : Nat × Nat × Nat} (h : px_chkY M' kd ps = true) : px_GoodY px_Ts M' ∧
    (kd = 0 → Jvm.Cond.static (px_Mm M') ∈ px_Ts ∧ Jvm.Cond.initialized (px_Mm M').cls ∈ px_Ts ∧ (parseMethodDescriptor (px_Mm M').desc).map (fun d => d.parameters.length) = some (px_Ma M')) ∧
    (kd ≠ 0 → Jvm.Cond.instanceMethod (px_Mm M') ∈ px_Ts ∧ (parseMethodDescriptor (px_Mm M').desc).map (fun d => d.parameters.length + 1) = some (px_Ma M')) ∧
    (kd = 1 → Jvm.Cond.selects (px_Mn M') (px_Mm M') (px_Mm M') ∈ px_Ts ∧ ∃ q : vw_C, px_cl[px_Mo M']? = some q ∧ q.1 = px_Mn M') ∧
    (kd = 2 → (px_Mm M').name = "<init>" ∧ px_Mr M' = none ∧ px_Mh M' = [] ∧ Jvm.Cond.code (px_Mm M') (px_Mb M') (px_Ml M') (px_Mr M') ∈ px_Ts) := by
  unfold px_chkY at h
  simp only [Bool.and_eq_true, decide_eq_true_eq] at h
  obtain ⟨⟨⟨⟨h1, h2⟩, h3⟩, h4⟩, h5⟩ := h
  have hP := List.all_eq_true.mp px_P0 _ h3
  simp only [Bool.and_eq_true, decide_eq_true_eq] at hP
  rw [← h2] at hP
  have hY : px_GoodY px_Ts M' := by
    refine ⟨h1, ⟨by rw [h1]; exact hP.1.2, by rw [h1]; exact hP.2⟩, plainFor_of_name (by rw [h1]; exact hP.1.1), ?_⟩
    by_cases hh : px_Mh M' = []
    · rw [if_pos hh] at h4
      exact Or.inl ⟨hh, px_chk_mem h4⟩
    · rw [if_neg hh] at h4
      exact Or.inr (px_chk_mem h4)
  refine ⟨hY, ?_⟩
  rcases kd with _ | _ | _ | kd
  · simp only [Bool.and_eq_true, decide_eq_true_eq] at h5
    exact ⟨fun _ => ⟨px_chk_mem h5.1.1, px_chk_mem h5.1.2, h5.2⟩, fun q => absurd rfl q, (fun q => by omega), (fun q => by omega)⟩
  · simp only [Bool.and_eq_true, decide_eq_true_eq] at h5
    obtain ⟨⟨⟨k1, k2⟩, k3⟩, k4⟩ := h5
    refine ⟨(fun q => by omega), fun _ => ⟨px_chk_mem k1, k3⟩, fun _ => ⟨px_chk_mem k2, ?_⟩, (fun q => by omega)⟩
    have hl : px_Mo M' < px_cl.length := Nat.lt_of_lt_of_le k4 (by decide)
    refine ⟨px_cl[px_Mo M'], List.getElem?_eq_getElem hl, ?_⟩
    rw [h2]
    unfold px_on
    rw [if_neg (by have : px_NC = 12 := rfl; omega), List.getElem?_eq_getElem hl]
    rfl
  · simp only [Bool.and_eq_true, decide_eq_true_eq] at h5
    obtain ⟨⟨⟨⟨k1, k2⟩, k3⟩, k4⟩, k5⟩ := h5
    refine ⟨(fun q => by omega), fun _ => ⟨px_chk_mem k1, k2⟩, (fun q => by omega), fun _ => ⟨k3, k4, k5, ?_⟩⟩
    rw [if_pos k5] at h4
    exact px_chk_mem h4
  · cases h5
theorem px_kind_lt {i : Instr} {kd idx : Nat} (h : px_kind i = some (kd, idx)) : kd < 3 := by
  cases i <;> simp only [px_kind] at h <;> first | (cases h; done) | (cases h; decide)
theorem px_GoodAll0 (k : Nat) (M : px_M) (hM : px_Gm px_G0 k = some M) : px_GoodAll px_G0 px_cl px_Ts k M := by
  have hM' : px_meths[k]? = some M := hM
  have hn : px_Mn M = px_on (px_Mo M) := of_decide_eq_true (List.all_eq_true.mp px_N0 M (List.mem_of_getElem? hM'))
  have hcode : ∀ (pc : Nat) (i : Instr) (len : Nat), px_Gi px_G0 k pc = some (i, len) → decode (px_Mb M) pc = .ok (i, len) ∧ (px_ln i = 0 ∨ len = px_ln i) ∧ px_chkc (px_Mo M) i = true := by
    intro pc i len h
    have h2 : ∃ l, px_codes[k]? = some l ∧ l[pc]? = some (some (i, len)) := by
      change (match px_codes[k]? with
        | some l => match l[pc]? with
          | some o => o
          | none => none
        | none => none) = some (i, len) at h
      split at h
      · next l hl =>
        split at h
        · next o ho => exact ⟨l, hl, by rw [ho, h]⟩
        · cases h
      · cases h
    obtain ⟨l, hl, hp⟩ := h2
    refine px_Dall (l, M) (List.mem_of_getElem? (i := k) ?_) pc i len hp
    rw [List.getElem?_zip_eq_some]
    exact ⟨hl, hM'⟩
  refine ⟨px_GoodM0 hn, px_GoodX0 hn, ?_, fun pc i len h => ⟨(hcode pc i len h).1, (hcode pc i len h).2.1⟩, ?_, ?_, ?_, ?_, ?_, ?_⟩
  · intro q hq
    have h1 := List.all_eq_true.mp (List.all_eq_true.mp px_H0 M (List.mem_of_getElem? hM')) q hq
    simp only [Bool.and_eq_true, decide_eq_true_eq] at h1
    obtain ⟨⟨h2, h3⟩, h4⟩ := h1
    refine ⟨h2, h3, ?_⟩
    split at h4
    · next r hr => exact ⟨r, hr, px_has_mem h4⟩
    · cases h4
  · intro pc i len kd idx k' M2 hi hk hc hk' hM2
    have h1 := (hcode pc i len hi).2.2
    unfold px_chkc at h1
    rw [hk] at h1
    simp only [hc] at h1
    rw [Bool.or_eq_true] at h1
    have hkd : px_knd[k']? = some kd := by
      rcases h1 with h1 | h1
      · have := of_decide_eq_true h1
        omega
      · exact of_decide_eq_true h1
    obtain ⟨⟨o, i2, n2, pos⟩, hr, e1, e2, e3⟩ := px_found (l := px_cals) hc
    dsimp only at e1 e2 e3
    subst e3
    have h2 := List.all_eq_true.mp px_M0 _ hr
    unfold px_chkM at h2
    dsimp only at h2
    have hM3 : px_meths[n2]? = some M2 := hM2
    rw [if_pos hk', hM3] at h2
    have hlt : n2 < px_mps.length := by rw [px_len3.2.2.2, ← px_len3.2.1]; exact (List.getElem?_eq_some_iff.mp hM3).1
    have hm := px_Yall (M2, kd, px_mps[n2]) (List.mem_of_getElem? (i := n2) (by
      rw [List.getElem?_zip_eq_some]
      refine ⟨hM3, ?_⟩
      rw [List.getElem?_zip_eq_some]
      exact ⟨hkd, List.getElem?_eq_getElem hlt⟩))
    have h3 : px_chkY M2 kd px_mps[n2] = true := by
      rcases hm with hm | hm
      · exact hm
      · have := px_kind_lt hk
        dsimp only at hm
        omega
    obtain ⟨y1, y2, y3, y4, y5⟩ := px_Y_of h3
    refine ⟨y1, ?_, y2, y3, y4, y5⟩
    rw [hn, ← e1, ← e2]
    exact px_chk_mem h2
  · intro pc i len kd idx hi hk hc
    obtain ⟨⟨o, i2, n2, pos⟩, hr, e1, e2, e3⟩ := px_found (l := px_cals) hc
    dsimp only at e1 e2 e3
    subst e3
    have h2 := List.all_eq_true.mp px_M0 _ hr
    unfold px_chkM at h2
    dsimp only at h2
    rw [if_neg (by decide), Bool.or_eq_true] at h2
    have h3 := px_O0
    rw [Bool.and_eq_true] at h3
    refine ⟨?_, px_chk_mem h3.1, px_chk_mem h3.2⟩
    rcases h2 with h2 | h2
    · exact absurd rfl (of_decide_eq_true h2)
    · rw [hn, ← e1, ← e2]; exact px_chk_mem h2
  · intro idx hc
    obtain ⟨⟨o, i2, n2, pos⟩, hr, e1, e2, e3⟩ := px_found (l := px_cals) hc
    dsimp only at e1 e2 e3
    subst e3
    have h2 := List.all_eq_true.mp px_M1 _ hr
    unfold px_chkP at h2
    dsimp only at h2
    rw [Bool.and_eq_true, Bool.or_eq_true] at h2
    refine ⟨?_, px_has_mem px_O1.1, px_has_mem px_O1.2.1, px_has_mem px_O1.2.2⟩
    rcases h2.1 with h3 | h3
    · exact absurd rfl (of_decide_eq_true h3)
    · rw [hn, ← e1, ← e2]; exact px_chk_mem h3
  · intro idx hc
    obtain ⟨⟨o, i2, n2, pos⟩, hr, e1, e2, e3⟩ := px_found (l := px_cals) hc
    dsimp only at e1 e2 e3
    subst e3
    have h2 := List.all_eq_true.mp px_M1 _ hr
    unfold px_chkP at h2
    dsimp only at h2
    rw [Bool.and_eq_true, Bool.or_eq_true, Bool.or_eq_true] at h2
    refine ⟨?_, px_has_mem px_O2.1, px_has_mem px_O2.2.1, px_has_mem px_O2.2.2⟩
    rcases h2.2 with h3 | h3
    · exact absurd rfl (of_decide_eq_true h3)
    · rw [hn, ← e1, ← e2]; exact px_chk_mem h3
  · intro idx hc
    obtain ⟨⟨o, i2, n2, pos⟩, hr, e1, e2, e3⟩ := px_found (l := px_cals) hc
    dsimp only at e1 e2 e3
    subst e3
    have h2 := List.all_eq_true.mp px_M2 _ hr
    unfold px_chkS at h2
    dsimp only at h2
    rw [Bool.and_eq_true, Bool.or_eq_true] at h2
    refine px_goodS px_O3 ?_
    rcases h2.1 with h3 | h3
    · exact absurd rfl (of_decide_eq_true h3)
    · rw [hn, ← e1, ← e2]; exact px_chk_mem h3
  · intro idx hc
    obtain ⟨⟨o, i2, n2, pos⟩, hr, e1, e2, e3⟩ := px_found (l := px_cals) hc
    dsimp only at e1 e2 e3
    subst e3
    have h2 := List.all_eq_true.mp px_M2 _ hr
    unfold px_chkS at h2
    dsimp only at h2
    rw [Bool.and_eq_true, Bool.or_eq_true, Bool.or_eq_true] at h2
    refine px_goodS px_O4 ?_
    rcases h2.2 with h3 | h3
    · exact absurd rfl (of_decide_eq_true h3)
    · rw [hn, ← e1, ← e2]; exact px_chk_mem h3
