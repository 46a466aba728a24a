/-! COMMANDS, the class's: join -/
section JOIN
variable {sx : Nat × (Nat → Int32)} {h : px_H} {T n l l2 M : Nat} {E : Nat → aE} {p p2 : Nat → Nat} {f : Nat → Int32} {x4 : Int32} {Q : px_O → px_H → Prop}
set_option maxRecDepth 16384 in
theorem c_join (hSh : h.2[414]? = some (.inl (9, [.ref 415, .ref 417, .ref 419, .int x4]))) (a : enP h 417 l p) (hp : pth p l) (b : enP h 419 l2 p2) (hp2 : pth p2 l2) (t : trR h T n E) (ok : tOK n E) (hT : treT T) (hTd : T + 162 ≤ 414) (hT9 : T = 249)
    (md : rowAt h 415 26000 M f) (hM : M + 2000 ≤ 26000)
    (hQ1 : ∀ i j h' M' f', i < n → eP (E i) = p → eK (E i) = 2 → j < n → eP (E j) = p2 → eK (E j) = 2 → trR h' T n (px_up E i (ctE (E i) (eN (E j)) (eC (E j)))) → rowAt h' 415 26000 M' f' → M' ≤ M + (if eN (E j) = 0 then 0 else eN (E i) + eN (E j)) → frm (mdA T) h h' → (shape h → shape h') → Q (.inl (some (.int 1))) h')
    (hQ0 : ¬ ((∃ i, i < n ∧ eP (E i) = p ∧ eK (E i) = 2) ∧ ∃ j, j < n ∧ eP (E j) = p2 ∧ eK (E j) = 2) → Q (.inl (some (.int 0))) h) :
    px_Wp sx 128 0 [some (.ref 414), some (.ref T), none, none] [] h Q := by
  have cutp := cutP_all hp2
  have h80 := ok.1
  obtain ⟨⟨kd, src, st, cn, o1⟩, -⟩ := id b
  have t1 := t.1
  have hcT : px_cls h T = some 3 := by unfold px_cls; rw [t1]
  have hc4 : px_cls h 414 = some 9 := by unfold px_cls; rw [hSh]
  simp only [pc128_0, pc128_0n, pc128_1, pc128_1n, pc128_2, pc128_5, pc128_5n, pc128_6, pc128_9, pc128_12, px_op_some, px_kv_ap, px_ki_ap, px_kl_ap, px_kn_ap, px_kh_ap, px_op_none, px_K_some, px_K_none, px_K_thr, px_kill, ↓reduceIte, if_true, if_false, true_and, and_true, px_gf, hSh, o1, List.getElem?_cons_zero, List.getElem?_cons_succ, hcT]
  refine c_search t ok b hp2 (Nat.le_refl _) hp2.1 (fun x hx => ?_)
  rw [cutp] at hx
  rcases hx with ⟨j, i1, rfl, i2⟩ | ⟨g, g1, rfl⟩
  · simp only [px_K_some, pc128_15, pc128_16, pc128_16n, pc128_17, pc128_18, px_op_some, px_kv_ap, px_ki_ap, px_kl_ap, px_kn_ap, px_kh_ap, px_op_none, px_K_some, px_K_none, px_K_thr, px_kill, ↓reduceIte, if_true, if_false, true_and, and_true, px_kill, hcT]
    refine c_kind_in t ok i1 ?_
    by_cases k2 : eK (E j) = 2
    · have e2 : nI (eK (E j)) = 2 := by rw [k2]; rfl
      have n1000 := eN_le (ok.2.1 j i1)
      have ii : px_in (nI j) 80 = true := px_inb (by omega) (by decide)
      have ci : (nI j).toNatClampNeg = j := nI_clamp (by omega)
      have t' := t
      obtain ⟨-, t2, ra, t3, t4, t5⟩ := t'
      obtain ⟨O, p1, src', st', cn', g', q2, q3, q4, q5⟩ := t5 j i1
      rcases q5 with ⟨k1, -⟩ | ⟨-, r', s', N', n', f', s1, rfl, rfl, rfl, s5, s6, s7⟩
      · omega
      have q2' := q2
      unfold enF at q2'
      simp only [px_K_some, pc128_21, pc128_22, pc128_25, pc128_26, pc128_27, pc128_27n, pc128_28, pc128_31, pc128_32, pc128_33, pc128_33n, pc128_34, pc128_34n, pc128_35, pc128_38n, pc128_38, pc128_41, pc128_41n, pc128_42, pc128_42n, pc128_43, pc128_43n, pc128_44, pc128_47, pc128_47n, pc128_48, pc128_51, pc128_51n, pc128_52, pc128_55, px_op_some, px_kv_ap, px_ki_ap, px_kl_ap, px_kn_ap, px_kh_ap, px_op_none, px_K_some, px_K_none, px_K_thr, px_kill, ↓reduceIte, if_true, if_false, true_and, and_true, px_gf, px_aa, e2, t1, t3, List.getElem?_cons_zero, List.getElem?_cons_succ, ii, ci, p1, q2', px_rf, tg_12, Nat.reduceLeDiff, and_self, px_kill, hc4]
      refine c_lengthen hSh a hp t ok hT hTd hT9 md (by omega) (srcT_ok s1) s5 s6 s7 (fun i h' M' f'' e1 e2' e3 tr' md' hM' fr sh => ?_) (fun no => ?_)
      · simp only [px_K_some, pc128_58, pc128_61, pc128_62, pc128_65, pc128_66, px_op_some, px_kv_ap, px_ki_ap, px_kl_ap, px_kn_ap, px_kh_ap, px_op_none, px_K_some, px_K_none, px_K_thr, px_kill, ↓reduceIte, if_true, if_false, true_and, and_true, ne_1_0, nar_1]
        exact hQ1 i j h' M' f'' e1 e2' e3 i1 i2 k2 tr' md' hM' fr sh
      · simp only [px_K_some, pc128_58, pc128_65, pc128_66, px_op_some, px_kv_ap, px_ki_ap, px_kl_ap, px_kn_ap, px_kh_ap, px_op_none, px_K_some, px_K_none, px_K_thr, px_kill, ↓reduceIte, if_true, if_false, true_and, and_true, nar_0]
        exact hQ0 (fun z => no z.1)
    · have e2 : ¬ nI (eK (E j)) = 2 := fun z => k2 ((nI_eq (b := 2) (by rcases (ok.2.1 j i1).2 with ⟨z, -⟩ | ⟨z, -⟩ <;> omega) (by decide)).mp z)
      simp only [px_K_some, pc128_21, pc128_22, pc128_25, pc128_26, px_op_some, px_kv_ap, px_ki_ap, px_kl_ap, px_kn_ap, px_kh_ap, px_op_none, px_K_some, px_K_none, px_K_thr, px_kill, ↓reduceIte, if_true, if_false, true_and, and_true, e2, nar_0]
      exact hQ0 (fun ⟨_, i, j1, j2, j3⟩ => by rw [srt_uniq ok j1 i1 (j2.trans i2.symm)] at j3; exact k2 j3)
  · have gn := g1.1
    have e2 : ¬ (0 : Int32) = 2 := by decide
    simp only [px_K_some, pc128_15, pc128_16, pc128_16n, pc128_17, pc128_18, px_op_some, px_kv_ap, px_ki_ap, px_kl_ap, px_kn_ap, px_kh_ap, px_op_none, px_K_some, px_K_none, px_K_thr, px_kill, ↓reduceIte, if_true, if_false, true_and, and_true, px_kill, hcT]
    refine c_kind_no t (by omega) ?_
    simp only [px_K_some, pc128_21, pc128_22, pc128_25, pc128_26, px_op_some, px_kv_ap, px_ki_ap, px_kl_ap, px_kn_ap, px_kh_ap, px_op_none, px_K_some, px_K_none, px_K_thr, px_kill, ↓reduceIte, if_true, if_false, true_and, and_true, e2, nar_0]
    exact hQ0 (fun ⟨_, j, j1, j2, _⟩ => gap_not g1 ⟨j, j1, j2⟩)
end JOIN
