/-! A PATH RENAMED, the class's -/
/-- p with p2 in the place of its first k signs -/
def renP (p : Nat → Nat) (k l : Nat) (p2 : Nat → Nat) (l2 : Nat) : Nat → Nat := fun j => if j < l2 then p2 j else if j < l2 + (l - k) then p (k + (j - l2)) else 0
section RENAME
variable {sx : Nat × (Nat → Int32)} {h : px_H} {O O2 l l2 k : Nat} {p p2 : Nat → Nat} {Q : px_O → px_H → Prop}
set_option maxRecDepth 16384 in
theorem c_erename {kd st cn : Int32} {src : Value} {g : Nat → Int32} (o1 : h.2[O]? = some (.inl (2, enF O (nI l) kd src st cn))) (o2 : h.2[O + 1]? = some (.inr (0, 35, .inl g))) (o3 : ∀ j, j < l → g j = nI (p j)) (b : enP h O2 l2 p2) (hO : O2 + 1 < O ∨ O + 1 < O2) (l35 : l ≤ 35) (hk : k ≤ l) (hl : l2 + (l - k) ≤ 35)
    (hQ : ∀ g', (∀ j, j < l2 + (l - k) → g' j = nI (renP p k l p2 l2 j)) → Q (.inl none) (tpH h O (l2 + (l - k)) kd src st cn g')) :
    px_Wp sx 50 0 [some (.ref O), some (.ref O2), some (.int (nI k)), none] [] h Q := by
  obtain ⟨⟨kd', src', st', cn', b1⟩, ⟨g2, b2, b3⟩, b4⟩ := b
  have L1 : O + 1 < h.2.length := (List.getElem?_eq_some_iff.mp o2).1
  unfold enF at o1
  have ck : (nI k).toNatClampNeg = k := nI_clamp (by omega)
  have ct : (nI (l - k)).toNatClampNeg = l - k := nI_clamp (by omega)
  have c2 : (nI l2).toNatClampNeg = l2 := nI_clamp (by omega)
  have sb : nI l - nI k = nI (l - k) := nI_sub hk
  have p0 : ¬ nI k < 0 := nI_pos (by omega)
  have p1 : ¬ nI (l - k) < 0 := nI_pos (by omega)
  have le : nI (l2 + (l - k)) ≤ 35 := nI_le (b := 35) hl (by decide)
  have hp1 : px_cp h (O + 1) (O + 1) (nI k) (nI l2) (nI (l - k)) = some (px_wr h (O + 1) (.inr (0, 35, .inl (va_cpy g g k l2 (l - k))))) := by
    unfold px_cp
    rw [o2]
    simp only [ck, ct, c2]
    rw [if_pos ⟨⟨p0, nI_pos (by omega), p1⟩, by omega, by omega⟩]
    rfl
  have e1 : ∀ x : px_C, (px_wr h (O + 1) x).2[O]? = some (.inl (2, [.ref (O + 1), .int (nI l), .int kd, src, .int st, .int cn])) := fun x => by rw [wr_at, if_neg (by omega)]; exact o1
  have e2 : ∀ x : px_C, (px_wr h (O + 1) x).2[O2]? = some (.inl (2, [.ref (O2 + 1), .int (nI l2), .int kd', src', .int st', .int cn'])) := fun x => by rw [wr_at, if_neg (by omega)]; exact b1
  have e3 : ∀ x : px_C, (px_wr h (O + 1) x).2[O2 + 1]? = some (.inr (0, 35, .inl g2)) := fun x => by rw [wr_at, if_neg (by omega)]; exact b2
  have e4 : ∀ x : px_C, (px_wr h (O + 1) x).2[O + 1]? = some x := fun x => by rw [wr_at, if_pos rfl, if_pos L1]
  have hp2 : px_cp (px_wr h (O + 1) (.inr (0, 35, .inl (va_cpy g g k l2 (l - k))))) (O2 + 1) (O + 1) 0 0 (nI l2) = some (px_wr h (O + 1) (.inr (0, 35, .inl (va_cpy g2 (va_cpy g g k l2 (l - k)) 0 0 l2)))) := by
    unfold px_cp
    rw [e3, e4]
    simp only [c2, show (0 : Int32).toNatClampNeg = 0 from rfl]
    rw [if_pos ⟨⟨by decide, by decide, nI_pos (by omega)⟩, by omega, by omega⟩]
    show some (px_wr (px_wr h (O + 1) _) (O + 1) _) = _
    rw [px_wr_wr]
  simp only [pc50_0, pc50_0n, pc50_1, pc50_4, pc50_5, pc50_6, pc50_7, pc50_8, pc50_11, pc50_12, pc50_15, pc50_15n, pc50_16, pc50_19, pc50_20, pc50_21, pc50_23, pc50_26, pc50_27, pc50_27n, pc50_28, pc50_31, pc50_32, pc50_32n, pc50_33, pc50_36, pc50_36n, pc50_37, pc50_40, pc50_41, pc50_44, pc50_44n, pc50_45, pc50_48, pc50_49, pc50_49n, pc50_50, pc50_53, pc50_54, pc50_54n, pc50_55, pc50_58, pc50_61, pc50_61n, pc50_62, pc50_62n, pc50_63, pc50_66, pc50_67, pc50_68, pc50_71, px_op_some, px_kv_ap, px_ki_ap, px_kl_ap, px_kn_ap, px_kh_ap, px_op_none, px_K_some, px_K_none, px_K_thr, px_kill, ↓reduceIte, if_true, if_false, true_and, and_true, px_gf, px_pf, o1, b1, e1, e2, hp1, hp2, List.getElem?_cons_zero, List.getElem?_cons_succ, sb, p0, p1, nI_add, le, px_fit, List.length_cons, List.length_nil, Nat.reduceAdd, Nat.reduceLT, and_self, List.set_cons_succ, List.set_cons_zero, px_kill]
  refine hQ _ (fun j hj => ?_)
  unfold renP va_cpy
  by_cases x : j < l2
  · rw [if_pos ⟨by omega, by omega⟩, if_pos x, Nat.zero_add, Nat.sub_zero]; exact b3 j x
  · rw [if_neg (by omega), if_neg x, if_pos ⟨by omega, by omega⟩, if_pos hj]; exact o3 _ (by omega)
end RENAME
