/-! HOW GREAT A TREE IS -/
def totN (E : Nat → aE) : Nat → Nat
  | 0 => 0
  | i + 1 => totN E i + eN (E i)
set_option maxRecDepth 16384 in
theorem totN_le {E : Nat → aE} {c : Nat} : ∀ n, (∀ i, i < n → eN (E i) ≤ c) → totN E n ≤ c * n
  | 0, _ => Nat.zero_le _
  | n + 1, h => by
    have a := totN_le n (fun i hi => h i (by omega))
    have b := h n (by omega)
    show totN E n + eN (E n) ≤ c * (n + 1)
    rw [Nat.mul_add, Nat.mul_one]; omega
def tooB (n : Nat) (E : Nat → aE) : Prop := 40 < n ∨ 1000 < totN E n
section TOTAL
variable {sx : Nat × (Nat → Int32)} {h : px_H} {T n : Nat} {E : Nat → aE} {V : Nat → Int32} {D : Nat → Prop} {Q : px_O → px_H → Prop}
set_option maxRecDepth 16384 in
theorem c_tooGreat (t : trR h T n E) (hn : n ≤ 80) (hk : ∀ i, i < n → eK (E i) = 1 → eN (E i) = 0) (hb : ∀ i, i < n → eN (E i) ≤ 3000) (hQ : ∀ x, says x (tooB n E) → Q (.inl (some (.int x))) h) : px_Wp sx 61 0 [some (.ref T), none, none] [] h Q := by
  obtain ⟨t1, t2, ra, t3, t4, t5⟩ := t
  have lp : ∀ d i, i + d = n → px_Wp sx 61 4 [some (.ref T), some (.int (nI (totN E i))), some (.int (nI i))] [] h Q := by
    intro d
    induction d with
    | zero =>
      intro i hi
      have hi : i = n := by omega
      subst hi
      have sl : totN E i ≤ 3000 * i := totN_le i hb
      have le : nI i ≤ nI i := Int32.le_refl _
      by_cases x : 40 < i
      · have lt : 40 < nI i := (nI_ltI (a := 40) (by decide) (by omega)).mpr x
        simp only [pc61_4, pc61_5, pc61_5n, pc61_6, pc61_9, pc61_30, pc61_30n, pc61_31, pc61_34, pc61_36, pc61_39, pc61_40, pc61_43, pc61_46, pc61_47, pc61_50, pc61_51, px_op_some, px_kv_ap, px_ki_ap, px_kl_ap, px_kn_ap, px_kh_ap, px_op_none, px_K_some, px_K_none, px_K_thr, px_kill, ↓reduceIte, if_true, if_false, true_and, and_true, px_gf, t1, List.getElem?_cons_zero, List.getElem?_cons_succ, le, lt, nar_1]
        exact hQ 1 (.inl ⟨rfl, .inl x⟩)
      · have lt : ¬ 40 < nI i := nI_nlt (a := 40) (by omega) (by decide)
        by_cases y : totN E i ≤ 1000
        · have l2 : nI (totN E i) ≤ 1000 := nI_le (b := 1000) y (by decide)
          simp only [pc61_4, pc61_5, pc61_5n, pc61_6, pc61_9, pc61_30, pc61_30n, pc61_31, pc61_34, pc61_36, pc61_39, pc61_40, pc61_43, pc61_46, pc61_47, pc61_50, pc61_51, px_op_some, px_kv_ap, px_ki_ap, px_kl_ap, px_kn_ap, px_kh_ap, px_op_none, px_K_some, px_K_none, px_K_thr, px_kill, ↓reduceIte, if_true, if_false, true_and, and_true, px_gf, t1, List.getElem?_cons_zero, List.getElem?_cons_succ, le, lt, l2, nar_0]
          exact hQ 0 (.inr ⟨rfl, fun z => by unfold tooB at z; omega⟩)
        · have l2 : ¬ nI (totN E i) ≤ 1000 := nI_ge (a := 1000) (by omega) (by omega)
          simp only [pc61_4, pc61_5, pc61_5n, pc61_6, pc61_9, pc61_30, pc61_30n, pc61_31, pc61_34, pc61_36, pc61_39, pc61_40, pc61_43, pc61_46, pc61_47, pc61_50, pc61_51, px_op_some, px_kv_ap, px_ki_ap, px_kl_ap, px_kn_ap, px_kh_ap, px_op_none, px_K_some, px_K_none, px_K_thr, px_kill, ↓reduceIte, if_true, if_false, true_and, and_true, px_gf, t1, List.getElem?_cons_zero, List.getElem?_cons_succ, le, lt, l2, nar_1]
          exact hQ 1 (.inl ⟨rfl, .inr (by omega)⟩)
    | succ d ih =>
      intro i hi
      have ge : ¬ nI n ≤ nI i := nI_ge (by omega) (by omega)
      have ii : px_in (nI i) 80 = true := px_inb (by omega) (by decide)
      have ci : (nI i).toNatClampNeg = i := nI_clamp (by omega)
      obtain ⟨O, o1, src, st, cn, g, o2, o3, o4, o5⟩ := t5 i (by omega)
      have ec : cn = nI (eN (E i)) := by
        rcases o5 with ⟨k1, -, -, rfl⟩ | ⟨k2, r, s, N, nr, f, -, -, -, rfl, -⟩
        · rw [hk i (by omega) k1]; rfl
        · rfl
      unfold enF at o2
      rw [pc61_4]
      simp only [pc61_5, pc61_5n, pc61_6, pc61_9, pc61_12, pc61_13, pc61_13n, pc61_14, pc61_17, pc61_18, pc61_19, pc61_22, pc61_23, pc61_24, pc61_27, px_op_some, px_kv_ap, px_ki_ap, px_kl_ap, px_kn_ap, px_kh_ap, px_op_none, px_K_some, px_K_none, px_K_thr, px_kill, ↓reduceIte, if_true, if_false, true_and, and_true, px_gf, px_aa, t1, t3, List.getElem?_cons_zero, List.getElem?_cons_succ, ge, ii, ci, o1, o2, ec, px_rf, tg_12, Nat.reduceLeDiff, and_self, nI_add, nI_p1, px_kill]
      exact ih (i + 1) (by omega)
  simp only [pc61_0, pc61_1, pc61_2, pc61_3, px_kill]
  exact lp n 0 (by omega)
set_option maxRecDepth 16384 in
theorem m_total (h6 : h.2[619]? = some (.inl (11, modF V))) (hv : V 20 = nI n) (hn : n ≤ 81) (w : mtE h D E) (hD : ∀ i, i < n → D i) (hQ : Q (.inl (some (.int (nI (totN E n))))) h) : px_Wp sx 190 0 [some (.ref 619), none, none] [] h Q := by
  obtain ⟨P, LN, K, Z, C, ⟨a1, a2, a3, a4, a5⟩, w2⟩ := w
  have lp : ∀ d i, i + d = n → px_Wp sx 190 4 [some (.ref 619), some (.int (nI (totN E i))), some (.int (nI i))] [] h Q := by
    intro d
    induction d with
    | zero =>
      intro i hi
      have hi : i = n := by omega
      subst hi
      have le : nI i ≤ nI i := Int32.le_refl _
      simp only [pc190_4, pc190_5, pc190_5n, pc190_6, pc190_9, pc190_27, pc190_28, px_op_some, px_kv_ap, px_ki_ap, px_kl_ap, px_kn_ap, px_kh_ap, px_op_none, px_K_some, px_K_none, px_K_thr, px_kill, ↓reduceIte, if_true, if_false, true_and, and_true, px_gf, h6, mf_20, hv, le]
      exact hQ
    | succ d ih =>
      intro i hi
      have ge : ¬ nI n ≤ nI i := nI_ge (by omega) (by omega)
      obtain ⟨i82, ok, r1, r2, r3, r4, r5⟩ := w2 i (hD i (by omega))
      have ii : px_in (nI i) 82 = true := px_inb (by omega) (by decide)
      have ci : (nI i).toNatClampNeg = i := nI_clamp (by omega)
      rw [pc190_4]
      simp only [pc190_5, pc190_5n, pc190_6, pc190_9, pc190_12, pc190_13, pc190_13n, pc190_14, pc190_17, pc190_18, pc190_19, pc190_20, pc190_21, pc190_24, px_op_some, px_kv_ap, px_ki_ap, px_kl_ap, px_kn_ap, px_kh_ap, px_op_none, px_K_some, px_K_none, px_K_thr, px_kill, ↓reduceIte, if_true, if_false, true_and, and_true, px_gf, px_ai, h6, mf_20, mf_24, hv, a4, ge, ii, ci, r3, tg_i1, and_self, nI_add, nI_p1, px_kill]
      exact ih (i + 1) (by omega)
  simp only [pc190_0, pc190_1, pc190_2, pc190_3, px_kill]
  exact lp n 0 (by omega)
end TOTAL
