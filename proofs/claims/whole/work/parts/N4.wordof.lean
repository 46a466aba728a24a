/-! WHICH COMMAND, the class's -/
def wd : Nat → List Nat
  | 0 => [109, 107, 100, 105, 114]
  | 1 => [114, 109]
  | 2 => [112, 117, 116]
  | 3 => [97, 100, 100]
  | 4 => [109, 111, 118, 101]
  | _ => [106, 111, 105, 110]
set_option maxRecDepth 16384 in
theorem wrd_uniq {B : Nat → Nat} {s e : Nat} {w1 w2 : List Nat} (h1 : wrd B s e w1) (h2 : wrd B s e w2) : w1 = w2 := by
  have hl : w1.length = w2.length := by have := h1.1; have := h2.1; omega
  refine List.ext_getElem hl (fun i a b => ?_)
  have x1 := h1.2 i a
  have x2 := h2.2 i b
  rw [List.getD_eq_getElem?_getD, List.getElem?_eq_getElem a] at x1
  rw [List.getD_eq_getElem?_getD, List.getElem?_eq_getElem b] at x2
  exact x1.symm.trans x2
set_option maxRecDepth 16384 in
theorem wd_inj : ∀ j, j < 6 → ∀ k, k < 6 → wd j = wd k → j = k := by decide
/-- the command's number; none -/
def cmR (B : Nat → Nat) (s e : Nat) (x : Int32) : Prop := (∃ k, k < 6 ∧ wrd B s e (wd k) ∧ x = nI k) ∨ (∀ k, k < 6 → ¬ wrd B s e (wd k)) ∧ x = -1
section WORDOF
variable {sx : Nat × (Nat → Int32)} {h : px_H} {r N n s e : Nat} {f : Nat → Int32} {B : Nat → Nat} {Q : px_O → px_H → Prop}
set_option maxRecDepth 16384 in
theorem c_wordOf (w : rowAt h r N n f) (hB : txA f n B) (hs : s ≤ e) (he : e ≤ n) (hQ : ∀ x, cmR B s e x → Q (.inl (some (.int x))) h) : px_Wp sx 120 0 [some (.ref r), some (.int (nI s)), some (.int (nI e))] [] h Q := by
  have hcl : px_cls h r = some 1 := by unfold px_cls; rw [w.1]
  simp only [pc120_0, pc120_0n, pc120_1, pc120_2, pc120_3, pc120_5, px_op_some, px_kv_ap, px_ki_ap, px_kl_ap, px_kn_ap, px_kh_ap, px_op_none, px_K_some, px_K_none, px_K_thr, px_kill, ↓reduceIte, if_true, if_false, true_and, and_true, hcl]
  refine c_says w hB str_6 hs he (fun x hx => ?_)
  rcases hx with ⟨rfl, g0⟩ | ⟨rfl, g0⟩
  · simp only [px_K_some, pc120_8, pc120_11, pc120_12, px_op_some, px_kv_ap, px_ki_ap, px_kl_ap, px_kn_ap, px_kh_ap, px_op_none, px_K_some, px_K_none, px_K_thr, px_kill, ↓reduceIte, if_true, if_false, true_and, and_true, ne_1_0]
    exact hQ 0 (.inl ⟨0, by decide, g0, rfl⟩)
  simp only [px_K_some, pc120_8, pc120_11, pc120_12, pc120_13, pc120_13n, pc120_14, pc120_15, pc120_16, pc120_18, px_op_some, px_kv_ap, px_ki_ap, px_kl_ap, px_kn_ap, px_kh_ap, px_op_none, px_K_some, px_K_none, px_K_thr, px_kill, ↓reduceIte, if_true, if_false, true_and, and_true, hcl]
  refine c_says w hB str_7 hs he (fun x hx => ?_)
  rcases hx with ⟨rfl, g1⟩ | ⟨rfl, g1⟩
  · simp only [px_K_some, pc120_21, pc120_24, pc120_25, px_op_some, px_kv_ap, px_ki_ap, px_kl_ap, px_kn_ap, px_kh_ap, px_op_none, px_K_some, px_K_none, px_K_thr, px_kill, ↓reduceIte, if_true, if_false, true_and, and_true, ne_1_0]
    exact hQ 1 (.inl ⟨1, by decide, g1, rfl⟩)
  simp only [px_K_some, pc120_21, pc120_24, pc120_25, pc120_26, pc120_26n, pc120_27, pc120_28, pc120_29, pc120_31, px_op_some, px_kv_ap, px_ki_ap, px_kl_ap, px_kn_ap, px_kh_ap, px_op_none, px_K_some, px_K_none, px_K_thr, px_kill, ↓reduceIte, if_true, if_false, true_and, and_true, hcl]
  refine c_says w hB str_8 hs he (fun x hx => ?_)
  rcases hx with ⟨rfl, g2⟩ | ⟨rfl, g2⟩
  · simp only [px_K_some, pc120_34, pc120_37, pc120_38, px_op_some, px_kv_ap, px_ki_ap, px_kl_ap, px_kn_ap, px_kh_ap, px_op_none, px_K_some, px_K_none, px_K_thr, px_kill, ↓reduceIte, if_true, if_false, true_and, and_true, ne_1_0]
    exact hQ 2 (.inl ⟨2, by decide, g2, rfl⟩)
  simp only [px_K_some, pc120_34, pc120_37, pc120_38, pc120_39, pc120_39n, pc120_40, pc120_41, pc120_42, pc120_44, px_op_some, px_kv_ap, px_ki_ap, px_kl_ap, px_kn_ap, px_kh_ap, px_op_none, px_K_some, px_K_none, px_K_thr, px_kill, ↓reduceIte, if_true, if_false, true_and, and_true, hcl]
  refine c_says w hB str_9 hs he (fun x hx => ?_)
  rcases hx with ⟨rfl, g3⟩ | ⟨rfl, g3⟩
  · simp only [px_K_some, pc120_47, pc120_50, pc120_51, px_op_some, px_kv_ap, px_ki_ap, px_kl_ap, px_kn_ap, px_kh_ap, px_op_none, px_K_some, px_K_none, px_K_thr, px_kill, ↓reduceIte, if_true, if_false, true_and, and_true, ne_1_0]
    exact hQ 3 (.inl ⟨3, by decide, g3, rfl⟩)
  simp only [px_K_some, pc120_47, pc120_50, pc120_51, pc120_52, pc120_52n, pc120_53, pc120_54, pc120_55, pc120_57, px_op_some, px_kv_ap, px_ki_ap, px_kl_ap, px_kn_ap, px_kh_ap, px_op_none, px_K_some, px_K_none, px_K_thr, px_kill, ↓reduceIte, if_true, if_false, true_and, and_true, hcl]
  refine c_says w hB str_10 hs he (fun x hx => ?_)
  rcases hx with ⟨rfl, g4⟩ | ⟨rfl, g4⟩
  · simp only [px_K_some, pc120_60, pc120_63, pc120_64, px_op_some, px_kv_ap, px_ki_ap, px_kl_ap, px_kn_ap, px_kh_ap, px_op_none, px_K_some, px_K_none, px_K_thr, px_kill, ↓reduceIte, if_true, if_false, true_and, and_true, ne_1_0]
    exact hQ 4 (.inl ⟨4, by decide, g4, rfl⟩)
  simp only [px_K_some, pc120_60, pc120_63, pc120_64, pc120_65, pc120_65n, pc120_66, pc120_67, pc120_68, pc120_70, px_op_some, px_kv_ap, px_ki_ap, px_kl_ap, px_kn_ap, px_kh_ap, px_op_none, px_K_some, px_K_none, px_K_thr, px_kill, ↓reduceIte, if_true, if_false, true_and, and_true, hcl]
  refine c_says w hB str_11 hs he (fun x hx => ?_)
  rcases hx with ⟨rfl, g5⟩ | ⟨rfl, g5⟩
  · simp only [px_K_some, pc120_73, pc120_76, pc120_77, pc120_80, pc120_81, px_op_some, px_kv_ap, px_ki_ap, px_kl_ap, px_kn_ap, px_kh_ap, px_op_none, px_K_some, px_K_none, px_K_thr, px_kill, ↓reduceIte, if_true, if_false, true_and, and_true, ne_1_0]
    exact hQ 5 (.inl ⟨5, by decide, g5, rfl⟩)
  · simp only [px_K_some, pc120_73, pc120_80, pc120_81, px_op_some, px_kv_ap, px_ki_ap, px_kl_ap, px_kn_ap, px_kh_ap, px_op_none, px_K_some, px_K_none, px_K_thr, px_kill, ↓reduceIte, if_true, if_false, true_and, and_true]
    refine hQ (-1) (.inr ⟨fun k hk => ?_, rfl⟩)
    match k, hk with
    | 0, _ => exact g0
    | 1, _ => exact g1
    | 2, _ => exact g2
    | 3, _ => exact g3
    | 4, _ => exact g4
    | 5, _ => exact g5
end WORDOF
