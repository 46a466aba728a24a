/-! COMMANDS, the reference's: mkdir, rm -/
section MCMD
variable {sx : Nat × (Nat → Int32)} {h : px_H} {n l : Nat} {T : Nat → aE} {p : Nat → Nat} {V row : Nat → Int32} {Q : px_O → px_H → Prop}
set_option maxRecDepth 16384 in
theorem ins_shift {k i : Nat} {e : aE} (hk : k ≤ n) (hi : i < n + 1) : insE T k e i = px_up (shiftE T n k) k e i := by
  unfold insE
  rcases Nat.lt_trichotomy i k with x | x | x
  · rw [if_pos x, up_ne (by omega)]; unfold shiftE; rw [if_neg (by omega)]
  · subst x; rw [if_neg (Nat.lt_irrefl _), if_pos rfl, up_same]
  · rw [if_neg (by omega), if_neg (by omega), up_ne (by omega)]; unfold shiftE; rw [if_pos ⟨x, by omega⟩]
set_option maxRecDepth 16384 in
theorem m_mkdir (h6 : h.2[619]? = some (.inl (11, modF V))) (hv : V 20 = nI n) (hv2 : V 32 = nI l) (hf : V 43 = 0) (ok : tOK n T) (hn : n ≤ 40) (w : mtE h (fun i => i < n) T) (pt : mpt h p l) (hp : pth p l)
    (hQ1 : ∀ k h' V', ¬ inT n T p → homed n T p l → ¬ n = 40 → gapE n T p k → mtE h' (fun i => i < n + 1) (insE T k (dirE l p)) → h'.2[619]? = some (.inl (11, modF V')) → V' 20 = nI (n + 1) → (∀ j, j ≠ 20 → V' j = V j) → frm mEB h h' → (shape h → shape h') → Q (.inl none) h')
    (hQ0 : ∀ x : Nat, ((inT n T p ∨ ¬ homed n T p l) ∧ x = 3 ∨ (¬ inT n T p ∧ homed n T p l) ∧ n = 40 ∧ x = 4) → Q (.inl none) (px_wr h 619 (.inl (11, modF (px_up V 43 (nI x)))))) :
    px_Wp sx 199 0 [some (.ref 619)] [] h Q := by
  have hcls : px_cls h 619 = some 11 := by unfold px_cls; rw [h6]
  have l35 := hp.2.1
  have srt := ok.2.2.1
  have cutp := cutP_all hp
  simp only [pc199_0, pc199_0n, pc199_1, pc199_1n, pc199_2, pc199_5, px_op_some, px_kv_ap, px_ki_ap, px_kl_ap, px_kn_ap, px_kh_ap, px_op_none, px_K_some, px_K_none, px_K_thr, px_kill, ↓reduceIte, if_true, if_false, true_and, and_true, px_gf, h6, mf_32, hv2, hcls]
  refine m_entryOf h6 hv (by omega) w (fun i hi => hi) pt (pth_rng hp) (by omega) (Nat.le_refl _) (fun x hx => ?_)
  rw [cutp] at hx
  rcases hx with ⟨i, i1, i2, rfl⟩ | ⟨no, rfl⟩
  · have ge : (0 : Int32) ≤ nI i := nI_pos' (by omega)
    simp only [px_K_some, pc199_8, pc199_11, pc199_11n, pc199_12, pc199_15, pc199_18, pc199_18n, pc199_19, pc199_20, px_op_some, px_kv_ap, px_ki_ap, px_kl_ap, px_kn_ap, px_kh_ap, px_op_none, px_K_some, px_K_none, px_K_thr, px_kill, ↓reduceIte, if_true, if_false, true_and, and_true, ge, hcls]
    refine m_fail (x := 3) h6 hf ?_
    simp only [px_K_none, pc199_23, pc199_48]
    exact hQ0 3 (.inl ⟨.inl ⟨i, i1, i2⟩, rfl⟩)
  · have nin : ¬ inT n T p := fun ⟨i, a, b⟩ => no i a b
    have lt0 : ¬ (0 : Int32) ≤ -1 := by decide
    simp only [px_K_some, pc199_8, pc199_11, pc199_11n, pc199_12, px_op_some, px_kv_ap, px_ki_ap, px_kl_ap, px_kn_ap, px_kh_ap, px_op_none, px_K_some, px_K_none, px_K_thr, px_kill, ↓reduceIte, if_true, if_false, true_and, and_true, lt0, hcls]
    refine m_hasPlace h6 hv hv2 (by omega) w (fun i hi => hi) srt pt hp (fun x hx => ?_)
    rcases hx with ⟨rfl, hx⟩ | ⟨rfl, hx⟩
    · by_cases n40 : n = 40
      · have e40 : nI n = 40 := by rw [n40]; rfl
        simp only [px_K_some, pc199_15, pc199_18, pc199_18n, pc199_19, pc199_20, pc199_23, pc199_26, pc199_26n, pc199_27, pc199_30, pc199_32, pc199_35, pc199_35n, pc199_36, pc199_37, px_op_some, px_kv_ap, px_ki_ap, px_kl_ap, px_kn_ap, px_kh_ap, px_op_none, px_K_some, px_K_none, px_K_thr, px_kill, ↓reduceIte, if_true, if_false, true_and, and_true, px_gf, h6, mf_20, hv, e40, ne_1_0, not_true_eq_false, not_false_eq_true, hcls]
        refine m_fail (x := 4) h6 hf ?_
        simp only [px_K_none, pc199_40, pc199_48]
        exact hQ0 4 (.inr ⟨⟨nin, hx⟩, n40, rfl⟩)
      · have e40 : ¬ nI n = 40 := fun z => n40 ((nI_eq (b := 40) (by omega) (by decide)).mp z)
        simp only [px_K_some, pc199_15, pc199_18, pc199_18n, pc199_19, pc199_20, pc199_23, pc199_26, pc199_26n, pc199_27, pc199_30, pc199_32, pc199_35, pc199_35n, pc199_36, pc199_37, pc199_40, pc199_43, pc199_43n, pc199_44, px_op_some, px_kv_ap, px_ki_ap, px_kl_ap, px_kn_ap, px_kh_ap, px_op_none, px_K_some, px_K_none, px_K_thr, px_kill, ↓reduceIte, if_true, if_false, true_and, and_true, px_gf, h6, mf_20, hv, e40, ne_1_0, not_false_eq_true, hcls]
        refine m_make_new h6 hv hv2 (by omega) w (fun i hi => hi) srt no pt hp (fun k h' g w' m' fr sh => ?_)
        simp only [px_K_some, pc199_47, pc199_47r, pc199_48]
        refine hQ1 k h' _ nin hx n40 g (mtE_mono w' (fun i hi => ⟨by omega, ins_shift g.1 hi⟩)) m' (up_same _ _ _) (fun j hj => up_ne hj) fr sh
    · simp only [px_K_some, pc199_15, pc199_18, pc199_18n, pc199_19, pc199_20, px_op_some, px_kv_ap, px_ki_ap, px_kl_ap, px_kn_ap, px_kh_ap, px_op_none, px_K_some, px_K_none, px_K_thr, px_kill, ↓reduceIte, if_true, if_false, true_and, and_true, not_true_eq_false, hcls]
      refine m_fail (x := 3) h6 hf ?_
      simp only [px_K_none, pc199_23, pc199_48]
      exact hQ0 3 (.inl ⟨.inr hx, rfl⟩)
set_option maxRecDepth 16384 in
theorem m_rm (h6 : h.2[619]? = some (.inl (11, modF V))) (hr : h.2[636]? = some (.inr (1, 40100, .inl row))) (hv : V 20 = nI n) (hv2 : V 32 = nI l) (hf : V 43 = 0) (ok : tOK n T) (w : mtE h (fun i => i < n) T) (pt : mpt h p l) (hp : pth p l)
    (hQ1 : ∀ i b h' V', i < n → eP (T i) = p → endE n T i b → mtE h' (fun j => j < n - (b - i)) (cutE T i b) → h'.2[619]? = some (.inl (11, modF V')) → V' 20 = nI (n - (b - i)) → (∀ j, j ≠ 20 → V' j = V j) → frm mEB h h' → (shape h → shape h') → Q (.inl none) h')
    (hQ0 : ¬ inT n T p → Q (.inl none) (px_wr h 619 (.inl (11, modF (px_up V 43 3))))) :
    px_Wp sx 198 0 [some (.ref 619)] [] h Q := by
  have hcls : px_cls h 619 = some 11 := by unfold px_cls; rw [h6]
  have l35 := hp.2.1
  have h80 := ok.1
  have cutp := cutP_all hp
  simp only [pc198_0, pc198_0n, pc198_1, pc198_1n, pc198_2, pc198_5, px_op_some, px_kv_ap, px_ki_ap, px_kl_ap, px_kn_ap, px_kh_ap, px_op_none, px_K_some, px_K_none, px_K_thr, px_kill, ↓reduceIte, if_true, if_false, true_and, and_true, px_gf, h6, mf_32, hv2, hcls]
  refine m_entryOf h6 hv (by omega) w (fun i hi => hi) pt (pth_rng hp) (by omega) (Nat.le_refl _) (fun x hx => ?_)
  rw [cutp] at hx
  rcases hx with ⟨i, i1, i2, rfl⟩ | ⟨no, rfl⟩
  · have ge : (0 : Int32) ≤ nI i := nI_pos' (by omega)
    simp only [px_K_some, pc198_8, pc198_11, pc198_11n, pc198_12, pc198_13, pc198_16, pc198_19, pc198_19n, pc198_20, pc198_21, pc198_22, pc198_23, px_op_some, px_kv_ap, px_ki_ap, px_kl_ap, px_kn_ap, px_kh_ap, px_op_none, px_K_some, px_K_none, px_K_thr, px_kill, ↓reduceIte, if_true, if_false, true_and, and_true, ge, hcls]
    refine m_apply (k := 3) (s := 0) (m := 0) (c := fun _ => 0) h6 hr hv hv2 ok w pt hp (by decide) (by decide) (by decide) (by decide) (fun z => absurd z (by decide)) (fun n' T' h' V' ap w' m' v20 vj fr sh => ?_)
    simp only [px_K_none, pc198_26]
    rcases ap with ⟨j, b, j1, j2, jb, j3⟩ | ⟨no, -⟩ | ⟨a1, -⟩
    · rcases j3 with ⟨-, rfl, rfl⟩ | ⟨z, -⟩ | ⟨z, -⟩ | ⟨z, -⟩ | ⟨z, -⟩
      · exact hQ1 j b h' V' j1 j2 jb w' m' v20 vj fr sh
      · exact absurd z (by decide)
      · exact absurd z (by decide)
      · exact absurd z (by decide)
      · exact absurd z (by decide)
    · exact absurd i2 (no i i1)
    · rcases a1 with ⟨no, -⟩ | ⟨z, -⟩ | ⟨z, -⟩
      · exact absurd i2 (no i i1)
      · exact absurd z (by decide)
      · omega
  · have lt0 : ¬ (0 : Int32) ≤ -1 := by decide
    simp only [px_K_some, pc198_8, pc198_11, pc198_11n, pc198_12, pc198_13, px_op_some, px_kv_ap, px_ki_ap, px_kl_ap, px_kn_ap, px_kh_ap, px_op_none, px_K_some, px_K_none, px_K_thr, px_kill, ↓reduceIte, if_true, if_false, true_and, and_true, lt0, hcls]
    refine m_fail (x := 3) h6 hf ?_
    simp only [px_K_none, pc198_16, pc198_26]
    exact hQ0 (fun ⟨i, a, b⟩ => no i a b)
end MCMD
