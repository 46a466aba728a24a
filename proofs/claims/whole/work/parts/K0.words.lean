/-! WORDS of a text -/
/-- where the sign c is first found among d signs from k on -/
def fnd (B : Nat → Nat) (c : Nat) : Nat → Nat → Nat
  | k, 0 => k
  | k, d + 1 => if B k = c then k else fnd B c (k + 1) d
set_option maxRecDepth 16384 in
theorem fnd_rng {B : Nat → Nat} {c : Nat} : ∀ d k, k ≤ fnd B c k d ∧ fnd B c k d ≤ k + d
  | 0, k => ⟨Nat.le_refl _, Nat.le_refl _⟩
  | d + 1, k => by
    have := fnd_rng (B := B) (c := c) d (k + 1)
    unfold fnd
    split <;> omega
set_option maxRecDepth 16384 in
theorem fnd_no {B : Nat → Nat} {c : Nat} : ∀ d k j, k ≤ j → j < fnd B c k d → B j ≠ c
  | 0, k, j, h1, h2 => absurd h2 (by unfold fnd; omega)
  | d + 1, k, j, h1, h2 => by
    unfold fnd at h2
    by_cases e : B k = c
    · rw [if_pos e] at h2; omega
    · rw [if_neg e] at h2
      by_cases x : j = k
      · subst x; exact e
      · exact fnd_no d (k + 1) j (by omega) h2
set_option maxRecDepth 16384 in
theorem fnd_is {B : Nat → Nat} {c : Nat} : ∀ d k, fnd B c k d < k + d → B (fnd B c k d) = c
  | 0, k, h => absurd h (by unfold fnd; omega)
  | d + 1, k, h => by
    unfold fnd at h ⊢
    by_cases e : B k = c
    · rw [if_pos e]; exact e
    · rw [if_neg e] at h ⊢
      exact fnd_is d (k + 1) (by omega)
/-- the signs of a row are B -/
def txA (f : Nat → Int32) (n : Nat) (B : Nat → Nat) : Prop := ∀ j, j < n → f j &&& 255 = nI (B j) ∧ B j < 256
def txM (g : Nat → Int32) (n : Nat) (B : Nat → Nat) : Prop := ∀ j, j < n → g j = nI (B j) ∧ B j < 256
/-- the signs from s to e are the word w -/
def wrd (B : Nat → Nat) (s e : Nat) (w : List Nat) : Prop := e = s + w.length ∧ ∀ j, j < w.length → B (s + j) = w.getD j 0
set_option maxRecDepth 16384 in
theorem wrd_nil {B : Nat → Nat} {s e : Nat} : wrd B s e [] ↔ s = e := ⟨fun h => h.1.symm, fun h => ⟨h.symm, fun j hj => absurd hj (Nat.not_lt_zero j)⟩⟩
set_option maxRecDepth 16384 in
theorem wrd_cons {B : Nat → Nat} {s e a : Nat} {w : List Nat} : wrd B s e (a :: w) ↔ s < e ∧ B s = a ∧ wrd B (s + 1) e w := by
  unfold wrd
  rw [List.length_cons]
  refine ⟨fun h => ⟨by omega, h.2 0 (by omega), by omega, fun j hj => ?_⟩, fun h => ⟨by omega, fun j hj => ?_⟩⟩
  · have := h.2 (j + 1) (by omega)
    rw [show s + 1 + j = s + (j + 1) by omega]; exact this
  · cases j with
    | zero => exact h.2.1
    | succ j => have := h.2.2.2 j (by omega); rw [show s + (j + 1) = s + 1 + j by omega]; exact this
section WORDS
variable {sx : Nat × (Nat → Int32)} {h : px_H} {r N n s d e c k A : Nat} {f : Nat → Int32} {B : Nat → Nat} {Q : px_O → px_H → Prop}
set_option maxRecDepth 16384 in
theorem r_atT (w : rowAt h r N n f) (hB : txA f n B) (hk : k < n) : px_Wp sx 30 0 [some (.ref r), some (.int (nI k))] [] h Q ↔ Q (.inl (some (.int (nI (B k))))) h := by
  have hN := w.2.2
  rw [r_at w, if_neg (nI_pos (by omega)), if_neg (nI_ge hk (by omega)), nI_clamp (by omega), (hB k hk).1]
set_option maxRecDepth 16384 in
theorem c_rfind_l {l2 : Option Value} (w : rowAt h r N n f) (hB : txA f n B) (hc : c < 256) : ∀ d k, k + d ≤ n → Q (.inl (some (.int (nI (fnd B c k d))))) h → px_Wp sx 29 3 [some (.ref r), some (.int (nI c)), l2, some (.int (nI (k + d))), some (.int (nI k))] [] h Q := by
  have hN := w.2.2
  have w1 := w.1
  intro d
  induction d with
  | zero =>
    intro k hk hQ
    simp only [pc29_3, pc29_5, pc29_6, pc29_28, pc29_29, px_op_some, px_kv_ap, px_ki_ap, px_kl_ap, px_kn_ap, px_kh_ap, px_op_none, px_K_some, px_K_none, px_K_thr, px_kill, ↓reduceIte, if_true, if_false, true_and, and_true, yr_0, yr_1, tr_0, tr_1, tr_2, tr_3, px_rf, of_2, of_4, in_02, in_12, in_04, in_14, in_24, in_34, Nat.reduceLeDiff, in_01, lgc_self, Int32.reduceToNatClampNeg, wr_at, al_at, px_wr_len, px_al_len, px_wr_1, px_al_1, tg_0, tg_1, tg_2, tg_3, tg_12, tg_15, tg_17, tg_18, tg_i1, tg_b0, tg_b3, px_fit, Nat.reduceEqDiff, Nat.reduceLT, Nat.reduceAdd, Option.some.injEq, up_at, px_wr_wr, i32_le, Int32.reduceLE, Int32.reduceLT, mf_len, nar_0, nar_1, px_KH_some, px_KH_none, px_KH_thr, List.length_cons, List.length_nil, List.getElem?_cons_zero, List.getElem?_cons_succ, List.set_cons_zero, List.set_cons_succ, ↓reduceIte, Nat.lt_irrefl, ne_0_1, ne_0_2, ne_0_3, ne_0_4, ne_0_5, ne_1_0, ne_1_2, ne_1_3, ne_1_4, ne_1_5, ne_2_0, ne_2_1, ne_2_3, ne_2_4, ne_2_5, ne_3_0, ne_3_1, ne_3_2, ne_3_4, ne_3_5, ne_4_0, ne_4_1, ne_4_2, ne_4_3, ne_4_5, ne_5_0, ne_5_1, ne_5_2, ne_5_3, ne_5_4, hd_256_12, hd_256_16, hd_257_12, hd_258_12, hd_259_12, hd_260_12, hd_261_12, hd_261_13, hd_261_16, hd_262_12, hd_262_13, hd_262_16, hd_263_12, hd_263_13, hd_264_12, hd_264_13, hd_264_14, hd_265_12, hd_265_13, hd_265_14, hd_266_12, hd_267_12, hd_267_13, hd_267_14, hd_268_12, hd_269_12, hd_269_14, hd_270_12, hd_271_12, hd_272_12, hd_273_12, hd_273_13, hd_273_15, hd_274_12, hd_274_15, hd_275_12, hd_275_15, hd_276_12, nI_p1, nI_p2, nI_p3, nI_p4, nI_p5, not_true_eq_false, not_false_eq_true, and_self, mf_0, mf_1, mf_2, mf_3, mf_4, mf_5, mf_6, mf_7, mf_8, mf_9, mf_10, mf_11, mf_12, mf_13, mf_14, mf_15, mf_16, mf_17, mf_18, mf_19, mf_20, mf_21, mf_22, mf_23, mf_24, mf_25, mf_26, mf_27, mf_28, mf_29, mf_30, mf_31, mf_32, mf_33, mf_34, mf_35, mf_36, mf_37, mf_38, mf_39, mf_40, mf_41, mf_42, mf_43, mf_44, mf_45, mf_46, mf_47, mf_48, mf_49, mf_50, mf_51, mf_52, mf_53, mf_54, mf_55, mf_56, mf_57, mf_58, mf_59, mf_60, mf_61, mfs_0, mfs_2, mfs_17, mfs_20, mfs_26, mfs_32, mfs_34, mfs_36, mfs_38, mfs_43, mfs_44, mfs_45, mfs_46, mfs_47, iy_0, iy_1, iy_2, iy_3, iy_4, iy_5, iy_6, Nat.add_zero, Int32.lt_irrefl]
    exact hQ
  | succ d ih =>
    intro k hk hQ
    have ge : ¬ nI (k + (d + 1)) ≤ nI k := nI_ge (by omega) (by omega)
    have hcl : px_cls h r = some 1 := by unfold px_cls; rw [w1]
    simp only [pc29_3, pc29_5, pc29_6, pc29_9, pc29_9n, pc29_10, pc29_12, px_op_some, px_kv_ap, px_ki_ap, px_kl_ap, px_kn_ap, px_kh_ap, px_op_none, px_K_some, px_K_none, px_K_thr, px_kill, ↓reduceIte, if_true, if_false, true_and, and_true, ge, hcl]
    rw [r_atT w hB (by omega)]
    unfold fnd at hQ
    by_cases x : B k = c
    · rw [if_pos x] at hQ
      simp only [px_K_some, pc29_15, pc29_16, pc29_19, pc29_21, px_op_some, px_kv_ap, px_ki_ap, px_kl_ap, px_kn_ap, px_kh_ap, px_op_none, px_K_some, px_K_none, px_K_thr, px_kill, ↓reduceIte, if_true, if_false, true_and, and_true, x, not_true_eq_false]
      exact hQ
    · rw [if_neg x] at hQ
      have ne : ¬ nI (B k) = nI c := fun z => x ((nI_eq (by have := (hB k (by omega)).2; omega) (by omega)).mp z)
      simp only [px_K_some, pc29_15, pc29_16, pc29_19, pc29_21, pc29_22, pc29_25, px_op_some, px_kv_ap, px_ki_ap, px_kl_ap, px_kn_ap, px_kh_ap, px_op_none, px_K_some, px_K_none, px_K_thr, px_kill, ↓reduceIte, if_true, if_false, true_and, and_true, ne, not_false_eq_true, nI_p1]
      have := ih (k + 1) (by omega) hQ
      rw [show k + 1 + d = k + (d + 1) by omega] at this
      exact this
set_option maxRecDepth 16384 in
theorem c_rfind (w : rowAt h r N n f) (hB : txA f n B) (hc : c < 256) (hs : s ≤ e) (he : e ≤ n) (hQ : Q (.inl (some (.int (nI (fnd B c s (e - s)))))) h) : px_Wp sx 29 0 [some (.ref r), some (.int (nI c)), some (.int (nI s)), some (.int (nI e)), none] [] h Q := by
  simp only [pc29_0, pc29_1, px_kill]
  have := c_rfind_l (sx := sx) (l2 := some (.int (nI s))) w hB hc (e - s) s (by omega) hQ
  rw [show s + (e - s) = e by omega] at this
  exact this
set_option maxRecDepth 16384 in
theorem c_rfind_no (hs : e ≤ s) (h2 : s < 2 ^ 31) (hQ : Q (.inl (some (.int (nI e)))) h) : px_Wp sx 29 0 [some (.ref r), some (.int (nI c)), some (.int (nI s)), some (.int (nI e)), none] [] h Q := by
  have ge : nI e ≤ nI s := nI_le hs h2
  simp only [pc29_0, pc29_1, pc29_3, pc29_5, pc29_6, pc29_28, pc29_29, px_op_some, px_kv_ap, px_ki_ap, px_kl_ap, px_kn_ap, px_kh_ap, px_op_none, px_K_some, px_K_none, px_K_thr, px_kill, ↓reduceIte, if_true, if_false, true_and, and_true, px_kill, ge]
  exact hQ
set_option maxRecDepth 16384 in
theorem c_small (w : rowAt h r N n f) (hB : txA f n B) (hk : k < n) (hQ : ∀ x, says x (97 ≤ B k ∧ B k ≤ 122) → Q (.inl (some (.int x))) h) : px_Wp sx 34 0 [some (.ref r), some (.int (nI k))] [] h Q := by
  have hcl : px_cls h r = some 1 := by unfold px_cls; rw [w.1]
  have b := (hB k hk).2
  simp only [pc34_0, pc34_0n, pc34_1, pc34_2, px_op_some, px_kv_ap, px_ki_ap, px_kl_ap, px_kn_ap, px_kh_ap, px_op_none, px_K_some, px_K_none, px_K_thr, px_kill, ↓reduceIte, if_true, if_false, true_and, and_true, hcl]
  rw [r_atT w hB hk]
  by_cases x : B k < 97
  · have l : nI (B k) < 97 := nI_ltI (b := 97) (by omega) (by decide) |>.mpr x
    simp only [px_K_some, pc34_5, pc34_7, pc34_10, pc34_10n, pc34_11, pc34_12, pc34_15, pc34_17, pc34_20, pc34_21, pc34_24, pc34_25, px_op_some, px_kv_ap, px_ki_ap, px_kl_ap, px_kn_ap, px_kh_ap, px_op_none, px_K_some, px_K_none, px_K_thr, px_kill, ↓reduceIte, if_true, if_false, true_and, and_true, nar_0, nar_1, l]
    exact hQ 0 (.inr ⟨rfl, by omega⟩)
  · have l : ¬ nI (B k) < 97 := nI_nlt (b := 97) (by omega) (by omega)
    simp only [px_K_some, pc34_5, pc34_7, pc34_10, pc34_10n, pc34_11, pc34_12, px_op_some, px_kv_ap, px_ki_ap, px_kl_ap, px_kn_ap, px_kh_ap, px_op_none, px_K_some, px_K_none, px_K_thr, px_kill, ↓reduceIte, if_true, if_false, true_and, and_true, l, hcl]
    rw [r_atT w hB hk]
    by_cases y : B k ≤ 122
    · have l2 : ¬ 122 < nI (B k) := nI_nlt (a := 122) (by omega) (by decide)
      simp only [px_K_some, pc34_15, pc34_17, pc34_20, pc34_21, pc34_24, pc34_25, px_op_some, px_kv_ap, px_ki_ap, px_kl_ap, px_kn_ap, px_kh_ap, px_op_none, px_K_some, px_K_none, px_K_thr, px_kill, ↓reduceIte, if_true, if_false, true_and, and_true, nar_0, nar_1, l2]
      exact hQ 1 (.inl ⟨rfl, by omega⟩)
    · have l2 : 122 < nI (B k) := nI_ltI (a := 122) (by decide) (by omega) |>.mpr (by omega)
      simp only [px_K_some, pc34_15, pc34_17, pc34_20, pc34_21, pc34_24, pc34_25, px_op_some, px_kv_ap, px_ki_ap, px_kl_ap, px_kn_ap, px_kh_ap, px_op_none, px_K_some, px_K_none, px_K_thr, px_kill, ↓reduceIte, if_true, if_false, true_and, and_true, nar_0, nar_1, l2]
      exact hQ 0 (.inr ⟨rfl, by omega⟩)
/-- the text of a String is the word ws -/
def strW (t : Nat) (ws : List Nat) : Prop := (1 ≤ t ∧ t ≤ 11) ∧ px_sl.getD (t - 1) 0 = ws.length ∧ (∀ i, i < ws.length → (px_sb.getD (t - 1) []).getD i 0 = nI (ws.getD i 0)) ∧ (∀ i, i < ws.length → ws.getD i 0 < 256) ∧ ws.length ≤ 10
set_option maxRecDepth 16384 in
theorem c_says_l {t : Nat} {ws : List Nat} (w : rowAt h r N n f) (hB : txA f n B) (hW : strW t ws) (hn : s + ws.length ≤ n) : ∀ d i, i + d = ws.length → (∀ x, says x (∀ j, i ≤ j → j < ws.length → B (s + j) = ws.getD j 0) → Q (.inl (some (.int x))) h) →
    px_Wp sx 31 15 [some (.ref r), some (.int (nI s)), some (.int (nI e)), some (.retAddr t), some (.int (nI i))] [] h Q := by
  have hN := w.2.2
  have hcl : px_cls h r = some 1 := by unfold px_cls; rw [w.1]
  obtain ⟨t1, t2, t3, t4, t5⟩ := hW
  intro d
  induction d with
  | zero =>
    intro i hi hQ
    have hi : i = ws.length := by omega
    subst hi
    simp only [pc31_15, pc31_17, pc31_17n, pc31_17s, pc31_18, pc31_21, pc31_49, pc31_50, px_op_some, px_kv_ap, px_ki_ap, px_kl_ap, px_kn_ap, px_kh_ap, px_op_none, px_K_some, px_K_none, px_K_thr, px_kill, ↓reduceIte, if_true, if_false, true_and, and_true, yr_0, yr_1, tr_0, tr_1, tr_2, tr_3, px_rf, of_2, of_4, in_02, in_12, in_04, in_14, in_24, in_34, Nat.reduceLeDiff, in_01, lgc_self, Int32.reduceToNatClampNeg, wr_at, al_at, px_wr_len, px_al_len, px_wr_1, px_al_1, tg_0, tg_1, tg_2, tg_3, tg_12, tg_15, tg_17, tg_18, tg_i1, tg_b0, tg_b3, px_fit, Nat.reduceEqDiff, Nat.reduceLT, Nat.reduceAdd, Option.some.injEq, up_at, px_wr_wr, i32_le, Int32.reduceLE, Int32.reduceLT, mf_len, nar_0, nar_1, px_KH_some, px_KH_none, px_KH_thr, List.length_cons, List.length_nil, List.getElem?_cons_zero, List.getElem?_cons_succ, List.set_cons_zero, List.set_cons_succ, ↓reduceIte, Nat.lt_irrefl, ne_0_1, ne_0_2, ne_0_3, ne_0_4, ne_0_5, ne_1_0, ne_1_2, ne_1_3, ne_1_4, ne_1_5, ne_2_0, ne_2_1, ne_2_3, ne_2_4, ne_2_5, ne_3_0, ne_3_1, ne_3_2, ne_3_4, ne_3_5, ne_4_0, ne_4_1, ne_4_2, ne_4_3, ne_4_5, ne_5_0, ne_5_1, ne_5_2, ne_5_3, ne_5_4, hd_256_12, hd_256_16, hd_257_12, hd_258_12, hd_259_12, hd_260_12, hd_261_12, hd_261_13, hd_261_16, hd_262_12, hd_262_13, hd_262_16, hd_263_12, hd_263_13, hd_264_12, hd_264_13, hd_264_14, hd_265_12, hd_265_13, hd_265_14, hd_266_12, hd_267_12, hd_267_13, hd_267_14, hd_268_12, hd_269_12, hd_269_14, hd_270_12, hd_271_12, hd_272_12, hd_273_12, hd_273_13, hd_273_15, hd_274_12, hd_274_15, hd_275_12, hd_275_15, hd_276_12, nI_p1, nI_p2, nI_p3, nI_p4, nI_p5, not_true_eq_false, not_false_eq_true, and_self, mf_0, mf_1, mf_2, mf_3, mf_4, mf_5, mf_6, mf_7, mf_8, mf_9, mf_10, mf_11, mf_12, mf_13, mf_14, mf_15, mf_16, mf_17, mf_18, mf_19, mf_20, mf_21, mf_22, mf_23, mf_24, mf_25, mf_26, mf_27, mf_28, mf_29, mf_30, mf_31, mf_32, mf_33, mf_34, mf_35, mf_36, mf_37, mf_38, mf_39, mf_40, mf_41, mf_42, mf_43, mf_44, mf_45, mf_46, mf_47, mf_48, mf_49, mf_50, mf_51, mf_52, mf_53, mf_54, mf_55, mf_56, mf_57, mf_58, mf_59, mf_60, mf_61, mfs_0, mfs_2, mfs_17, mfs_20, mfs_26, mfs_32, mfs_34, mfs_36, mfs_38, mfs_43, mfs_44, mfs_45, mfs_46, mfs_47, iy_0, iy_1, iy_2, iy_3, iy_4, iy_5, iy_6, t1, t2, and_self, Int32.lt_irrefl]
    exact hQ 1 (.inl ⟨rfl, fun j a b => absurd a (by omega)⟩)
  | succ d ih =>
    intro i hi hQ
    have ge : ¬ nI ws.length ≤ nI i := nI_ge (by omega) (by omega)
    have bi := hB (s + i) (by omega)
    simp only [pc31_15, pc31_17, pc31_17n, pc31_17s, pc31_18, pc31_21, pc31_24, pc31_24n, pc31_24s, pc31_25, pc31_26, pc31_28, pc31_29, px_op_some, px_kv_ap, px_ki_ap, px_kl_ap, px_kn_ap, px_kh_ap, px_op_none, px_K_some, px_K_none, px_K_thr, px_kill, ↓reduceIte, if_true, if_false, true_and, and_true, t1, t2, and_self, ge, hcl, nI_add]
    rw [r_atT w hB (by omega)]
    have ii : px_in (nI i) ws.length = true := px_inb (by omega) (by omega)
    have ci : (nI i).toNatClampNeg = i := nI_clamp (by omega)
    have t3' := t3 i (by omega)
    by_cases x : B (s + i) = ws.getD i 0
    · simp only [px_K_some, pc31_32, pc31_32n, pc31_32s, pc31_33, pc31_35, pc31_38, pc31_41, pc31_42, pc31_43, pc31_46, px_op_some, px_kv_ap, px_ki_ap, px_kl_ap, px_kn_ap, px_kh_ap, px_op_none, px_K_some, px_K_none, px_K_thr, px_kill, ↓reduceIte, if_true, if_false, true_and, and_true, t1, t2, and_self, ii, ci, t3', x, nI_p1]
      refine ih (i + 1) (by omega) (fun y hy => hQ y (says_congr hy ⟨fun z j a b => ?_, fun z j a b => z j (by omega) b⟩))
      by_cases ej : j = i
      · subst ej; exact x
      · exact z j (by omega) b
    · have ne : ¬ nI (B (s + i)) = nI (ws.getD i 0) := fun z => x ((nI_eq (by omega) (by have := t4 i (by omega); omega)).mp z)
      simp only [px_K_some, pc31_32, pc31_32n, pc31_32s, pc31_33, pc31_35, pc31_38, pc31_41, pc31_42, px_op_some, px_kv_ap, px_ki_ap, px_kl_ap, px_kn_ap, px_kh_ap, px_op_none, px_K_some, px_K_none, px_K_thr, px_kill, ↓reduceIte, if_true, if_false, true_and, and_true, nar_0, t1, t2, and_self, ii, ci, t3', ne]
      exact hQ 0 (.inr ⟨rfl, fun z => x (z i (Nat.le_refl _) (by omega))⟩)
set_option maxRecDepth 16384 in
theorem c_says {t : Nat} {ws : List Nat} (w : rowAt h r N n f) (hB : txA f n B) (hW : strW t ws) (hs : s ≤ e) (he : e ≤ n) (hQ : ∀ x, says x (wrd B s e ws) → Q (.inl (some (.int x))) h) :
    px_Wp sx 31 0 [some (.ref r), some (.int (nI s)), some (.int (nI e)), some (.retAddr t), none] [] h Q := by
  have hN := w.2.2
  have hW' := hW
  obtain ⟨t1, t2, t3, t4, t5⟩ := hW'
  have sb : nI e - nI s = nI (e - s) := nI_sub hs
  by_cases x : e - s = ws.length
  · simp only [pc31_0, pc31_1, pc31_2, pc31_3, pc31_3n, pc31_3s, pc31_4, pc31_7, pc31_10, pc31_11, pc31_12, pc31_13, px_op_some, px_kv_ap, px_ki_ap, px_kl_ap, px_kn_ap, px_kh_ap, px_op_none, px_K_some, px_K_none, px_K_thr, px_kill, ↓reduceIte, if_true, if_false, true_and, and_true, t1, t2, and_self, sb, x, px_kill]
    refine c_says_l w hB hW (by omega) ws.length 0 (by omega) (fun y hy => hQ y (says_congr hy ⟨fun z => ⟨by omega, fun j hj => z j (Nat.zero_le _) hj⟩, fun z j _ hj => z.2 j hj⟩))
  · have ne : ¬ nI (e - s) = nI ws.length := fun z => x ((nI_eq (by omega) (by omega)).mp z)
    simp only [pc31_0, pc31_1, pc31_2, pc31_3, pc31_3n, pc31_3s, pc31_4, pc31_7, pc31_10, pc31_11, px_op_some, px_kv_ap, px_ki_ap, px_kl_ap, px_kn_ap, px_kh_ap, px_op_none, px_K_some, px_K_none, px_K_thr, px_kill, ↓reduceIte, if_true, if_false, true_and, and_true, nar_0, t1, t2, and_self, sb, ne]
    exact hQ 0 (.inr ⟨rfl, fun z => x (by have := z.1; omega)⟩)
set_option maxRecDepth 16384 in
theorem m_wordEnd_l {l1 : Option Value} {g : Nat → Int32} (hA : h.2[A]? = some (.inr (1, N, .inl g))) (hN : N ≤ 100000) (hB : txM g n B) (hn : n ≤ N) : ∀ d k, k + d ≤ n → Q (.inl (some (.int (nI (fnd B 32 k d))))) h → px_Wp sx 151 2 [some (.ref A), l1, some (.int (nI (k + d))), some (.int (nI k))] [] h Q := by
  intro d
  induction d with
  | zero =>
    intro k hk hQ
    simp only [pc151_2, pc151_3, pc151_4, pc151_21, pc151_22, px_op_some, px_kv_ap, px_ki_ap, px_kl_ap, px_kn_ap, px_kh_ap, px_op_none, px_K_some, px_K_none, px_K_thr, px_kill, ↓reduceIte, if_true, if_false, true_and, and_true, yr_0, yr_1, tr_0, tr_1, tr_2, tr_3, px_rf, of_2, of_4, in_02, in_12, in_04, in_14, in_24, in_34, Nat.reduceLeDiff, in_01, lgc_self, Int32.reduceToNatClampNeg, wr_at, al_at, px_wr_len, px_al_len, px_wr_1, px_al_1, tg_0, tg_1, tg_2, tg_3, tg_12, tg_15, tg_17, tg_18, tg_i1, tg_b0, tg_b3, px_fit, Nat.reduceEqDiff, Nat.reduceLT, Nat.reduceAdd, Option.some.injEq, up_at, px_wr_wr, i32_le, Int32.reduceLE, Int32.reduceLT, mf_len, nar_0, nar_1, px_KH_some, px_KH_none, px_KH_thr, List.length_cons, List.length_nil, List.getElem?_cons_zero, List.getElem?_cons_succ, List.set_cons_zero, List.set_cons_succ, ↓reduceIte, Nat.lt_irrefl, ne_0_1, ne_0_2, ne_0_3, ne_0_4, ne_0_5, ne_1_0, ne_1_2, ne_1_3, ne_1_4, ne_1_5, ne_2_0, ne_2_1, ne_2_3, ne_2_4, ne_2_5, ne_3_0, ne_3_1, ne_3_2, ne_3_4, ne_3_5, ne_4_0, ne_4_1, ne_4_2, ne_4_3, ne_4_5, ne_5_0, ne_5_1, ne_5_2, ne_5_3, ne_5_4, hd_256_12, hd_256_16, hd_257_12, hd_258_12, hd_259_12, hd_260_12, hd_261_12, hd_261_13, hd_261_16, hd_262_12, hd_262_13, hd_262_16, hd_263_12, hd_263_13, hd_264_12, hd_264_13, hd_264_14, hd_265_12, hd_265_13, hd_265_14, hd_266_12, hd_267_12, hd_267_13, hd_267_14, hd_268_12, hd_269_12, hd_269_14, hd_270_12, hd_271_12, hd_272_12, hd_273_12, hd_273_13, hd_273_15, hd_274_12, hd_274_15, hd_275_12, hd_275_15, hd_276_12, nI_p1, nI_p2, nI_p3, nI_p4, nI_p5, not_true_eq_false, not_false_eq_true, and_self, mf_0, mf_1, mf_2, mf_3, mf_4, mf_5, mf_6, mf_7, mf_8, mf_9, mf_10, mf_11, mf_12, mf_13, mf_14, mf_15, mf_16, mf_17, mf_18, mf_19, mf_20, mf_21, mf_22, mf_23, mf_24, mf_25, mf_26, mf_27, mf_28, mf_29, mf_30, mf_31, mf_32, mf_33, mf_34, mf_35, mf_36, mf_37, mf_38, mf_39, mf_40, mf_41, mf_42, mf_43, mf_44, mf_45, mf_46, mf_47, mf_48, mf_49, mf_50, mf_51, mf_52, mf_53, mf_54, mf_55, mf_56, mf_57, mf_58, mf_59, mf_60, mf_61, mfs_0, mfs_2, mfs_17, mfs_20, mfs_26, mfs_32, mfs_34, mfs_36, mfs_38, mfs_43, mfs_44, mfs_45, mfs_46, mfs_47, iy_0, iy_1, iy_2, iy_3, iy_4, iy_5, iy_6, Nat.add_zero, Int32.lt_irrefl]
    exact hQ
  | succ d ih =>
    intro k hk hQ
    have ge : ¬ nI (k + (d + 1)) ≤ nI k := nI_ge (by omega) (by omega)
    have ik : px_in (nI k) N = true := px_inb (by omega) (by omega)
    have ck : (nI k).toNatClampNeg = k := nI_clamp (by omega)
    obtain ⟨b1, b2⟩ := hB k (by omega)
    unfold fnd at hQ
    by_cases x : B k = 32
    · rw [if_pos x] at hQ
      rw [x] at b1
      simp only [pc151_2, pc151_3, pc151_4, pc151_7, pc151_7n, pc151_8, pc151_9, pc151_10, pc151_12, pc151_21, pc151_22, px_op_some, px_kv_ap, px_ki_ap, px_kl_ap, px_kn_ap, px_kh_ap, px_op_none, px_K_some, px_K_none, px_K_thr, px_kill, ↓reduceIte, if_true, if_false, true_and, and_true, px_ai, hA, ge, ik, ck, b1, tg_i1, and_self, show (nI 32 = 32) = True from eq_true rfl]
      exact hQ
    · rw [if_neg x] at hQ
      have ne : ¬ nI (B k) = 32 := fun z => x ((nI_eq (b := 32) (by omega) (by decide)).mp z)
      rw [pc151_2]
      simp only [pc151_3, pc151_4, pc151_7, pc151_7n, pc151_8, pc151_9, pc151_10, pc151_12, pc151_15, pc151_18, px_op_some, px_kv_ap, px_ki_ap, px_kl_ap, px_kn_ap, px_kh_ap, px_op_none, px_K_some, px_K_none, px_K_thr, px_kill, ↓reduceIte, if_true, if_false, true_and, and_true, px_ai, hA, ge, ik, ck, b1, tg_i1, and_self, ne, nI_p1]
      have := ih (k + 1) (by omega) hQ
      rw [show k + 1 + d = k + (d + 1) by omega] at this
      exact this
set_option maxRecDepth 16384 in
theorem m_wordEnd {g : Nat → Int32} (hA : h.2[A]? = some (.inr (1, N, .inl g))) (hN : N ≤ 100000) (hB : txM g n B) (hn : n ≤ N) (hs : s ≤ e) (he : e ≤ n) (hQ : Q (.inl (some (.int (nI (fnd B 32 s (e - s)))))) h) : px_Wp sx 151 0 [some (.ref A), some (.int (nI s)), some (.int (nI e)), none] [] h Q := by
  simp only [pc151_0, pc151_1, px_kill]
  have := m_wordEnd_l (sx := sx) (l1 := some (.int (nI s))) hA hN hB hn (e - s) s (by omega) hQ
  rw [show s + (e - s) = e by omega] at this
  exact this
/-- the letters packed into v are the word -/
def pkd (cap : Int32) : List Nat → Int64 → Prop
  | [], v => v = 0
  | a :: w, v => ¬ lg_cmp v 0 ≤ 0 ∧ ¬ lg_cmp v 0 = 0 ∧ 96 - cap + (v &&& 31).toInt32 = nI a ∧ a < 256 ∧ pkd cap w (v >>> 5)
set_option maxRecDepth 16384 in
theorem m_isWord_l {g : Nat → Int32} {l1 l3 l4 : Option Value} {cap : Int32} (hA : h.2[A]? = some (.inr (1, N, .inl g))) (hN : N ≤ 100000) (hB : txM g n B) (hn : n ≤ N) (he : e ≤ n) : ∀ w v p, pkd cap w v → p ≤ e → (∀ x, says x (wrd B p e w) → Q (.inl (some (.int x))) h) →
    px_Wp sx 152 6 [some (.ref A), l1, some (.int (nI e)), l3, l4, some (.int cap), some (.int (nI p)), some (.long v), none] [] h Q := by
  have sh : ∀ v : Int64, v >>> ((5 : Int32).toInt64 &&& 63) = v >>> 5 := fun v => rfl
  have fin0 : ∀ v p, p ≤ e → ¬ (p = e ∧ lg_cmp v 0 = 0) → Q (.inl (some (.int 0))) h → px_Wp sx 152 51 [some (.ref A), l1, some (.int (nI e)), l3, l4, some (.int cap), some (.int (nI p)), some (.long v), none] [] h Q := fun v p hp hne q => by
    by_cases x : p = e
    · subst x
      have : ¬ lg_cmp v 0 = 0 := fun z => hne ⟨rfl, z⟩
      simp only [pc152_51, pc152_53, pc152_54, pc152_57, pc152_59, pc152_60, pc152_61, pc152_64, pc152_65, pc152_68, pc152_69, px_op_some, px_kv_ap, px_ki_ap, px_kl_ap, px_kn_ap, px_kh_ap, px_op_none, px_K_some, px_K_none, px_K_thr, px_kill, ↓reduceIte, if_true, if_false, true_and, and_true, yr_0, yr_1, tr_0, tr_1, tr_2, tr_3, px_rf, of_2, of_4, in_02, in_12, in_04, in_14, in_24, in_34, Nat.reduceLeDiff, in_01, lgc_self, Int32.reduceToNatClampNeg, wr_at, al_at, px_wr_len, px_al_len, px_wr_1, px_al_1, tg_0, tg_1, tg_2, tg_3, tg_12, tg_15, tg_17, tg_18, tg_i1, tg_b0, tg_b3, px_fit, Nat.reduceEqDiff, Nat.reduceLT, Nat.reduceAdd, Option.some.injEq, up_at, px_wr_wr, i32_le, Int32.reduceLE, Int32.reduceLT, mf_len, nar_0, nar_1, px_KH_some, px_KH_none, px_KH_thr, List.length_cons, List.length_nil, List.getElem?_cons_zero, List.getElem?_cons_succ, List.set_cons_zero, List.set_cons_succ, ↓reduceIte, Nat.lt_irrefl, ne_0_1, ne_0_2, ne_0_3, ne_0_4, ne_0_5, ne_1_0, ne_1_2, ne_1_3, ne_1_4, ne_1_5, ne_2_0, ne_2_1, ne_2_3, ne_2_4, ne_2_5, ne_3_0, ne_3_1, ne_3_2, ne_3_4, ne_3_5, ne_4_0, ne_4_1, ne_4_2, ne_4_3, ne_4_5, ne_5_0, ne_5_1, ne_5_2, ne_5_3, ne_5_4, hd_256_12, hd_256_16, hd_257_12, hd_258_12, hd_259_12, hd_260_12, hd_261_12, hd_261_13, hd_261_16, hd_262_12, hd_262_13, hd_262_16, hd_263_12, hd_263_13, hd_264_12, hd_264_13, hd_264_14, hd_265_12, hd_265_13, hd_265_14, hd_266_12, hd_267_12, hd_267_13, hd_267_14, hd_268_12, hd_269_12, hd_269_14, hd_270_12, hd_271_12, hd_272_12, hd_273_12, hd_273_13, hd_273_15, hd_274_12, hd_274_15, hd_275_12, hd_275_15, hd_276_12, nI_p1, nI_p2, nI_p3, nI_p4, nI_p5, not_true_eq_false, not_false_eq_true, and_self, mf_0, mf_1, mf_2, mf_3, mf_4, mf_5, mf_6, mf_7, mf_8, mf_9, mf_10, mf_11, mf_12, mf_13, mf_14, mf_15, mf_16, mf_17, mf_18, mf_19, mf_20, mf_21, mf_22, mf_23, mf_24, mf_25, mf_26, mf_27, mf_28, mf_29, mf_30, mf_31, mf_32, mf_33, mf_34, mf_35, mf_36, mf_37, mf_38, mf_39, mf_40, mf_41, mf_42, mf_43, mf_44, mf_45, mf_46, mf_47, mf_48, mf_49, mf_50, mf_51, mf_52, mf_53, mf_54, mf_55, mf_56, mf_57, mf_58, mf_59, mf_60, mf_61, mfs_0, mfs_2, mfs_17, mfs_20, mfs_26, mfs_32, mfs_34, mfs_36, mfs_38, mfs_43, mfs_44, mfs_45, mfs_46, mfs_47, iy_0, iy_1, iy_2, iy_3, iy_4, iy_5, iy_6, this, not_true_eq_false, not_false_eq_true]
      exact q
    · have ne : ¬ nI p = nI e := fun z => x ((nI_eq (by omega) (by omega)).mp z)
      simp only [pc152_51, pc152_53, pc152_54, pc152_57, pc152_59, pc152_60, pc152_61, pc152_64, pc152_65, pc152_68, pc152_69, px_op_some, px_kv_ap, px_ki_ap, px_kl_ap, px_kn_ap, px_kh_ap, px_op_none, px_K_some, px_K_none, px_K_thr, px_kill, ↓reduceIte, if_true, if_false, true_and, and_true, yr_0, yr_1, tr_0, tr_1, tr_2, tr_3, px_rf, of_2, of_4, in_02, in_12, in_04, in_14, in_24, in_34, Nat.reduceLeDiff, in_01, lgc_self, Int32.reduceToNatClampNeg, wr_at, al_at, px_wr_len, px_al_len, px_wr_1, px_al_1, tg_0, tg_1, tg_2, tg_3, tg_12, tg_15, tg_17, tg_18, tg_i1, tg_b0, tg_b3, px_fit, Nat.reduceEqDiff, Nat.reduceLT, Nat.reduceAdd, Option.some.injEq, up_at, px_wr_wr, i32_le, Int32.reduceLE, Int32.reduceLT, mf_len, nar_0, nar_1, px_KH_some, px_KH_none, px_KH_thr, List.length_cons, List.length_nil, List.getElem?_cons_zero, List.getElem?_cons_succ, List.set_cons_zero, List.set_cons_succ, ↓reduceIte, Nat.lt_irrefl, ne_0_1, ne_0_2, ne_0_3, ne_0_4, ne_0_5, ne_1_0, ne_1_2, ne_1_3, ne_1_4, ne_1_5, ne_2_0, ne_2_1, ne_2_3, ne_2_4, ne_2_5, ne_3_0, ne_3_1, ne_3_2, ne_3_4, ne_3_5, ne_4_0, ne_4_1, ne_4_2, ne_4_3, ne_4_5, ne_5_0, ne_5_1, ne_5_2, ne_5_3, ne_5_4, hd_256_12, hd_256_16, hd_257_12, hd_258_12, hd_259_12, hd_260_12, hd_261_12, hd_261_13, hd_261_16, hd_262_12, hd_262_13, hd_262_16, hd_263_12, hd_263_13, hd_264_12, hd_264_13, hd_264_14, hd_265_12, hd_265_13, hd_265_14, hd_266_12, hd_267_12, hd_267_13, hd_267_14, hd_268_12, hd_269_12, hd_269_14, hd_270_12, hd_271_12, hd_272_12, hd_273_12, hd_273_13, hd_273_15, hd_274_12, hd_274_15, hd_275_12, hd_275_15, hd_276_12, nI_p1, nI_p2, nI_p3, nI_p4, nI_p5, not_true_eq_false, not_false_eq_true, and_self, mf_0, mf_1, mf_2, mf_3, mf_4, mf_5, mf_6, mf_7, mf_8, mf_9, mf_10, mf_11, mf_12, mf_13, mf_14, mf_15, mf_16, mf_17, mf_18, mf_19, mf_20, mf_21, mf_22, mf_23, mf_24, mf_25, mf_26, mf_27, mf_28, mf_29, mf_30, mf_31, mf_32, mf_33, mf_34, mf_35, mf_36, mf_37, mf_38, mf_39, mf_40, mf_41, mf_42, mf_43, mf_44, mf_45, mf_46, mf_47, mf_48, mf_49, mf_50, mf_51, mf_52, mf_53, mf_54, mf_55, mf_56, mf_57, mf_58, mf_59, mf_60, mf_61, mfs_0, mfs_2, mfs_17, mfs_20, mfs_26, mfs_32, mfs_34, mfs_36, mfs_38, mfs_43, mfs_44, mfs_45, mfs_46, mfs_47, iy_0, iy_1, iy_2, iy_3, iy_4, iy_5, iy_6, ne, not_true_eq_false, not_false_eq_true]
      exact q
  intro w
  induction w with
  | nil =>
    intro v p hv hp hQ
    have hv : v = 0 := hv
    subst hv
    have z0 : lg_cmp 0 0 = 0 := by decide
    by_cases x : p = e
    · subst x
      simp only [pc152_6, pc152_8, pc152_9, pc152_51, pc152_53, pc152_54, pc152_57, pc152_59, pc152_60, pc152_61, pc152_64, pc152_65, pc152_68, pc152_69, px_op_some, px_kv_ap, px_ki_ap, px_kl_ap, px_kn_ap, px_kh_ap, px_op_none, px_K_some, px_K_none, px_K_thr, px_kill, ↓reduceIte, if_true, if_false, true_and, and_true, yr_0, yr_1, tr_0, tr_1, tr_2, tr_3, px_rf, of_2, of_4, in_02, in_12, in_04, in_14, in_24, in_34, Nat.reduceLeDiff, in_01, lgc_self, Int32.reduceToNatClampNeg, wr_at, al_at, px_wr_len, px_al_len, px_wr_1, px_al_1, tg_0, tg_1, tg_2, tg_3, tg_12, tg_15, tg_17, tg_18, tg_i1, tg_b0, tg_b3, px_fit, Nat.reduceEqDiff, Nat.reduceLT, Nat.reduceAdd, Option.some.injEq, up_at, px_wr_wr, i32_le, Int32.reduceLE, Int32.reduceLT, mf_len, nar_0, nar_1, px_KH_some, px_KH_none, px_KH_thr, List.length_cons, List.length_nil, List.getElem?_cons_zero, List.getElem?_cons_succ, List.set_cons_zero, List.set_cons_succ, ↓reduceIte, Nat.lt_irrefl, ne_0_1, ne_0_2, ne_0_3, ne_0_4, ne_0_5, ne_1_0, ne_1_2, ne_1_3, ne_1_4, ne_1_5, ne_2_0, ne_2_1, ne_2_3, ne_2_4, ne_2_5, ne_3_0, ne_3_1, ne_3_2, ne_3_4, ne_3_5, ne_4_0, ne_4_1, ne_4_2, ne_4_3, ne_4_5, ne_5_0, ne_5_1, ne_5_2, ne_5_3, ne_5_4, hd_256_12, hd_256_16, hd_257_12, hd_258_12, hd_259_12, hd_260_12, hd_261_12, hd_261_13, hd_261_16, hd_262_12, hd_262_13, hd_262_16, hd_263_12, hd_263_13, hd_264_12, hd_264_13, hd_264_14, hd_265_12, hd_265_13, hd_265_14, hd_266_12, hd_267_12, hd_267_13, hd_267_14, hd_268_12, hd_269_12, hd_269_14, hd_270_12, hd_271_12, hd_272_12, hd_273_12, hd_273_13, hd_273_15, hd_274_12, hd_274_15, hd_275_12, hd_275_15, hd_276_12, nI_p1, nI_p2, nI_p3, nI_p4, nI_p5, not_true_eq_false, not_false_eq_true, and_self, mf_0, mf_1, mf_2, mf_3, mf_4, mf_5, mf_6, mf_7, mf_8, mf_9, mf_10, mf_11, mf_12, mf_13, mf_14, mf_15, mf_16, mf_17, mf_18, mf_19, mf_20, mf_21, mf_22, mf_23, mf_24, mf_25, mf_26, mf_27, mf_28, mf_29, mf_30, mf_31, mf_32, mf_33, mf_34, mf_35, mf_36, mf_37, mf_38, mf_39, mf_40, mf_41, mf_42, mf_43, mf_44, mf_45, mf_46, mf_47, mf_48, mf_49, mf_50, mf_51, mf_52, mf_53, mf_54, mf_55, mf_56, mf_57, mf_58, mf_59, mf_60, mf_61, mfs_0, mfs_2, mfs_17, mfs_20, mfs_26, mfs_32, mfs_34, mfs_36, mfs_38, mfs_43, mfs_44, mfs_45, mfs_46, mfs_47, iy_0, iy_1, iy_2, iy_3, iy_4, iy_5, iy_6, z0, Int32.lt_irrefl, not_true_eq_false]
      exact hQ 1 (.inl ⟨rfl, wrd_nil.mpr rfl⟩)
    · have ge : ¬ nI e ≤ nI p := nI_ge (by omega) (by omega)
      simp only [pc152_6, pc152_8, pc152_9, pc152_12, pc152_14, pc152_15, pc152_16, px_op_some, px_kv_ap, px_ki_ap, px_kl_ap, px_kn_ap, px_kh_ap, px_op_none, px_K_some, px_K_none, px_K_thr, px_kill, ↓reduceIte, if_true, if_false, true_and, and_true, ge, z0, Int32.le_refl]
      exact fin0 0 p hp (fun z => x z.1) (hQ 0 (.inr ⟨rfl, fun z => x (wrd_nil.mp z)⟩))
  | cons a w ih =>
    intro v p hv hp hQ
    obtain ⟨v1, v2, v3, v4, v5⟩ := hv
    by_cases x : p = e
    · have ge : nI e ≤ nI p := by rw [x]; exact Int32.le_refl _
      simp only [pc152_6, pc152_8, pc152_9, px_op_some, px_kv_ap, px_ki_ap, px_kl_ap, px_kn_ap, px_kh_ap, px_op_none, px_K_some, px_K_none, px_K_thr, px_kill, ↓reduceIte, if_true, if_false, true_and, and_true, ge]
      exact fin0 v p hp (fun z => v2 z.2) (hQ 0 (.inr ⟨rfl, fun z => by have := (wrd_cons.mp z).1; omega⟩))
    · have ge : ¬ nI e ≤ nI p := nI_ge (by omega) (by omega)
      have ik : px_in (nI p) N = true := px_inb (by omega) (by omega)
      have ck : (nI p).toNatClampNeg = p := nI_clamp (by omega)
      obtain ⟨b1, b2⟩ := hB p (by omega)
      by_cases y : B p = a
      · rw [y] at b1
        rw [pc152_6]
        simp only [pc152_8, pc152_9, pc152_12, pc152_14, pc152_15, pc152_16, pc152_19, pc152_19n, pc152_20, pc152_22, pc152_23, pc152_25, pc152_27, pc152_28, pc152_30, pc152_33, pc152_34, pc152_35, pc152_36, pc152_39, pc152_42, pc152_44, pc152_45, pc152_46, pc152_48, px_op_some, px_kv_ap, px_ki_ap, px_kl_ap, px_kn_ap, px_kh_ap, px_op_none, px_K_some, px_K_none, px_K_thr, px_kill, ↓reduceIte, if_true, if_false, true_and, and_true, px_ai, hA, ge, v1, ik, ck, b1, v3, tg_i1, and_self, not_true_eq_false, nI_p1, sh, px_kill]
        refine ih _ (p + 1) v5 (by omega) (fun q hq => hQ q (says_congr hq ⟨fun z => wrd_cons.mpr ⟨by omega, y, z⟩, fun z => (wrd_cons.mp z).2.2⟩))
      · have ne : ¬ nI (B p) = nI a := fun z => y ((nI_eq (by omega) (by omega)).mp z)
        simp only [pc152_6, pc152_8, pc152_9, pc152_12, pc152_14, pc152_15, pc152_16, pc152_19, pc152_19n, pc152_20, pc152_22, pc152_23, pc152_25, pc152_27, pc152_28, pc152_30, pc152_33, pc152_34, pc152_35, pc152_36, px_op_some, px_kv_ap, px_ki_ap, px_kl_ap, px_kn_ap, px_kh_ap, px_op_none, px_K_some, px_K_none, px_K_thr, px_kill, ↓reduceIte, if_true, if_false, true_and, and_true, px_ai, hA, ge, v1, ik, ck, b1, v3, tg_i1, and_self, ne, not_false_eq_true]
        exact fin0 v p hp (fun z => x z.1) (hQ 0 (.inr ⟨rfl, fun z => y (wrd_cons.mp z).2.1⟩))
set_option maxRecDepth 16384 in
theorem m_isWord {g : Nat → Int32} {cap : Int32} {v : Int64} {ws : List Nat} (hA : h.2[A]? = some (.inr (1, N, .inl g))) (hN : N ≤ 100000) (hB : txM g n B) (hn : n ≤ N) (hs : s ≤ e) (he : e ≤ n) (hp : pkd cap ws v) (hQ : ∀ x, says x (wrd B s e ws) → Q (.inl (some (.int x))) h) :
    px_Wp sx 152 0 [some (.ref A), some (.int (nI s)), some (.int (nI e)), some (.long v), none, some (.int cap), none, none, none] [] h Q := by
  simp only [pc152_0, pc152_1, pc152_3, pc152_4, px_kill]
  exact m_isWord_l hA hN hB hn he ws v s hp hs hQ
end WORDS
set_option maxRecDepth 16384 in
theorem str_1 : strW 1 [70, 82, 79, 77, 32, 101, 109, 112, 116, 121] := ⟨by decide, rfl, by decide, by decide, by decide⟩
set_option maxRecDepth 16384 in
theorem str_2 : strW 2 [70, 82, 79, 77, 32] := ⟨by decide, rfl, by decide, by decide, by decide⟩
set_option maxRecDepth 16384 in
theorem str_3 : strW 3 [69, 78, 86] := ⟨by decide, rfl, by decide, by decide, by decide⟩
set_option maxRecDepth 16384 in
theorem str_4 : strW 4 [82, 85, 78] := ⟨by decide, rfl, by decide, by decide, by decide⟩
set_option maxRecDepth 16384 in
theorem str_5 : strW 5 [67, 79, 80, 89] := ⟨by decide, rfl, by decide, by decide, by decide⟩
set_option maxRecDepth 16384 in
theorem str_6 : strW 6 [109, 107, 100, 105, 114] := ⟨by decide, rfl, by decide, by decide, by decide⟩
set_option maxRecDepth 16384 in
theorem str_7 : strW 7 [114, 109] := ⟨by decide, rfl, by decide, by decide, by decide⟩
set_option maxRecDepth 16384 in
theorem str_8 : strW 8 [112, 117, 116] := ⟨by decide, rfl, by decide, by decide, by decide⟩
set_option maxRecDepth 16384 in
theorem str_9 : strW 9 [97, 100, 100] := ⟨by decide, rfl, by decide, by decide, by decide⟩
set_option maxRecDepth 16384 in
theorem str_10 : strW 10 [109, 111, 118, 101] := ⟨by decide, rfl, by decide, by decide, by decide⟩
set_option maxRecDepth 16384 in
theorem str_11 : strW 11 [106, 111, 105, 110] := ⟨by decide, rfl, by decide, by decide, by decide⟩
set_option maxRecDepth 16384 in
theorem pk_from : pkd 32 [70, 82, 79, 77] 441926 := ⟨by decide, by decide, by decide, by decide, ⟨by decide, by decide, by decide, by decide, ⟨by decide, by decide, by decide, by decide, ⟨by decide, by decide, by decide, by decide, rfl⟩⟩⟩⟩
set_option maxRecDepth 16384 in
theorem pk_empty : pkd 0 [101, 109, 112, 116, 121] 26886565 := ⟨by decide, by decide, by decide, by decide, ⟨by decide, by decide, by decide, by decide, ⟨by decide, by decide, by decide, by decide, ⟨by decide, by decide, by decide, by decide, ⟨by decide, by decide, by decide, by decide, rfl⟩⟩⟩⟩⟩
set_option maxRecDepth 16384 in
theorem pk_env : pkd 32 [69, 78, 86] 22981 := ⟨by decide, by decide, by decide, by decide, ⟨by decide, by decide, by decide, by decide, ⟨by decide, by decide, by decide, by decide, rfl⟩⟩⟩
set_option maxRecDepth 16384 in
theorem pk_copy : pkd 32 [67, 79, 80, 89] 836067 := ⟨by decide, by decide, by decide, by decide, ⟨by decide, by decide, by decide, by decide, ⟨by decide, by decide, by decide, by decide, ⟨by decide, by decide, by decide, by decide, rfl⟩⟩⟩⟩
set_option maxRecDepth 16384 in
theorem pk_run : pkd 32 [82, 85, 78] 15026 := ⟨by decide, by decide, by decide, by decide, ⟨by decide, by decide, by decide, by decide, ⟨by decide, by decide, by decide, by decide, rfl⟩⟩⟩
set_option maxRecDepth 16384 in
theorem pk_mkdir : pkd 0 [109, 107, 100, 105, 114] 19173741 := ⟨by decide, by decide, by decide, by decide, ⟨by decide, by decide, by decide, by decide, ⟨by decide, by decide, by decide, by decide, ⟨by decide, by decide, by decide, by decide, ⟨by decide, by decide, by decide, by decide, rfl⟩⟩⟩⟩⟩
set_option maxRecDepth 16384 in
theorem pk_rm : pkd 0 [114, 109] 434 := ⟨by decide, by decide, by decide, by decide, ⟨by decide, by decide, by decide, by decide, rfl⟩⟩
set_option maxRecDepth 16384 in
theorem pk_put : pkd 0 [112, 117, 116] 21168 := ⟨by decide, by decide, by decide, by decide, ⟨by decide, by decide, by decide, by decide, ⟨by decide, by decide, by decide, by decide, rfl⟩⟩⟩
set_option maxRecDepth 16384 in
theorem pk_add : pkd 0 [97, 100, 100] 4225 := ⟨by decide, by decide, by decide, by decide, ⟨by decide, by decide, by decide, by decide, ⟨by decide, by decide, by decide, by decide, rfl⟩⟩⟩
set_option maxRecDepth 16384 in
theorem pk_move : pkd 0 [109, 111, 118, 101] 186861 := ⟨by decide, by decide, by decide, by decide, ⟨by decide, by decide, by decide, by decide, ⟨by decide, by decide, by decide, by decide, ⟨by decide, by decide, by decide, by decide, rfl⟩⟩⟩⟩
set_option maxRecDepth 16384 in
theorem pk_join : pkd 0 [106, 111, 105, 110] 468458 := ⟨by decide, by decide, by decide, by decide, ⟨by decide, by decide, by decide, by decide, ⟨by decide, by decide, by decide, by decide, ⟨by decide, by decide, by decide, by decide, rfl⟩⟩⟩⟩
