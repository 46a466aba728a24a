/-! KEYS -/
set_option maxRecDepth 16384 in
theorem c_findKey_l {sx : Nat × (Nat → Int32)} {h : px_H} {Y B : Nat} {a b : Int32} {d : Int64} {f : Nat → Int64} {Q : px_O → px_H → Prop} (hB : B ≤ 60) (hY : h.2[Y]? = some (.inl (7, yrdF Y a b (nI B)))) (hD : h.2[Y + 7]? = some (.inr (2, 60, .inr (.inl f))))
    (hQ : ∀ v, fstM (fun j => f j = d) B v → Q (.inl (some (.int v))) h) :
    ∀ m k, k + m = B → (∀ i, i < k → ¬ f i = d) → px_Wp sx 91 2 [some (.ref Y), some (.long d), none, some (.int (nI k))] [] h Q := by
  unfold yrdF at hY
  intro m
  induction m with
  | zero =>
    intro k hk hn
    have hk : k = B := by omega
    subst hk
    simp only [pc91_2, pc91_3, pc91_3n, pc91_4, pc91_7, pc91_29, pc91_30, px_gf, hY, if_true, List.getElem?_cons_zero, List.getElem?_cons_succ, px_op_some, px_kv_ap, px_ki_ap, px_kl_ap, px_kn_ap, px_kh_ap, if_pos (Int32.le_refl (nI k))]
    exact hQ (-1) (.inl ⟨rfl, hn⟩)
  | succ m ih =>
    intro k hk hn
    have hge : ¬ nI B ≤ nI k := nI_ge (by omega) (by omega)
    have hin : px_in (nI k) 60 = true := px_inb (by omega) (by decide)
    have hcl : (nI k).toNatClampNeg = k := nI_clamp (by omega)
    rw [pc91_2]
    by_cases e : f k = d
    · simp only [pc91_3, pc91_3n, pc91_4, pc91_7, pc91_10, pc91_10n, pc91_11, pc91_14, pc91_15, pc91_16, pc91_17, pc91_18, pc91_21, pc91_22, pc91_23, pc91_26, pc91_29, pc91_30, px_gf, px_aj, hY, hD, if_true, List.getElem?_cons_zero, List.getElem?_cons_succ, px_op_some, px_kv_ap, px_ki_ap, px_kl_ap, px_kn_ap, px_kh_ap, if_neg hge, hin, hcl, and_self, lgc_0, e, not_true_eq_false, if_false]
      exact hQ (nI k) (.inr ⟨k, by omega, rfl, e, hn⟩)
    · simp only [pc91_3, pc91_3n, pc91_4, pc91_7, pc91_10, pc91_10n, pc91_11, pc91_14, pc91_15, pc91_16, pc91_17, pc91_18, pc91_21, pc91_22, pc91_23, pc91_26, pc91_29, pc91_30, px_gf, px_aj, hY, hD, if_true, List.getElem?_cons_zero, List.getElem?_cons_succ, px_op_some, px_kv_ap, px_ki_ap, px_kl_ap, px_kn_ap, px_kh_ap, if_neg hge, hin, hcl, and_self, lgc_0, e, not_false_eq_true, px_kill, nI_1]
      exact ih (k + 1) (by omega) (fun i hi => by
        by_cases q : i = k
        · rw [q]; exact e
        · exact hn i (by omega))
set_option maxRecDepth 16384 in
theorem c_findKey {sx : Nat × (Nat → Int32)} {h : px_H} {Y B : Nat} {a b : Int32} {d : Int64} {f : Nat → Int64} {Q : px_O → px_H → Prop} (hB : B ≤ 60) (hY : h.2[Y]? = some (.inl (7, yrdF Y a b (nI B)))) (hD : h.2[Y + 7]? = some (.inr (2, 60, .inr (.inl f))))
    (hQ : ∀ v, fstM (fun j => f j = d) B v → Q (.inl (some (.int v))) h) : px_Wp sx 91 0 [some (.ref Y), some (.long d), none, none] [] h Q := by
  simp only [pc91_0, pc91_1, px_kill]
  exact c_findKey_l hB hY hD hQ B 0 (by omega) (fun i hi => absurd hi (by omega))
set_option maxRecDepth 16384 in
theorem m_findKey_l {sx : Nat × (Nat → Int32)} {h : px_H} {q B : Nat} {d : Int64} {v : Nat → Int32} {fb : Nat → Int32} {f : Nat → Int64} {Q : px_O → px_H → Prop} (hq : q < 2) (hB : B ≤ 60) (hb : fb q = nI B) (h619 : h.2[619]? = some (.inl (11, modF v))) (h629 : h.2[629]? = some (.inr (1, 2, .inl fb))) (h630 : h.2[630]? = some (.inr (2, 120, .inr (.inl f))))
    (hQ : ∀ v, lstM (fun j => f (60 * q + j) = d) B v → Q (.inl (some (.int v))) h) :
    ∀ m k, k + m = B → ∀ z, lstM (fun j => f (60 * q + j) = d) k z → px_Wp sx 173 6 [some (.ref 619), some (.int (nI q)), some (.long d), none, some (.int z), some (.int (nI k))] [] h Q := by
  have iq : px_in (nI q) 2 = true := px_inb hq (by decide)
  have cq : (nI q).toNatClampNeg = q := nI_clamp (by omega)
  have m60 : 60 * nI q = nI (60 * q) := by
    match q, hq with
    | 0, _ => rfl
    | 1, _ => rfl
  intro m
  induction m with
  | zero =>
    intro k hk z hz
    have hk : k = B := by omega
    subst hk
    simp only [pc173_6, pc173_8, pc173_8n, pc173_9, pc173_12, pc173_13, pc173_14, pc173_49, pc173_51, px_gf, px_ai, h619, h629, mf_11, if_true, px_op_some, px_kv_ap, px_ki_ap, px_kl_ap, px_kn_ap, px_kh_ap, tg_i1, iq, cq, hb, and_self, if_pos (Int32.le_refl (nI k))]
    exact hQ z hz
  | succ m ih =>
    intro k hk z hz
    have hge : ¬ nI B ≤ nI k := nI_ge (by omega) (by omega)
    have hin : px_in (nI (60 * q + k)) 120 = true := px_inb (by omega) (by decide)
    have hcl : (nI (60 * q + k)).toNatClampNeg = 60 * q + k := nI_clamp (by omega)
    rw [pc173_6]
    by_cases e : f (60 * q + k) = d
    · simp only [pc173_8, pc173_8n, pc173_9, pc173_12, pc173_13, pc173_14, pc173_17, pc173_17n, pc173_18, pc173_21, pc173_23, pc173_24, pc173_25, pc173_27, pc173_28, pc173_29, pc173_30, pc173_31, pc173_34, pc173_36, pc173_39, pc173_41, pc173_43, pc173_46, pc173_49, pc173_51, px_gf, px_ai, px_aj, h619, h629, h630, mf_11, mf_12, if_true, px_op_some, px_kv_ap, px_ki_ap, px_kl_ap, px_kn_ap, px_kh_ap, tg_i1, iq, cq, hb, and_self, if_neg hge, m60, nI_add, hin, hcl, lgc_0, e, not_true_eq_false, if_false, px_kill, nI_1]
      exact ih (k + 1) (by omega) (nI k) (.inr ⟨k, by omega, rfl, e, fun i h1 h2 => absurd h1 (by omega)⟩)
    · simp only [pc173_8, pc173_8n, pc173_9, pc173_12, pc173_13, pc173_14, pc173_17, pc173_17n, pc173_18, pc173_21, pc173_23, pc173_24, pc173_25, pc173_27, pc173_28, pc173_29, pc173_30, pc173_31, pc173_34, pc173_36, pc173_39, pc173_41, pc173_43, pc173_46, pc173_49, pc173_51, px_gf, px_ai, px_aj, h619, h629, h630, mf_11, mf_12, if_true, px_op_some, px_kv_ap, px_ki_ap, px_kl_ap, px_kn_ap, px_kh_ap, tg_i1, iq, cq, hb, and_self, if_neg hge, m60, nI_add, hin, hcl, lgc_0, e, not_false_eq_true, if_false, px_kill, nI_1]
      refine ih (k + 1) (by omega) z ?_
      rcases hz with ⟨z1, hz⟩ | ⟨j, hj, z1, hp, hz⟩
      · exact .inl ⟨z1, fun j hj => by
          by_cases w : j = k
          · rw [w]; exact e
          · exact hz j (by omega)⟩
      · exact .inr ⟨j, by omega, z1, hp, fun i h1 h2 => by
          by_cases w : i = k
          · rw [w]; exact e
          · exact hz i h1 (by omega)⟩
set_option maxRecDepth 16384 in
theorem m_findKey {sx : Nat × (Nat → Int32)} {h : px_H} {q B : Nat} {d : Int64} {v : Nat → Int32} {fb : Nat → Int32} {f : Nat → Int64} {Q : px_O → px_H → Prop} (hq : q < 2) (hB : B ≤ 60) (hb : fb q = nI B) (h619 : h.2[619]? = some (.inl (11, modF v))) (h629 : h.2[629]? = some (.inr (1, 2, .inl fb))) (h630 : h.2[630]? = some (.inr (2, 120, .inr (.inl f))))
    (hQ : ∀ v, lstM (fun j => f (60 * q + j) = d) B v → Q (.inl (some (.int v))) h) : px_Wp sx 173 0 [some (.ref 619), some (.int (nI q)), some (.long d), none, none, none] [] h Q := by
  simp only [pc173_0, pc173_1, pc173_3, pc173_4, px_kill]
  exact m_findKey_l hq hB hb h619 h629 h630 hQ B 0 (by omega) (-1) (.inl ⟨rfl, fun j hj => absurd hj (by omega)⟩)
set_option maxRecDepth 16384 in
theorem mul_60 {q : Nat} (hq : q < 2) : 60 * nI q = nI (60 * q) := by
  match q, hq with
  | 0, _ => rfl
  | 1, _ => rfl
/-- the bytes of a key's record -/
def keyB (x v : Int64) (k : Nat) : Int32 := if k < 8 then lb x (nI (8 * k)) &&& 255 else lb v (nI (8 * (k - 8))) &&& 255
set_option maxRecDepth 16384 in
theorem keyB_0 {x v : Int64} {k : Nat} (h : k < 8) : keyB x v k = lb x (nI (8 * k)) &&& 255 := if_pos h
set_option maxRecDepth 16384 in
theorem keyB_1 {x v : Int64} {k : Nat} : keyB x v (8 + k) = lb v (nI (8 * k)) &&& 255 := by
  unfold keyB; rw [if_neg (by omega), Nat.add_sub_cancel_left]
/-- the heap with other keys in the yard at Y -/
def keyH (h : px_H) (Y : Nat) (x y : Int32) (K : Nat) (ky kl : Nat → Int64) : px_H := px_wr (px_wr (px_wr h (Y + 7) (.inr (2, 60, .inr (.inl ky)))) (Y + 8) (.inr (2, 60, .inr (.inl kl)))) Y (.inl (7, yrdF Y x y (nI K)))
section KEYS
variable {sx : Nat × (Nat → Int32)} {h : px_H} {Y R K : Nat} {x y : Int32} {f : Nat → Int32} {ky kl : Nat → Int64} {a v : Int64} {Q : px_O → px_H → Prop}
set_option maxRecDepth 16384 in
theorem c_learnKey (hY : h.2[Y]? = some (.inl (7, yrdF Y x y (nI K)))) (h7 : h.2[Y + 7]? = some (.inr (2, 60, .inr (.inl ky)))) (h8 : h.2[Y + 8]? = some (.inr (2, 60, .inr (.inl kl)))) (hK : K ≤ 60)
    (hQ1 : ∀ k, k < K → ky k = a → (∀ i, i < k → ¬ ky i = a) → Q (.inl none) (px_wr h (Y + 8) (.inr (2, 60, .inr (.inl (px_up kl k v)))))) (hQ2 : (∀ k, k < K → ¬ ky k = a) → K < 60 → Q (.inl none) (keyH h Y x y (K + 1) (px_up ky K a) (px_up kl K v))) (hQ3 : (∀ k, k < K → ¬ ky k = a) → K = 60 → Q (.inl none) h) :
    px_Wp sx 98 0 [some (.ref Y), some (.long a), none, some (.long v), none, none] [] h Q := by
  have hcY : px_cls h Y = some 7 := by unfold px_cls; rw [hY]
  have hY1 := hY
  unfold yrdF at hY1
  simp only [pc98_0, pc98_0n, pc98_1, pc98_2, hcY, true_and]
  refine c_findKey hK hY h7 (fun z hz => ?_)
  rcases hz with ⟨rfl, hno⟩ | ⟨k, hk, rfl, hp, hn⟩
  · by_cases k6 : K < 60
    · have hge : ¬ (60 : Int32) ≤ nI K := nI_ge (b := 60) (by omega) (by decide)
      have iK : px_in (nI K) 60 = true := px_inb k6 (by decide)
      have cK : (nI K).toNatClampNeg = K := nI_clamp (by omega)
      have e1 : (Y + 7 = Y) = False := eq_false (by omega)
      have e2 : (Y + 8 = Y) = False := eq_false (by omega)
      have e3 : (Y + 7 = Y + 8) = False := eq_false (by omega)
      simp only [px_K_some, pc98_5, pc98_7, pc98_9, pc98_10, pc98_24, pc98_24n, pc98_25, pc98_28, pc98_30, pc98_33, pc98_33n, pc98_34, pc98_37, pc98_37n, pc98_38, pc98_41, pc98_42, pc98_43, pc98_43n, pc98_44, pc98_47, pc98_47n, pc98_48, pc98_51, pc98_52, pc98_53, pc98_53n, pc98_54, pc98_54r, pc98_55, pc98_58, pc98_59, pc98_60, pc98_63, px_op_some, px_kv_ap, px_ki_ap, px_kl_ap, px_kn_ap, px_kh_ap, px_op_none, px_K_some, px_K_none, px_K_thr, px_kill, ↓reduceIte, if_true, if_false, true_and, and_true, px_gf, px_pf, px_ai, px_aj, px_aa, px_wi, px_wj, px_wa, px_an, px_cls, px_kill, hY1, h7, h8, List.getElem?_cons_zero, List.getElem?_cons_succ, if_neg hge, iK, cK, and_self, wr_at, e1, e2, e3, px_fit, List.length_cons, List.length_nil, Nat.reduceAdd, Nat.reduceLT, List.set_cons_succ, List.set_cons_zero, nI_1]
      exact hQ2 hno k6
    · have hge : (60 : Int32) ≤ nI K := nI_le (a := 60) (by omega) (by omega)
      simp only [px_K_some, pc98_5, pc98_7, pc98_9, pc98_10, pc98_24, pc98_24n, pc98_25, pc98_28, pc98_30, pc98_63, px_op_some, px_kv_ap, px_ki_ap, px_kl_ap, px_kn_ap, px_kh_ap, px_op_none, px_K_some, px_K_none, px_K_thr, px_kill, ↓reduceIte, if_true, if_false, true_and, and_true, px_gf, px_pf, px_ai, px_aj, px_aa, px_wi, px_wj, px_wa, px_an, px_cls, px_kill, hY1, List.getElem?_cons_zero, List.getElem?_cons_succ, if_pos hge]
      exact hQ3 hno (by omega)
  · have ik : px_in (nI k) 60 = true := px_inb (by omega) (by decide)
    have ck : (nI k).toNatClampNeg = k := nI_clamp (by omega)
    simp only [px_K_some, pc98_5, pc98_7, pc98_9, pc98_10, pc98_13, pc98_13n, pc98_14, pc98_17, pc98_19, pc98_20, pc98_21, pc98_63, px_op_some, px_kv_ap, px_ki_ap, px_kl_ap, px_kn_ap, px_kh_ap, px_op_none, px_K_some, px_K_none, px_K_thr, px_kill, ↓reduceIte, if_true, if_false, true_and, and_true, px_gf, px_pf, px_ai, px_aj, px_aa, px_wi, px_wj, px_wa, px_an, px_cls, px_kill, nI_nm1 (k := k) (by omega), hY1, h8, List.getElem?_cons_zero, List.getElem?_cons_succ, ik, ck, and_self]
    exact hQ1 k hk hp hn
set_option maxRecDepth 16384 in
theorem c_remember (w : rowAt h (Y + 1) 40000 R f) (hY : h.2[Y]? = some (.inl (7, yrdF Y x y (nI K)))) (h7 : h.2[Y + 7]? = some (.inr (2, 60, .inr (.inl ky)))) (h8 : h.2[Y + 8]? = some (.inr (2, 60, .inr (.inl kl)))) (hK : K ≤ 60)
    (hQS : ∀ k, k < K → ky k = a → (∀ i, i < k → ¬ ky i = a) → kl k = v → Q (.inl (some (.int 1))) h)
    (hQ0 : (((∀ k, k < K → ¬ ky k = a) ∧ K = 60) ∨ (40000 < R + 22 ∧ ((∀ k, k < K → ¬ ky k = a) ∨ ∃ k, k < K ∧ ky k = a ∧ (∀ i, i < k → ¬ ky i = a) ∧ ¬ kl k = v))) → Q (.inl (some (.int 0))) h)
    (hQ1 : R + 22 ≤ 40000 → ∀ f', wrote f f' R (recB 4 16 (keyB a v)) 22 → (∀ k, k < K → ky k = a → (∀ i, i < k → ¬ ky i = a) → ¬ kl k = v → Q (.inl (some (.int 1))) (px_wr (rowH h (Y + 1) 40000 (R + 22) f') (Y + 8) (.inr (2, 60, .inr (.inl (px_up kl k v)))))) ∧ ((∀ k, k < K → ¬ ky k = a) → K < 60 → Q (.inl (some (.int 1))) (keyH (rowH h (Y + 1) 40000 (R + 22) f') Y x y (K + 1) (px_up ky K a) (px_up kl K v)))) :
    px_Wp sx 97 0 [some (.ref Y), some (.long a), none, some (.long v), none, none, none] [] h Q := by
  have hl : Y + 2 < h.2.length := rowAt_lt w
  have hcY : px_cls h Y = some 7 := by unfold px_cls; rw [hY]
  have hY1 := hY
  have w1 := w.1
  unfold yrdF at hY1
  have main : ∀ z : Int32, ((∀ k, k < K → ¬ ky k = a) ∧ K < 60 ∨ ∃ k, k < K ∧ ky k = a ∧ (∀ i, i < k → ¬ ky i = a) ∧ ¬ kl k = v) → px_Wp sx 97 51 [some (.ref Y), some (.long a), none, some (.long v), none, some (.int z), some (.int (nI R))] [] h Q := by
    intro z hcase
    simp only [pc97_51, pc97_51n, pc97_52, pc97_53, pc97_55, hcY, true_and]
    refine c_open' (kd := 4) (m := 16) (g := recB 4 16 (keyB a v)) w hY (by decide) (by decide) rfl rfl rfl rfl rfl (fun q => ?_) (fun q f1 u1 => ?_)
    · simp only [px_K_some, pc97_58, pc97_61, pc97_62, not_true_eq_false, if_false, nar_0]
      exact hQ0 (.inr ⟨q, hcase.elim (fun y => .inl y.1) (fun y => .inr y)⟩)
    · have q' := hQ1 q
      have hY' : ∀ n f, (rowH h (Y + 1) 40000 n f).2[Y]? = some (.inl (7, yrdF Y x y (nI K))) := fun n f => by rw [rowH_at (by omega) (by omega)]; exact hY
      have hY2 := hY'
      unfold yrdF at hY2
      have hcR : ∀ n f, px_cls (rowH h (Y + 1) 40000 n f) (Y + 1) = some 1 := fun n f => by unfold px_cls; rw [rowH_r hl]
      have hcY' : ∀ n f, px_cls (rowH h (Y + 1) 40000 n f) Y = some 7 := fun n f => by unfold px_cls; rw [hY']
      simp only [px_K_some, pc97_58, pc97_61, pc97_62, pc97_63, pc97_63n, pc97_64, pc97_67, pc97_68, ne_1_0, not_false_eq_true, if_true, px_gf, hY2, List.getElem?_cons_zero, px_op_some, px_kv_ap, px_ki_ap, px_kl_ap, px_kn_ap, px_kh_ap, hcR, true_and]
      refine c_addLong hl (by omega) (by omega) u1 (fun k hk => ?_) (fun f2 u2 => ?_)
      · rw [rec_d (by omega), keyB_0 hk]
      simp only [px_K_none, pc97_71, pc97_71n, pc97_72, pc97_75, pc97_76, if_true, px_gf, hY2, List.getElem?_cons_zero, px_op_some, px_kv_ap, px_ki_ap, px_kl_ap, px_kn_ap, px_kh_ap, hcR, true_and]
      refine c_addLong hl (by omega) (by omega) u2 (fun k hk => ?_) (fun f3 u3 => ?_)
      · rw [show 5 + 8 + k = 5 + (8 + k) by omega, rec_d (by omega), keyB_1]
      simp only [px_K_none, pc97_79, pc97_79n, pc97_80, pc97_82, hcY', true_and]
      refine c_close hl hY u3 (by omega) rec_last (fun f4 u4 => ?_)
      simp only [px_K_none, pc97_85, pc97_85n, pc97_86, pc97_87, pc97_88, hcY', true_and]
      have q'' := q' f4 u4
      refine c_learnKey (hY' _ _) (by rw [rowH_at (by omega) (by omega)]; exact h7) (by rw [rowH_at (by omega) (by omega)]; exact h8) hK (fun k hk e hn => ?_) (fun hn k6 => ?_) (fun hn k6 => ?_)
      · simp only [px_K_none, pc97_91, pc97_92, nar_1]
        refine q''.1 k hk e hn ?_
        rcases hcase with ⟨hno, -⟩ | ⟨k2, hk2, e2, hn2, hv⟩
        · exact absurd e (hno k hk)
        · have : k2 = k := by
            rcases Nat.lt_trichotomy k2 k with z | z | z
            · exact absurd e2 (hn k2 z)
            · exact z
            · exact absurd e (hn2 k z)
          rw [← this]; exact hv
      · simp only [px_K_none, pc97_91, pc97_92, nar_1]
        exact q''.2 hn k6
      · rcases hcase with ⟨-, k7⟩ | ⟨k2, hk2, e2, -⟩
        · exact absurd k6 (by omega)
        · exact absurd e2 (hn k2 hk2)
  simp only [pc97_0, pc97_0n, pc97_1, pc97_2, hcY, true_and]
  refine c_findKey hK hY h7 (fun z hz => ?_)
  rcases hz with ⟨rfl, hno⟩ | ⟨k, hk, rfl, hp, hn⟩
  · by_cases k6 : K < 60
    · have hge : ¬ (60 : Int32) ≤ nI K := nI_ge (b := 60) (by omega) (by decide)
      simp only [px_K_some, pc97_5, pc97_7, pc97_9, pc97_10, pc97_27, pc97_27n, pc97_28, pc97_31, pc97_34, pc97_36, pc97_38, pc97_39, pc97_42, pc97_42n, pc97_43, pc97_46, pc97_48, px_kill, if_true, px_gf, hY1, w1, List.getElem?_cons_zero, List.getElem?_cons_succ, px_op_some, px_kv_ap, px_ki_ap, px_kl_ap, px_kn_ap, px_kh_ap, not_true_eq_false, if_false, if_neg hge]
      exact main _ (.inl ⟨hno, k6⟩)
    · have hge : (60 : Int32) ≤ nI K := nI_le (a := 60) (by omega) (by omega)
      simp only [px_K_some, pc97_5, pc97_7, pc97_9, pc97_10, pc97_27, pc97_27n, pc97_28, pc97_31, pc97_34, pc97_36, pc97_38, pc97_39, pc97_42, pc97_42n, pc97_43, pc97_46, pc97_48, pc97_61, pc97_62, px_kill, if_true, px_gf, hY1, w1, List.getElem?_cons_zero, List.getElem?_cons_succ, px_op_some, px_kv_ap, px_ki_ap, px_kl_ap, px_kn_ap, px_kh_ap, not_true_eq_false, if_false, if_pos hge, nar_0]
      exact hQ0 (.inl ⟨hno, by omega⟩)
  · have ik : px_in (nI k) 60 = true := px_inb (by omega) (by decide)
    have ck : (nI k).toNatClampNeg = k := nI_clamp (by omega)
    have nm := nI_nm1 (k := k) (by omega)
    by_cases e : kl k = v
    · simp only [px_K_some, pc97_5, pc97_7, pc97_9, pc97_10, pc97_13, pc97_13n, pc97_14, pc97_17, pc97_19, pc97_20, pc97_21, pc97_22, pc97_25, pc97_26, px_op_some, px_kv_ap, px_ki_ap, px_kl_ap, px_kn_ap, px_kh_ap, px_op_none, px_K_some, px_K_none, px_K_thr, px_kill, ↓reduceIte, if_true, if_false, true_and, and_true, px_gf, px_pf, px_ai, px_aj, px_aa, px_wi, px_wj, px_wa, px_an, px_cls, px_kill, nm, hY1, h8, List.getElem?_cons_zero, List.getElem?_cons_succ, ik, ck, and_self, lgc_0, e, not_true_eq_false, nar_1]
      exact hQS k hk hp hn e
    · simp only [px_K_some, pc97_5, pc97_7, pc97_9, pc97_10, pc97_13, pc97_13n, pc97_14, pc97_17, pc97_19, pc97_20, pc97_21, pc97_22, pc97_25, pc97_26, pc97_27, pc97_27n, pc97_28, pc97_31, pc97_34, pc97_36, pc97_38, pc97_39, px_op_some, px_kv_ap, px_ki_ap, px_kl_ap, px_kn_ap, px_kh_ap, px_op_none, px_K_some, px_K_none, px_K_thr, px_kill, ↓reduceIte, if_true, if_false, true_and, and_true, px_gf, px_pf, px_ai, px_aj, px_aa, px_wi, px_wj, px_wa, px_an, px_cls, px_kill, nm, hY1, w1, h8, List.getElem?_cons_zero, List.getElem?_cons_succ, ik, ck, and_self, lgc_0, e, not_false_eq_true]
      exact main _ (.inr ⟨k, hk, hp, hn, e⟩)
end KEYS
section MKEYS
variable {sx : Nat × (Nat → Int32)} {h : px_H} {q K : Nat} {V kk : Nat → Int32} {ky kl : Nat → Int64} {a v : Int64} {Q : px_O → px_H → Prop}
set_option maxRecDepth 16384 in
theorem m_putKey (hq : q < 2) (h6 : h.2[619]? = some (.inl (11, modF V))) (h29 : h.2[629]? = some (.inr (1, 2, .inl kk))) (h30 : h.2[630]? = some (.inr (2, 120, .inr (.inl ky)))) (h31 : h.2[631]? = some (.inr (2, 120, .inr (.inl kl)))) (hK : K ≤ 60) (hk : kk q = nI K)
    (hQ1 : ∀ k, k < K → ky (60 * q + k) = a → (∀ i, k < i → i < K → ¬ ky (60 * q + i) = a) → Q (.inl none) (px_wr (px_wr h 630 (.inr (2, 120, .inr (.inl (px_up ky (60 * q + k) a))))) 631 (.inr (2, 120, .inr (.inl (px_up kl (60 * q + k) v))))))
    (hQ2 : (∀ k, k < K → ¬ ky (60 * q + k) = a) → K < 60 → Q (.inl none) (px_wr (px_wr (px_wr h 629 (.inr (1, 2, .inl (px_up kk q (nI (K + 1)))))) 630 (.inr (2, 120, .inr (.inl (px_up ky (60 * q + K) a))))) 631 (.inr (2, 120, .inr (.inl (px_up kl (60 * q + K) v))))))
    (hlt : (∀ k, k < K → ¬ ky (60 * q + k) = a) → K < 60) :
    px_Wp sx 223 0 [some (.ref 619), some (.int (nI q)), some (.long a), none, some (.long v), none, none] [] h Q := by
  have iq : px_in (nI q) 2 = true := px_inb hq (by decide)
  have cq : (nI q).toNatClampNeg = q := nI_clamp (by omega)
  have hc6 : px_cls h 619 = some 11 := by unfold px_cls; rw [h6]
  have n1 : ∀ x : Int32, px_nar 1 x = x := fun _ => rfl
  simp only [pc223_0, pc223_0n, pc223_1, pc223_2, pc223_3, hc6, true_and]
  refine m_findKey hq hK hk h6 h29 h30 (fun z hz => ?_)
  rcases hz with ⟨rfl, hno⟩ | ⟨k, hk', rfl, hp, hn⟩
  · have k6 := hlt hno
    have iK : px_in (nI (60 * q + K)) 120 = true := px_inb (by omega) (by decide)
    have cK : (nI (60 * q + K)).toNatClampNeg = 60 * q + K := nI_clamp (by omega)
    have m1 : ((0 : Int32) ≤ -1) = False := by decide
    simp only [px_K_some, pc223_6, pc223_8, pc223_10, pc223_13, pc223_13n, pc223_14, pc223_17, pc223_18, pc223_19, pc223_21, pc223_21n, pc223_22, pc223_25, pc223_26, pc223_27, pc223_28, pc223_29, pc223_30, pc223_31, pc223_31n, pc223_32, pc223_35, pc223_37, pc223_38, pc223_39, pc223_41, pc223_42, pc223_43, pc223_44, pc223_44n, pc223_45, pc223_48, pc223_50, pc223_51, pc223_52, pc223_54, pc223_55, pc223_57, pc223_58, px_op_some, px_kv_ap, px_ki_ap, px_kl_ap, px_kn_ap, px_kh_ap, px_op_none, px_K_some, px_K_none, px_K_thr, px_kill, ↓reduceIte, if_true, if_false, true_and, and_true, px_gf, px_pf, px_ai, px_aj, px_aa, px_wi, px_wj, px_wa, px_an, px_cls, px_kill, m1, tg_i1, h6, h29, h30, h31, mf_11, mf_12, mf_13, iq, cq, hk, and_self, n1, wr_at, Nat.reduceEqDiff, mul_60 hq, nI_add, iK, cK, nI_1]
    exact hQ2 hno k6
  · have ik : px_in (nI (60 * q + k)) 120 = true := px_inb (by omega) (by decide)
    have ck : (nI (60 * q + k)).toNatClampNeg = 60 * q + k := nI_clamp (by omega)
    have k0 : (0 : Int32) ≤ nI k := nI_le (a := 0) (by omega) (by omega)
    simp only [px_K_some, pc223_6, pc223_8, pc223_10, pc223_31, pc223_31n, pc223_32, pc223_35, pc223_37, pc223_38, pc223_39, pc223_41, pc223_42, pc223_43, pc223_44, pc223_44n, pc223_45, pc223_48, pc223_50, pc223_51, pc223_52, pc223_54, pc223_55, pc223_57, pc223_58, px_op_some, px_kv_ap, px_ki_ap, px_kl_ap, px_kn_ap, px_kh_ap, px_op_none, px_K_some, px_K_none, px_K_thr, px_kill, ↓reduceIte, if_true, if_false, true_and, and_true, px_gf, px_pf, px_ai, px_aj, px_aa, px_wi, px_wj, px_wa, px_an, px_cls, px_kill, if_pos k0, h6, h30, h31, mf_12, mf_13, and_self, wr_at, Nat.reduceEqDiff, mul_60 hq, nI_add, ik, ck]
    exact hQ1 k hk' hp hn
set_option maxRecDepth 16384 in
theorem m_cache {w : Nat} {J W row : Nat → Int32} (hl : 668 < h.2.length) (hq : q < 2) (h6 : h.2[619]? = some (.inl (11, modF V))) (hr : h.2[636]? = some (.inr (1, 40100, .inl row))) (hJ : h.2[632]? = some (.inr (1, 80000, .inl J))) (hW : h.2[633]? = some (.inr (1, 2, .inl W))) (h29 : h.2[629]? = some (.inr (1, 2, .inl kk))) (h30 : h.2[630]? = some (.inr (2, 120, .inr (.inl ky)))) (h31 : h.2[631]? = some (.inr (2, 120, .inr (.inl kl)))) (hK : K ≤ 60) (hk : kk q = nI K) (hw : W q = nI w) (hw4 : w ≤ 40000)
    (hQS : ∀ k, k < K → ky (60 * q + k) = a → (∀ i, k < i → i < K → ¬ ky (60 * q + i) = a) → kl (60 * q + k) = v → Q (.inl (some (.int 1))) h)
    (hQ0 : (((∀ k, k < K → ¬ ky (60 * q + k) = a) ∧ K = 60) ∨ (40000 < w + 22 ∧ ((∀ k, k < K → ¬ ky (60 * q + k) = a) ∨ ∃ k, k < K ∧ ky (60 * q + k) = a ∧ (∀ i, k < i → i < K → ¬ ky (60 * q + i) = a) ∧ ¬ kl (60 * q + k) = v))) → Q (.inl (some (.int 0))) h)
    (hQ1 : w + 22 ≤ 40000 → ∀ row' J', wroteM J J' (40000 * q + w) (recB 4 16 (keyB a v)) 22 →
      (∀ k, k < K → ky (60 * q + k) = a → (∀ i, k < i → i < K → ¬ ky (60 * q + i) = a) → ¬ kl (60 * q + k) = v → Q (.inl (some (.int 1))) (px_wr (px_wr (jouH (outH h (px_up V 17 (nI 16)) row') J' (px_up W q (nI (w + 22)))) 630 (.inr (2, 120, .inr (.inl (px_up ky (60 * q + k) a))))) 631 (.inr (2, 120, .inr (.inl (px_up kl (60 * q + k) v)))))) ∧
      ((∀ k, k < K → ¬ ky (60 * q + k) = a) → K < 60 → Q (.inl (some (.int 1))) (px_wr (px_wr (px_wr (jouH (outH h (px_up V 17 (nI 16)) row') J' (px_up W q (nI (w + 22)))) 629 (.inr (1, 2, .inl (px_up kk q (nI (K + 1)))))) 630 (.inr (2, 120, .inr (.inl (px_up ky (60 * q + K) a))))) 631 (.inr (2, 120, .inr (.inl (px_up kl (60 * q + K) v))))))) :
    px_Wp sx 222 0 [some (.ref 619), some (.int (nI q)), some (.long a), none, some (.long v), none, none] [] h Q := by
  have iq : px_in (nI q) 2 = true := px_inb hq (by decide)
  have cq : (nI q).toNatClampNeg = q := nI_clamp (by omega)
  have hc6 : px_cls h 619 = some 11 := by unfold px_cls; rw [h6]
  have main : ∀ z : Int32, ((∀ k, k < K → ¬ ky (60 * q + k) = a) ∧ K < 60 ∨ ∃ k, k < K ∧ ky (60 * q + k) = a ∧ (∀ i, k < i → i < K → ¬ ky (60 * q + i) = a) ∧ ¬ kl (60 * q + k) = v) → px_Wp sx 222 49 [some (.ref 619), some (.int (nI q)), some (.long a), none, some (.long v), none, some (.int z)] [] h Q := by
    intro z hcase
    simp only [pc222_49, pc222_49n, pc222_50, pc222_51, pc222_53, hc6, true_and]
    refine m_hasRoom (m := 16) h6 hW hq hw hw4 (by decide) (fun g => ?_) (fun g => ?_)
    · have e0 : px_wr h 619 (.inl (11, modF (px_up V 17 0))) = outH h (px_up V 17 0) row := (outH_w hr).symm
      have hcO : ∀ v r, px_cls (outH h v r) 619 = some 11 := fun v r => by unfold px_cls; rw [outH_o (by omega)]
      have hcJ : ∀ v r J W, px_cls (jouH (outH h v r) J W) 619 = some 11 := fun v r J W => by unfold px_cls; rw [jouH_at (by decide) (by decide), outH_o (by omega)]
      simp only [px_K_some, pc222_56, pc222_59, pc222_60, pc222_61, pc222_61n, pc222_62, pc222_63, pc222_66, pc222_66n, pc222_67, pc222_68, ne_1_0, not_false_eq_true, if_true, px_pf, h6, mf_len, mfs_17, px_fit, Nat.reduceLT, and_self, px_op_some, px_kv_ap, px_ki_ap, px_kl_ap, px_kn_ap, px_kh_ap, e0, hcO, true_and]
      refine m_emitLong (o := 0) (by omega) (up_same _ _ _) (by decide) (fun row1 u1 => ?_)
      simp only [px_K_none, pc222_71, pc222_71n, pc222_72, pc222_74, up_up, hcO, true_and]
      refine m_emitLong (o := 8) (by omega) (up_same _ _ _) (by decide) (fun row' u => ?_)
      simp only [px_K_none, pc222_77, pc222_77n, pc222_78, pc222_79, pc222_80, up_up, hcO, true_and]
      have hrow : ∀ k, k < 16 → row' k = keyB a v k := fun k hk => by
        by_cases e : k < 8
        · rw [u.1 k (by omega), keyB_0 e]
          have := u1.2 k e
          rw [Nat.zero_add] at this; exact this
        · obtain ⟨k', rfl⟩ : ∃ k', k = 8 + k' := ⟨k - 8, by omega⟩
          rw [u.2 k' (by omega), keyB_1]
      have hd : recB 4 16 row' = recB 4 16 (keyB a v) := recB_congr hrow
      have hb : ∀ k, k < 16 → row' k &&& 255 = row' k := fun k hk => by
        rw [hrow k hk]; unfold keyB; split <;> rw [Int32.and_assoc, Int32.and_self]
      have e1 : outH h (px_up V 17 (nI (8 + 8))) row' = jouH (outH h (px_up V 17 (nI 16)) row') J (px_up W q (nI w)) := by
        rw [up_id hw]; exact (jouH_id (by rw [outH_at (by decide) (by decide)]; exact hJ) (by rw [outH_at (by decide) (by decide)]; exact hW)).symm
      rw [e1]
      refine m_record (m := 16) (kd := 4) (d := row') (by rw [outH_len]; omega) (outH_o (by omega)) (up_same _ _ _) (outH_r (by omega)) hq (by decide) (by decide) (by omega) hb (fun J' u' => ?_)
      rw [hd] at u'
      have q' := hQ1 g row' J' u'
      have zz : ∀ {r : Nat} {x : px_C}, h.2[r]? = some x → r ≠ 619 → r ≠ 636 → r ≠ 632 → r ≠ 633 → (jouH (outH h (px_up V 17 (nI 16)) row') J' (px_up W q (nI (w + (6 + 16))))).2[r]? = some x := fun e b1 b2 b3 b4 => by rw [jouH_at (fun e => b3 e.symm) (fun e => b4 e.symm), outH_at (fun e => b2 e.symm) (fun e => b1 e.symm)]; exact e
      simp only [px_K_none, pc222_83, pc222_83n, pc222_84, pc222_85, pc222_86, pc222_88, hcJ, true_and]
      refine m_putKey (V := px_up V 17 (nI 16)) hq (by rw [jouH_at (by decide) (by decide)]; exact outH_o (by omega)) (zz h29 (by decide) (by decide) (by decide) (by decide)) (zz h30 (by decide) (by decide) (by decide) (by decide)) (zz h31 (by decide) (by decide) (by decide) (by decide)) hK hk (fun k hk' e hn => ?_) (fun hn k6 => ?_) (fun hn => ?_)
      · simp only [px_K_none, pc222_91, pc222_92, nar_1]
        refine q'.1 k hk' e hn ?_
        rcases hcase with ⟨hno, -⟩ | ⟨k2, hk2, e2, hn2, hv⟩
        · exact absurd e (hno k hk')
        · have : k2 = k := by
            rcases Nat.lt_trichotomy k2 k with z | z | z
            · exact absurd e (hn2 k z hk')
            · exact z
            · exact absurd e2 (hn k2 z hk2)
          rw [← this]; exact hv
      · simp only [px_K_none, pc222_91, pc222_92, nar_1]
        exact q'.2 hn k6
      · rcases hcase with ⟨-, k7⟩ | ⟨k2, hk2, e2, -⟩
        · exact k7
        · exact absurd e2 (hn k2 hk2)
    · simp only [px_K_some, pc222_56, pc222_59, pc222_60, not_true_eq_false, if_false, nar_0]
      exact hQ0 (.inr ⟨by omega, hcase.elim (fun y => .inl y.1) (fun y => .inr y)⟩)
  simp only [pc222_0, pc222_0n, pc222_1, pc222_2, pc222_3, hc6, true_and]
  refine m_findKey hq hK hk h6 h29 h30 (fun z hz => ?_)
  have m0 : ((-1 : Int32) < 0) = True := by decide
  have m1 : ((0 : Int32) ≤ -1) = False := by decide
  rcases hz with ⟨rfl, hno⟩ | ⟨k, hk', rfl, hp, hn⟩
  · by_cases k6 : K = 60
    · subst k6
      simp only [px_K_some, pc222_6, pc222_8, pc222_10, pc222_33, pc222_35, pc222_38, pc222_38n, pc222_39, pc222_42, pc222_43, pc222_44, pc222_46, pc222_59, pc222_60, px_op_some, px_kv_ap, px_ki_ap, px_kl_ap, px_kn_ap, px_kh_ap, px_op_none, px_K_some, px_K_none, px_K_thr, px_kill, ↓reduceIte, if_true, if_false, true_and, and_true, px_gf, px_pf, px_ai, px_aj, px_aa, px_wi, px_wj, px_wa, px_an, px_cls, px_kill, m0, m1, tg_i1, h6, h29, mf_11, iq, cq, hk, and_self, show nI 60 = 60 from rfl, nar_0]
      exact hQ0 (.inl ⟨hno, rfl⟩)
    · have nb : (nI K = 60) = False := eq_false (fun z => k6 (by
        have a1 := nI_clamp (n := K) (by omega)
        rw [z] at a1; exact a1.symm))
      simp only [px_K_some, pc222_6, pc222_8, pc222_10, pc222_33, pc222_35, pc222_38, pc222_38n, pc222_39, pc222_42, pc222_43, pc222_44, pc222_46, px_op_some, px_kv_ap, px_ki_ap, px_kl_ap, px_kn_ap, px_kh_ap, px_op_none, px_K_some, px_K_none, px_K_thr, px_kill, ↓reduceIte, if_true, if_false, true_and, and_true, px_gf, px_pf, px_ai, px_aj, px_aa, px_wi, px_wj, px_wa, px_an, px_cls, px_kill, m0, m1, tg_i1, h6, h29, mf_11, iq, cq, hk, and_self, nb]
      exact main _ (.inl ⟨hno, by omega⟩)
  · have ik : px_in (nI (60 * q + k)) 120 = true := px_inb (by omega) (by decide)
    have ck : (nI (60 * q + k)).toNatClampNeg = 60 * q + k := nI_clamp (by omega)
    have k0 : ¬ nI k < 0 := nI_pos (by omega)
    have k0' : (0 : Int32) ≤ nI k := nI_le (a := 0) (by omega) (by omega)
    by_cases e : kl (60 * q + k) = v
    · simp only [px_K_some, pc222_6, pc222_8, pc222_10, pc222_13, pc222_13n, pc222_14, pc222_17, pc222_19, pc222_20, pc222_21, pc222_23, pc222_24, pc222_25, pc222_27, pc222_28, pc222_31, pc222_32, px_op_some, px_kv_ap, px_ki_ap, px_kl_ap, px_kn_ap, px_kh_ap, px_op_none, px_K_some, px_K_none, px_K_thr, px_kill, ↓reduceIte, if_true, if_false, true_and, and_true, px_gf, px_pf, px_ai, px_aj, px_aa, px_wi, px_wj, px_wa, px_an, px_cls, px_kill, if_neg k0, h6, h31, mf_13, mul_60 hq, nI_add, ik, ck, and_self, lgc_0, e, not_true_eq_false, nar_1]
      exact hQS k hk' hp hn e
    · simp only [px_K_some, pc222_6, pc222_8, pc222_10, pc222_13, pc222_13n, pc222_14, pc222_17, pc222_19, pc222_20, pc222_21, pc222_23, pc222_24, pc222_25, pc222_27, pc222_28, pc222_31, pc222_32, pc222_33, pc222_35, px_op_some, px_kv_ap, px_ki_ap, px_kl_ap, px_kn_ap, px_kh_ap, px_op_none, px_K_some, px_K_none, px_K_thr, px_kill, ↓reduceIte, if_true, if_false, true_and, and_true, px_gf, px_pf, px_ai, px_aj, px_aa, px_wi, px_wj, px_wa, px_an, px_cls, px_kill, if_neg k0, if_pos k0', h6, h31, mf_13, mul_60 hq, nI_add, ik, ck, and_self, lgc_0, e, not_false_eq_true]
      exact main _ (.inr ⟨k, hk', hp, hn, e⟩)
end MKEYS
