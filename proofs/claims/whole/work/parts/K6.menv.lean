/-! ENV, the reference's, the whole -/
section MENV
variable {sx : Nat × (Nat → Int32)} {h : px_H} {V g : Nat → Int32} {n s c e : Nat} {B : Nat → Nat} {m : aM} {Q : px_O → px_H → Prop}
set_option maxRecDepth 16384 in
theorem m_set (h6 : h.2[619]? = some (.inl (11, modF V))) (im : imR h V m) (ok : imOK m) (hA : h.2[620]? = some (.inr (1, 600, .inl g))) (hB : txM g n B) (hn : n ≤ 600) (hl : ltr (patF B s c) c) (hc1 : 1 ≤ c) (hc8 : c ≤ 8) (hk : s + c + 2 ≤ e) (he : e ≤ n) (h13 : e ≤ s + c + 13)
    (room : iS m < 6 ∨ ∃ i, i < iS m ∧ iN m i = patF B s c)
    (hQ : ∀ m' V' h', setR m c (patF B s c) (e - (s + c + 1)) (patF B (s + c + 1) (e - (s + c + 1))) 0 m' → imR h' V' m' → (∀ j, j ≠ 38 → V' j = V j) → h'.2[619]? = some (.inl (11, modF V')) → frm mtA h h' → (shape h → shape h') → Q (.inl none) h') :
    px_Wp sx 163 0 [some (.ref 619), some (.int (nI s)), some (.int (nI (s + c))), some (.int (nI e)), none, none] [] h Q := by
  have hcls : px_cls h 619 = some 11 := by unfold px_cls; rw [h6]
  have o6 := ok.2.1
  have im' := im
  obtain ⟨v1, v2, L, NM, NS, VL, VS, d9, d0, d1, d2, d3, oL, rows⟩ := im'
  have w0 : mtS h h V L NM NS VL VS := ⟨frm_refl _ _, fun z => z, h6, d9, d0, d1, d2, d3⟩
  have lens : ∀ a, a < iS m → iNl m a ≤ 8 ∧ iVl m a ≤ 12 := fun a ha => ⟨(ok.2.2.1 a ha).1.2.1, (ok.2.2.1 a ha).1.2.2.2⟩
  simp only [pc163_0, pc163_0n, pc163_1, pc163_1n, pc163_2, pc163_5, pc163_6, pc163_7, px_op_some, px_kv_ap, px_ki_ap, px_kl_ap, px_kn_ap, px_kh_ap, px_op_none, px_K_some, px_K_none, px_K_thr, px_kill, ↓reduceIte, if_true, if_false, true_and, and_true, px_gf, h6, mf_1, hcls]
  refine m_setting h6 im ok hA hB hn hl (by omega) (fun x hx => ?_)
  rcases hx with ⟨i, hi, e1, rfl⟩ | ⟨no, rfl⟩
  · have ge : (0 : Int32) ≤ nI i := nI_pos' (by omega)
    simp only [px_K_some, pc163_10, pc163_12, pc163_14, px_op_some, px_kv_ap, px_ki_ap, px_kl_ap, px_kn_ap, px_kh_ap, px_op_none, px_K_some, px_K_none, px_K_thr, px_kill, ↓reduceIte, if_true, if_false, true_and, and_true, px_kill, ge]
    refine m_set_v (s := s + c) w0 (by omega) hA hB hn (by omega) he h13 (fun h2 w2 => ?_)
    obtain ⟨a1, a2, a3, bL, bNM, bNS, bVL, bVS⟩ := w2
    refine hQ _ V h2 (.inl ⟨i, hi, e1, rfl, rfl⟩) ⟨v1, v2, L, _, _, _, _, bL, bNM, bNS, bVL, bVS, oL, fun j hj => ?_⟩ (fun _ _ => rfl) a3 a1 a2
    have hj : j < iS m := hj
    obtain ⟨r1, r2, r3, r4⟩ := rows j hj
    have ll := lens j hj
    show NS j = nI (iNl m j) ∧ px_up VS i (nI (e - (s + c + 1))) j = nI (px_up (iVl m) i (e - (s + c + 1)) j) ∧ (∀ k, k < iNl m j → NM (8 * j + k) = nI (iN m j k)) ∧ ∀ k, k < px_up (iVl m) i (e - (s + c + 1)) j → wrF VL (12 * i) (e - (s + c + 1)) (fun j => nI (B (s + c + 1 + j))) (12 * j + k) = nI (px_up (iV m) i (patF B (s + c + 1) (e - (s + c + 1))) j k)
    by_cases z : j = i
    · subst z
      rw [up_same, up_same, up_same]
      exact ⟨r1, rfl, r3, fun k hk => by rw [wrF_in hk, patF_lt hk]⟩
    · rw [up_ne z, up_ne z, up_ne z]
      exact ⟨r1, r2, r3, fun k hk => by rw [wrF_out (by omega)]; exact r4 k hk⟩
  · have n6 : iS m < 6 := by
      rcases room with x | ⟨i, i1, i2⟩
      · exact x
      · exact absurd i2 (no i i1)
    have fin : ∀ t, gapN m (patF B s c) t → ∀ h1 NM NS VL VS l5, mtS h h1 V L NM NS VL VS → (∀ j, j < t → stR NM NS VL VS m j j) → (∀ j, t < j → j ≤ iS m → stR NM NS VL VS m j (j - 1)) → px_Wp sx 163 77 [some (.ref 619), some (.int (nI s)), some (.int (nI (s + c))), some (.int (nI e)), some (.int (nI t)), l5] [] h1 Q := by
      intro t gt h1 NM NS VL VS l5 w1 q1 q2
      have t6 := gt.1
      refine m_set_n (e := s) (s := t) (t := iS m) w1 v2 (by omega) n6 hA hB hn (by omega) hc8 (fun h2 l5' w2 => ?_)
      refine m_set_v (s := s + c) w2 (by omega) hA hB hn (by omega) he h13 (fun h3 w3 => ?_)
      obtain ⟨a1, a2, a3, bL, bNM, bNS, bVL, bVS⟩ := w3
      refine hQ _ _ h3 (.inr ⟨no, .inr ⟨n6, rfl, t, gt, rfl⟩⟩) ⟨by rw [up_ne (by decide)]; exact v1, up_same _ _ _, L, _, _, _, _, bL, bNM, bNS, bVL, bVS, oL, fun j hj => ?_⟩ (fun j hj => up_ne hj) a3 a1 a2
      have hj : j < iS m + 1 := hj
      show px_up NS t (nI c) j = nI (insF (iNl m) t c j) ∧ px_up VS t (nI (e - (s + c + 1))) j = nI (insF (iVl m) t (e - (s + c + 1)) j) ∧ (∀ k, k < insF (iNl m) t c j → wrF NM (8 * t) c (fun j => nI (B (s + j))) (8 * j + k) = nI (insF (iN m) t (patF B s c) j k)) ∧ ∀ k, k < insF (iVl m) t (e - (s + c + 1)) j → wrF VL (12 * t) (e - (s + c + 1)) (fun j => nI (B (s + c + 1 + j))) (12 * j + k) = nI (insF (iV m) t (patF B (s + c + 1) (e - (s + c + 1))) j k)
      rcases Nat.lt_trichotomy j t with z | z | z
      · obtain ⟨r1, r2, r3, r4⟩ := q1 j z
        have ll := lens j (by omega)
        rw [up_ne (by omega), up_ne (by omega), insF_lt z, insF_lt z, insF_lt z, insF_lt z]
        exact ⟨r1, r2, fun k hk => by rw [wrF_out (by omega)]; exact r3 k hk, fun k hk => by rw [wrF_out (by omega)]; exact r4 k hk⟩
      · subst z
        rw [up_same, up_same, insF_eq, insF_eq, insF_eq, insF_eq]
        exact ⟨rfl, rfl, fun k hk => by rw [wrF_in hk, patF_lt hk], fun k hk => by rw [wrF_in hk, patF_lt hk]⟩
      · obtain ⟨r1, r2, r3, r4⟩ := q2 j z (by omega)
        have ll := lens (j - 1) (by omega)
        rw [up_ne (by omega), up_ne (by omega), insF_gt z, insF_gt z, insF_gt z, insF_gt z]
        exact ⟨r1, r2, fun k hk => by rw [wrF_out (by omega)]; exact r3 k hk, fun k hk => by rw [wrF_out (by omega)]; exact r4 k hk⟩
    have sb : nI (s + c) - nI s = nI c := by rw [nI_sub (by omega), Nat.add_sub_cancel_left]
    have loop : ∀ t, t ≤ iS m → (∀ j, t ≤ j → j < iS m → plt (patF B s c) (iN m j)) → ∀ h1 NM NS VL VS l5, mtS h h1 V L NM NS VL VS → (∀ j, j < t → stR NM NS VL VS m j j) → (∀ j, t < j → j ≤ iS m → stR NM NS VL VS m j (j - 1)) → px_Wp sx 163 23 [some (.ref 619), some (.int (nI s)), some (.int (nI (s + c))), some (.int (nI e)), some (.int (nI t)), l5] [] h1 Q := by
      intro t
      induction t with
      | zero =>
        intro _ hgt h1 NM NS VL VS l5 w1 q1 q2
        simp only [pc163_23, pc163_25, px_op_some, px_kv_ap, px_ki_ap, px_kl_ap, px_kn_ap, px_kh_ap, px_op_none, px_K_some, px_K_none, px_K_thr, px_kill, ↓reduceIte, if_true, if_false, true_and, and_true, show (nI 0 ≤ (0 : Int32)) = True from eq_true (by decide)]
        exact fin 0 ⟨Nat.zero_le _, fun i hi => absurd hi (Nat.not_lt_zero i), fun i _ hi => hgt i (Nat.zero_le _) hi⟩ h1 NM NS VL VS l5 w1 q1 q2
      | succ u ih =>
        intro hu hgt h1 NM NS VL VS l5 w1 q1 q2
        have w1' := w1
        obtain ⟨a1, a2, a3, bL, bNM, bNS, bVL, bVS⟩ := w1'
        have hA1 : h1.2[620]? = some (.inr (1, 600, .inl g)) := frm_at a1 (by unfold mtA; omega) hA
        have le : ¬ nI (u + 1) ≤ 0 := nI_nle (by omega) (by omega)
        have d1 : nI (u + 1) - 1 = nI u := nI_pred u
        have ii : px_in (nI u) 7 = true := px_inb (by omega) (by decide)
        have ci : (nI u).toNatClampNeg = u := nI_clamp (by omega)
        obtain ⟨r1, r2, r3, r4⟩ := q1 u (by omega)
        have hc1' : px_cls h1 619 = some 11 := by unfold px_cls; rw [a3]
        have lt := (ok.2.2.1 u (by omega)).2.1
        have ll := lens u (by omega)
        simp only [pc163_23, pc163_25, pc163_28, pc163_28n, pc163_29, pc163_29n, pc163_30, pc163_33, pc163_35, pc163_37, pc163_38, pc163_39, pc163_40, pc163_40n, pc163_41, pc163_44, pc163_46, pc163_47, pc163_48, pc163_49, pc163_49n, pc163_50, pc163_53, pc163_54, pc163_55, pc163_56, pc163_57, px_op_some, px_kv_ap, px_ki_ap, px_kl_ap, px_kn_ap, px_kh_ap, px_op_none, px_K_some, px_K_none, px_K_thr, px_kill, ↓reduceIte, if_true, if_false, true_and, and_true, px_gf, px_ai, a3, mf_39, mf_40, mf_1, le, d1, mul_8n, bNS, ii, ci, r1, sb, tg_i1, and_self, hc1']
        refine m_compare (p := iN m u) (q := patF B s c) bNM hA1 (by decide) (by decide) (by omega) (by omega) (ltr_sgs lt) (ltr_sgs hl) r3 (fun j hj => by rw [patF_lt hj]; exact (hB _ (by omega)).1) (fun y hy => ?_)
        rcases hy with ⟨-, hy⟩ | ⟨y0, hy⟩ | ⟨y0, hy⟩
        · exact absurd hy (no u (by omega))
        · have yl : y ≤ 0 := Int32.le_of_lt y0
          simp only [px_K_some, pc163_60, px_op_some, px_kv_ap, px_ki_ap, px_kl_ap, px_kn_ap, px_kh_ap, px_op_none, px_K_some, px_K_none, px_K_thr, px_kill, ↓reduceIte, if_true, if_false, true_and, and_true, yl]
          refine fin (u + 1) ⟨hu, fun i hi => ?_, fun i a b => hgt i a b⟩ h1 NM NS VL VS l5 w1 q1 q2
          by_cases z : i = u
          · subst z; exact hy
          · exact plt_trans (ok.2.2.2 i u (by omega) (by omega)) hy
        · have yl : ¬ y ≤ 0 := Int32.not_le.mpr y0
          simp only [px_K_some, pc163_60, pc163_63, pc163_63n, pc163_64, pc163_66, pc163_67, pc163_68, px_op_some, px_kv_ap, px_ki_ap, px_kl_ap, px_kn_ap, px_kh_ap, px_op_none, px_K_some, px_K_none, px_K_thr, px_kill, ↓reduceIte, if_true, if_false, true_and, and_true, yl, d1, hc1']
          refine m_shift w1 (by omega) (fun h2 w2 => ?_)
          have dec : nI (u + 1) + -1 = nI u := nI_m1
          simp only [px_K_none, pc163_71, pc163_74, px_op_some, px_kv_ap, px_ki_ap, px_kl_ap, px_kn_ap, px_kh_ap, px_op_none, px_K_some, px_K_none, px_K_thr, px_kill, ↓reduceIte, if_true, if_false, true_and, and_true, px_kill, dec]
          refine ih (by omega) (fun j a b => ?_) h2 _ _ _ _ _ w2 (fun j hj => st_shift2 (q1 j (by omega)) (lens j (by omega)) (by omega)) (fun j a b => ?_)
          · by_cases z : j = u
            · subst z; exact hy
            · exact hgt j (by omega) b
          · by_cases z : j = u + 1
            · subst z; exact st_shift (q1 u (by omega)) ll
            · exact st_shift2 (q2 j (by omega) b) (lens (j - 1) (by omega)) (by omega)
    have lt0 : ¬ (0 : Int32) ≤ -1 := by decide
    simp only [px_K_some, pc163_10, pc163_12, pc163_14, pc163_17, pc163_17n, pc163_18, pc163_21, px_op_some, px_kv_ap, px_ki_ap, px_kl_ap, px_kn_ap, px_kh_ap, px_op_none, px_K_some, px_K_none, px_K_thr, px_kill, ↓reduceIte, if_true, if_false, true_and, and_true, px_gf, h6, mf_38, v2, px_kill, lt0]
    exact loop (iS m) (Nat.le_refl _) (fun j a b => absurd b (by omega)) h NM NS VL VS _ w0 rows (fun j a b => absurd b (by omega))
end MENV
