/-! KEEP, the reference's -/
/-- the heap with another blob of the reference -/
def ablH (h : px_H) (D : Nat → Int64) (fr sz by_ us bl : Nat → Int32) : px_H := px_wr (px_wr (px_wr (px_wr (px_wr (px_wr h 622 (.inr (2, 122, .inr (.inl D)))) 623 (.inr (1, 122, .inl fr))) 624 (.inr (1, 122, .inl sz))) 625 (.inr (1, 80000, .inl by_))) 626 (.inr (1, 2, .inl us))) 621 (.inr (1, 2, .inl bl))
section MKEEP
variable {sx : Nat × (Nat → Int32)} {h : px_H} {q B c : Nat} {V d fr sz bt us bl : Nat → Int32} {D : Nat → Int64} {Q : px_O → px_H → Prop}
set_option maxRecDepth 16384 in
theorem m_isRow_l {k u : Nat} (hq : q < 2) (hk : k < 61) (h6 : h.2[619]? = some (.inl (11, modF V))) (hv : V 17 = nI c) (hr : h.2[636]? = some (.inr (1, 40100, .inl d))) (h623 : h.2[623]? = some (.inr (1, 122, .inl fr))) (h625 : h.2[625]? = some (.inr (1, 80000, .inl bt))) (hu : fr (61 * q + k) = nI u) (huc : u + c ≤ 40000)
    (hQ1 : (∀ m, m < c → bt (40000 * q + u + m) = d m) → Q (.inl (some (.int 1))) h) (hQ0 : (∃ m, m < c ∧ ¬ bt (40000 * q + u + m) = d m) → Q (.inl (some (.int 0))) h) :
    ∀ n m, m + n = c → (∀ j, j < m → bt (40000 * q + u + j) = d j) → px_Wp sx 217 27 [some (.ref 619), some (.int (nI q)), some (.int (nI k)), some (.int 1), some (.int (nI m))] [] h Q := by
  have ik : px_in (nI (61 * q + k)) 122 = true := px_inb (by omega) (by decide)
  have ck : (nI (61 * q + k)).toNatClampNeg = 61 * q + k := nI_clamp (by omega)
  intro n
  induction n with
  | zero =>
    intro m hm hp
    have hm : m = c := by omega
    subst hm
    simp only [pc217_27, pc217_29, pc217_29n, pc217_30, pc217_33, pc217_86, pc217_87, px_gf, h6, mf_17, hv, if_true, px_op_some, px_kv_ap, px_ki_ap, px_kl_ap, px_kn_ap, px_kh_ap, if_pos (Int32.le_refl (nI m)), nar_1]
    exact hQ1 hp
  | succ n ih =>
    intro m hm hp
    have hge : ¬ nI c ≤ nI m := nI_ge (by omega) (by omega)
    have im : px_in (nI m) 40100 = true := px_inb (by omega) (by decide)
    have cm : (nI m).toNatClampNeg = m := nI_clamp (by omega)
    have ib : px_in (nI (40000 * q + u + m)) 80000 = true := px_inb (by omega) (by decide)
    have cb : (nI (40000 * q + u + m)).toNatClampNeg = 40000 * q + u + m := nI_clamp (by omega)
    rw [pc217_27]
    by_cases e : bt (40000 * q + u + m) = d m
    · simp only [pc217_29, pc217_29n, pc217_30, pc217_33, pc217_36, pc217_37, pc217_40, pc217_40n, pc217_41, pc217_44, pc217_46, pc217_47, pc217_48, pc217_48n, pc217_49, pc217_52, pc217_54, pc217_55, pc217_56, pc217_57, pc217_58, pc217_59, pc217_60, pc217_62, pc217_63, pc217_64, pc217_64n, pc217_65, pc217_68, pc217_70, pc217_71, pc217_74, pc217_75, pc217_78, pc217_79, pc217_80, pc217_83, px_op_some, px_kv_ap, px_ki_ap, px_kl_ap, px_kn_ap, px_kh_ap, px_op_none, px_K_some, px_K_none, px_K_thr, px_kill, ↓reduceIte, if_true, if_false, true_and, and_true, px_gf, px_pf, px_ai, px_aj, px_aa, px_wi, px_wj, px_wa, px_an, px_cls, tg_i1, h6, hr, h623, h625, mf_17, mf_7, mf_5, mf_19, hv, if_neg hge, ne_1_0, mul_40000 hq, mul_61 hq, nI_add, ik, ck, hu, im, cm, ib, cb, and_self, e, not_true_eq_false, nI_1]
      refine ih (m + 1) (by omega) (fun j hj => ?_)
      by_cases z : j = m
      · rw [z]; exact e
      · exact hp j (by omega)
    · have q0 := hQ0 ⟨m, by omega, e⟩
      by_cases hl : m + 1 = c
      · have hge' : nI c ≤ nI (m + 1) := by rw [hl]; exact Int32.le_refl _
        simp only [pc217_29, pc217_29n, pc217_30, pc217_33, pc217_36, pc217_37, pc217_40, pc217_40n, pc217_41, pc217_44, pc217_46, pc217_47, pc217_48, pc217_48n, pc217_49, pc217_52, pc217_54, pc217_55, pc217_56, pc217_57, pc217_58, pc217_59, pc217_60, pc217_62, pc217_63, pc217_64, pc217_64n, pc217_65, pc217_68, pc217_70, pc217_71, pc217_74, pc217_75, pc217_78, pc217_79, pc217_80, pc217_83, pc217_86, pc217_87, px_op_some, px_kv_ap, px_ki_ap, px_kl_ap, px_kn_ap, px_kh_ap, px_op_none, px_K_some, px_K_none, px_K_thr, px_kill, ↓reduceIte, if_true, if_false, true_and, and_true, px_gf, px_pf, px_ai, px_aj, px_aa, px_wi, px_wj, px_wa, px_an, px_cls, tg_i1, h6, hr, h623, h625, mf_17, mf_7, mf_5, mf_19, hv, if_neg hge, ne_1_0, mul_40000 hq, mul_61 hq, nI_add, ik, ck, hu, im, cm, ib, cb, and_self, e, not_false_eq_true, nI_1]
        rw [pc217_27]
        simp only [pc217_29, pc217_29n, pc217_30, pc217_33, pc217_86, pc217_87, px_op_some, px_kv_ap, px_ki_ap, px_kl_ap, px_kn_ap, px_kh_ap, px_op_none, px_K_some, px_K_none, px_K_thr, px_kill, ↓reduceIte, if_true, if_false, true_and, and_true, px_gf, px_pf, px_ai, px_aj, px_aa, px_wi, px_wj, px_wa, px_an, px_cls, h6, mf_17, hv, if_pos hge', nar_0]
        exact q0
      · have hge' : ¬ nI c ≤ nI (m + 1) := nI_ge (by omega) (by omega)
        simp only [pc217_29, pc217_29n, pc217_30, pc217_33, pc217_36, pc217_37, pc217_40, pc217_40n, pc217_41, pc217_44, pc217_46, pc217_47, pc217_48, pc217_48n, pc217_49, pc217_52, pc217_54, pc217_55, pc217_56, pc217_57, pc217_58, pc217_59, pc217_60, pc217_62, pc217_63, pc217_64, pc217_64n, pc217_65, pc217_68, pc217_70, pc217_71, pc217_74, pc217_75, pc217_78, pc217_79, pc217_80, pc217_83, px_op_some, px_kv_ap, px_ki_ap, px_kl_ap, px_kn_ap, px_kh_ap, px_op_none, px_K_some, px_K_none, px_K_thr, px_kill, ↓reduceIte, if_true, if_false, true_and, and_true, px_gf, px_pf, px_ai, px_aj, px_aa, px_wi, px_wj, px_wa, px_an, px_cls, tg_i1, h6, hr, h623, h625, mf_17, mf_7, mf_5, mf_19, hv, if_neg hge, ne_1_0, mul_40000 hq, mul_61 hq, nI_add, ik, ck, hu, im, cm, ib, cb, and_self, e, not_false_eq_true, nI_1]
        rw [pc217_27]
        simp only [pc217_29, pc217_29n, pc217_30, pc217_33, pc217_36, pc217_37, pc217_86, pc217_87, px_op_some, px_kv_ap, px_ki_ap, px_kl_ap, px_kn_ap, px_kh_ap, px_op_none, px_K_some, px_K_none, px_K_thr, px_kill, ↓reduceIte, if_true, if_false, true_and, and_true, px_gf, px_pf, px_ai, px_aj, px_aa, px_wi, px_wj, px_wa, px_an, px_cls, h6, mf_17, hv, if_neg hge', nar_0]
        exact q0
set_option maxRecDepth 16384 in
theorem m_isRow {k u l : Nat} (hq : q < 2) (hk : k < 61) (h6 : h.2[619]? = some (.inl (11, modF V))) (hv : V 17 = nI c) (hc : c ≤ 40000) (hr : h.2[636]? = some (.inr (1, 40100, .inl d))) (h623 : h.2[623]? = some (.inr (1, 122, .inl fr))) (h624 : h.2[624]? = some (.inr (1, 122, .inl sz))) (h625 : h.2[625]? = some (.inr (1, 80000, .inl bt))) (hu : fr (61 * q + k) = nI u) (hl : sz (61 * q + k) = nI l) (hul : u + l ≤ 40000)
    (hQ1 : l = c ∧ (∀ m, m < c → bt (40000 * q + u + m) = d m) → Q (.inl (some (.int 1))) h) (hQ0 : ¬ (l = c ∧ ∀ m, m < c → bt (40000 * q + u + m) = d m) → Q (.inl (some (.int 0))) h) :
    px_Wp sx 217 0 [some (.ref 619), some (.int (nI q)), some (.int (nI k)), none, none] [] h Q := by
  have ik : px_in (nI (61 * q + k)) 122 = true := px_inb (by omega) (by decide)
  have ck : (nI (61 * q + k)).toNatClampNeg = 61 * q + k := nI_clamp (by omega)
  by_cases el : l = c
  · subst el
    simp only [pc217_0, pc217_0n, pc217_1, pc217_4, pc217_6, pc217_7, pc217_8, pc217_9, pc217_10, pc217_11, pc217_11n, pc217_12, pc217_15, pc217_18, pc217_19, pc217_22, pc217_23, pc217_24, pc217_25, px_op_some, px_kv_ap, px_ki_ap, px_kl_ap, px_kn_ap, px_kh_ap, px_op_none, px_K_some, px_K_none, px_K_thr, px_kill, ↓reduceIte, if_true, if_false, true_and, and_true, px_gf, px_pf, px_ai, px_aj, px_aa, px_wi, px_wj, px_wa, px_an, px_cls, tg_i1, h6, h624, mf_6, mf_17, hv, mul_61 hq, nI_add, ik, ck, hl, and_self, not_true_eq_false]
    exact m_isRow_l hq hk h6 hv hr h623 h625 hu hul (fun z => hQ1 ⟨rfl, z⟩) (fun ⟨m, hm, z⟩ => hQ0 (fun zz => z (zz.2 m hm))) l 0 (by omega) (fun j hj => absurd hj (by omega))
  · have ne : ¬ nI l = nI c := fun z => el (by
      have a1 := nI_clamp (n := l) (by omega)
      rw [z, nI_clamp (by omega)] at a1; omega)
    have q0 := hQ0 (fun z => el z.1)
    by_cases c0 : c = 0
    · subst c0
      have hge : nI 0 ≤ (0 : Int32) := Int32.le_refl _
      simp only [pc217_0, pc217_0n, pc217_1, pc217_4, pc217_6, pc217_7, pc217_8, pc217_9, pc217_10, pc217_11, pc217_11n, pc217_12, pc217_15, pc217_18, pc217_19, pc217_22, pc217_23, pc217_24, pc217_25, pc217_27, pc217_29, pc217_29n, pc217_30, pc217_33, pc217_86, pc217_87, px_op_some, px_kv_ap, px_ki_ap, px_kl_ap, px_kn_ap, px_kh_ap, px_op_none, px_K_some, px_K_none, px_K_thr, px_kill, ↓reduceIte, if_true, if_false, true_and, and_true, px_gf, px_pf, px_ai, px_aj, px_aa, px_wi, px_wj, px_wa, px_an, px_cls, tg_i1, h6, h624, mf_6, mf_17, hv, mul_61 hq, nI_add, ik, ck, hl, and_self, ne, not_false_eq_true, if_pos hge, nar_0]
      exact q0
    · have hge : ¬ nI c ≤ (0 : Int32) := nI_ge (a := 0) (by omega) (by omega)
      simp only [pc217_0, pc217_0n, pc217_1, pc217_4, pc217_6, pc217_7, pc217_8, pc217_9, pc217_10, pc217_11, pc217_11n, pc217_12, pc217_15, pc217_18, pc217_19, pc217_22, pc217_23, pc217_24, pc217_25, pc217_27, pc217_29, pc217_29n, pc217_30, pc217_33, pc217_36, pc217_37, pc217_86, pc217_87, px_op_some, px_kv_ap, px_ki_ap, px_kl_ap, px_kn_ap, px_kh_ap, px_op_none, px_K_some, px_K_none, px_K_thr, px_kill, ↓reduceIte, if_true, if_false, true_and, and_true, px_gf, px_pf, px_ai, px_aj, px_aa, px_wi, px_wj, px_wa, px_an, px_cls, tg_i1, h6, h624, mf_6, mf_17, hv, mul_61 hq, nI_add, ik, ck, hl, and_self, ne, not_false_eq_true, if_neg hge, nar_0]
      exact q0
set_option maxRecDepth 16384 in
theorem m_abl_l {U : Nat} {z : Int32} {h1 : px_H} {bt0 : Nat → Int32} (hq : q < 2) (hl : 668 < h1.2.length) (h6 : h1.2[619]? = some (.inl (11, modF V))) (hv : V 17 = nI c) (hr : h1.2[636]? = some (.inr (1, 40100, .inl d))) (h626 : h1.2[626]? = some (.inr (1, 2, .inl us))) (hu : us q = nI U) (hU : U + c ≤ 40000) {l2 l3 : Option Value}
    (hQ : ∀ bt', wroteM bt0 bt' (40000 * q + U) d c → px_Wp sx 221 89 [some (.ref 619), some (.int (nI q)), l2, l3, some (.int z), some (.int (nI c))] [] (px_wr h1 625 (.inr (1, 80000, .inl bt'))) Q) :
    ∀ n m, m + n = c → ∀ bt, wroteM bt0 bt (40000 * q + U) d m → px_Wp sx 221 48 [some (.ref 619), some (.int (nI q)), l2, l3, some (.int z), some (.int (nI m))] [] (px_wr h1 625 (.inr (1, 80000, .inl bt))) Q := by
  have iq : px_in (nI q) 2 = true := px_inb hq (by decide)
  have cq : (nI q).toNatClampNeg = q := nI_clamp (by omega)
  have n1 : ∀ x : Int32, px_nar 1 x = x := fun _ => rfl
  have r : ∀ bt k, 625 ≠ k → (px_wr h1 625 (.inr (1, 80000, .inl bt))).2[k]? = h1.2[k]? := fun bt k hk => by rw [wr_at, if_neg hk]
  have r6 := fun bt => (r bt 619 (by decide)).trans h6
  have rr := fun bt => (r bt 636 (by decide)).trans hr
  have ru := fun bt => (r bt 626 (by decide)).trans h626
  have rb : ∀ bt : Nat → Int32, (px_wr h1 625 (.inr (1, 80000, .inl bt))).2[625]? = some (.inr (1, 80000, .inl bt)) := fun bt => by rw [wr_at, if_pos rfl, if_pos (by omega)]
  intro n
  induction n with
  | zero =>
    intro m hm bt w
    have hm : m = c := by omega
    subst hm
    simp only [pc221_48, pc221_50, pc221_50n, pc221_51, pc221_54, px_gf, r6, mf_17, hv, if_true, px_op_some, px_kv_ap, px_ki_ap, px_kl_ap, px_kn_ap, px_kh_ap, if_pos (Int32.le_refl (nI m))]
    exact hQ bt w
  | succ n ih =>
    intro m hm bt w
    have hge : ¬ nI c ≤ nI m := nI_ge (by omega) (by omega)
    have im : px_in (nI m) 40100 = true := px_inb (by omega) (by decide)
    have cm : (nI m).toNatClampNeg = m := nI_clamp (by omega)
    have ib : px_in (nI (40000 * q + U + m)) 80000 = true := px_inb (by omega) (by decide)
    have cb : (nI (40000 * q + U + m)).toNatClampNeg = 40000 * q + U + m := nI_clamp (by omega)
    rw [pc221_48]
    simp only [pc221_50, pc221_50n, pc221_51, pc221_54, pc221_57, pc221_57n, pc221_58, pc221_61, pc221_63, pc221_64, pc221_65, pc221_65n, pc221_66, pc221_69, pc221_70, pc221_71, pc221_72, pc221_74, pc221_75, pc221_75n, pc221_76, pc221_79, pc221_81, pc221_82, pc221_83, pc221_86, px_op_some, px_kv_ap, px_ki_ap, px_kl_ap, px_kn_ap, px_kh_ap, px_op_none, px_K_some, px_K_none, px_K_thr, px_kill, ↓reduceIte, if_true, if_false, true_and, and_true, px_gf, px_pf, px_ai, px_aj, px_aa, px_wi, px_wj, px_wa, px_an, px_cls, tg_i1, r6, rr, ru, rb, mf_17, mf_7, mf_8, mf_19, hv, if_neg hge, mul_40000 hq, iq, cq, hu, nI_add, im, cm, ib, cb, and_self, n1, px_wr_wr, nI_1]
    exact ih (m + 1) (by omega) _ (wroteM_up w rfl)
set_option maxRecDepth 16384 in
theorem m_addBlob {U : Nat} {v : Int64} (hq : q < 2) (hl : 668 < h.2.length) (hB : B < 60) (h6 : h.2[619]? = some (.inl (11, modF V))) (hv : V 17 = nI c) (hr : h.2[636]? = some (.inr (1, 40100, .inl d))) (h621 : h.2[621]? = some (.inr (1, 2, .inl bl))) (h622 : h.2[622]? = some (.inr (2, 122, .inr (.inl D)))) (h623 : h.2[623]? = some (.inr (1, 122, .inl fr))) (h624 : h.2[624]? = some (.inr (1, 122, .inl sz))) (h625 : h.2[625]? = some (.inr (1, 80000, .inl bt))) (h626 : h.2[626]? = some (.inr (1, 2, .inl us))) (hb : bl q = nI B) (hu : us q = nI U) (hU : U + c ≤ 40000)
    (hQ : ∀ bt', wroteM bt bt' (40000 * q + U) d c → Q (.inl none) (ablH h (px_up D (61 * q + B) v) (px_up fr (61 * q + B) (nI U)) (px_up sz (61 * q + B) (nI c)) bt' (px_up us q (nI (U + c))) (px_up bl q (nI (B + 1))))) :
    px_Wp sx 221 0 [some (.ref 619), some (.int (nI q)), some (.long v), none, none, none] [] h Q := by
  have iq : px_in (nI q) 2 = true := px_inb hq (by decide)
  have cq : (nI q).toNatClampNeg = q := nI_clamp (by omega)
  have ik : px_in (nI (61 * q + B)) 122 = true := px_inb (by omega) (by decide)
  have ck : (nI (61 * q + B)).toNatClampNeg = 61 * q + B := nI_clamp (by omega)
  have n1 : ∀ x : Int32, px_nar 1 x = x := fun _ => rfl
  simp only [pc221_0, pc221_2, pc221_3, pc221_4, pc221_4n, pc221_5, pc221_8, pc221_9, pc221_10, pc221_11, pc221_13, pc221_13n, pc221_14, pc221_17, pc221_19, pc221_20, pc221_21, pc221_21n, pc221_22, pc221_25, pc221_27, pc221_27n, pc221_28, pc221_31, pc221_32, pc221_33, pc221_34, pc221_34n, pc221_35, pc221_38, pc221_40, pc221_40n, pc221_41, pc221_44, pc221_45, pc221_46, px_op_some, px_kv_ap, px_ki_ap, px_kl_ap, px_kn_ap, px_kh_ap, px_op_none, px_K_some, px_K_none, px_K_thr, px_kill, ↓reduceIte, if_true, if_false, true_and, and_true, px_gf, px_pf, px_ai, px_aj, px_aa, px_wi, px_wj, px_wa, px_an, px_cls, tg_i1, h6, hr, h621, h622, h623, h624, h626, mf_3, mf_4, mf_5, mf_6, mf_8, mf_17, hv, mul_61 hq, iq, cq, hb, hu, nI_add, ik, ck, and_self, n1, wr_at, Nat.reduceEqDiff]
  generalize hh1 : px_wr (px_wr (px_wr h 622 (.inr (2, 122, .inr (.inl (px_up D (61 * q + B) v))))) 623 (.inr (1, 122, .inl (px_up fr (61 * q + B) (nI U))))) 624 (.inr (1, 122, .inl (px_up sz (61 * q + B) (nI c)))) = h1
  have r : ∀ k, 622 ≠ k → 623 ≠ k → 624 ≠ k → h1.2[k]? = h.2[k]? := fun k a b c => by rw [← hh1, wr_at, if_neg c, wr_at, if_neg b, wr_at, if_neg a]
  have l1 : h1.2.length = h.2.length := by rw [← hh1, px_wr_len, px_wr_len, px_wr_len]
  have e1 : h1 = px_wr h1 625 (.inr (1, 80000, .inl bt)) := (wr_id ((r 625 (by decide) (by decide) (by decide)).trans h625)).symm
  rw [e1]
  refine m_abl_l (c := c) (d := d) (us := us) (V := V) hq (by omega) ((r _ (by decide) (by decide) (by decide)).trans h6) hv ((r _ (by decide) (by decide) (by decide)).trans hr) ((r _ (by decide) (by decide) (by decide)).trans h626) hu hU (fun bt' w => ?_) c 0 (by omega) bt (wroteM_0 bt _ _)
  have s6 : (px_wr h1 625 (.inr (1, 80000, .inl bt'))).2[619]? = some (.inl (11, modF V)) := by rw [wr_at, if_neg (by decide)]; exact (r _ (by decide) (by decide) (by decide)).trans h6
  have su : (px_wr h1 625 (.inr (1, 80000, .inl bt'))).2[626]? = some (.inr (1, 2, .inl us)) := by rw [wr_at, if_neg (by decide)]; exact (r _ (by decide) (by decide) (by decide)).trans h626
  have sb : (px_wr h1 625 (.inr (1, 80000, .inl bt'))).2[621]? = some (.inr (1, 2, .inl bl)) := by rw [wr_at, if_neg (by decide)]; exact (r _ (by decide) (by decide) (by decide)).trans h621
  simp only [pc221_89, pc221_89n, pc221_90, pc221_93, pc221_94, pc221_94n, pc221_95, pc221_98, pc221_99, pc221_100, pc221_100n, pc221_101, pc221_104, pc221_105, pc221_106, pc221_106n, pc221_107, pc221_110, pc221_111, pc221_112, pc221_113, pc221_114, pc221_115, pc221_116, px_op_some, px_kv_ap, px_ki_ap, px_kl_ap, px_kn_ap, px_kh_ap, px_op_none, px_K_some, px_K_none, px_K_thr, px_kill, ↓reduceIte, if_true, if_false, true_and, and_true, px_gf, px_pf, px_ai, px_aj, px_aa, px_wi, px_wj, px_wa, px_an, px_cls, tg_i1, s6, su, sb, mf_3, mf_8, mf_17, hv, iq, cq, hb, hu, nI_add, and_self, n1, wr_at, Nat.reduceEqDiff, nI_1]
  rw [← hh1]
  exact hQ bt' w
set_option maxRecDepth 16384 in
theorem m_keep {U w : Nat} {J W : Nat → Int32} (hq : q < 2) (hl : 668 < h.2.length) (hB : B ≤ 60) (h6 : h.2[619]? = some (.inl (11, modF V))) (hv : V 17 = nI c) (hc : c ≤ 39000) (hr : h.2[636]? = some (.inr (1, 40100, .inl d))) (hd : ∀ k, k < c → d k &&& 255 = d k) (h621 : h.2[621]? = some (.inr (1, 2, .inl bl))) (h622 : h.2[622]? = some (.inr (2, 122, .inr (.inl D)))) (h623 : h.2[623]? = some (.inr (1, 122, .inl fr))) (h624 : h.2[624]? = some (.inr (1, 122, .inl sz))) (h625 : h.2[625]? = some (.inr (1, 80000, .inl bt))) (h626 : h.2[626]? = some (.inr (1, 2, .inl us))) (hJ : h.2[632]? = some (.inr (1, 80000, .inl J))) (hW : h.2[633]? = some (.inr (1, 2, .inl W)))
    (hb : bl q = nI B) (hu : us q = nI U) (hU : U ≤ w) (hw : W q = nI w) (hw4 : w ≤ 40000)
    (hbl : ∀ k, k < B → ∃ u l, fr (61 * q + k) = nI u ∧ sz (61 * q + k) = nI l ∧ u + l ≤ 40000)
    (hQk : ∀ k, k < B → D (61 * q + k) = dig d c → ∀ u l, fr (61 * q + k) = nI u → sz (61 * q + k) = nI l → u + l ≤ 40000 → (l = c ∧ (∀ m, m < c → bt (40000 * q + u + m) = d m) → Q (.inl (some (.int 1))) h) ∧ (¬ (l = c ∧ ∀ m, m < c → bt (40000 * q + u + m) = d m) → Q (.inl (some (.int 0))) h))
    (hQ0 : (∀ k, k < B → ¬ D (61 * q + k) = dig d c) → (B = 60 ∨ 40000 < w + (6 + c)) → Q (.inl (some (.int 0))) h)
    (hQ1 : (∀ k, k < B → ¬ D (61 * q + k) = dig d c) → B < 60 → w + (6 + c) ≤ 40000 → ∀ J' bt', wroteM J J' (40000 * q + w) (recB 1 c d) (6 + c) → wroteM bt bt' (40000 * q + U) d c → Q (.inl (some (.int 1))) (ablH (jouH h J' (px_up W q (nI (w + (6 + c))))) (px_up D (61 * q + B) (dig d c)) (px_up fr (61 * q + B) (nI U)) (px_up sz (61 * q + B) (nI c)) bt' (px_up us q (nI (U + c))) (px_up bl q (nI (B + 1))))) :
    px_Wp sx 216 0 [some (.ref 619), some (.int (nI q)), none, none, none] [] h Q := by
  have iq : px_in (nI q) 2 = true := px_inb hq (by decide)
  have cq : (nI q).toNatClampNeg = q := nI_clamp (by omega)
  have hc6 : px_cls h 619 = some 11 := by unfold px_cls; rw [h6]
  simp only [pc216_0, pc216_0n, pc216_1, hc6, true_and]
  refine m_digest h6 hr hv (by omega) ?_
  simp only [px_K_some, pc216_4, pc216_5, pc216_5n, pc216_6, pc216_7, pc216_8, px_kill, hc6, true_and]
  refine m_find hq hB hb h6 h621 h622 (fun v hvv => ?_)
  rcases hvv with ⟨rfl, hno⟩ | ⟨k, hk, rfl, hp, -⟩
  · have q0 := hQ0 hno
    have q1 := hQ1 hno
    have m1 : ((-1 : Int32) < 0) = True := by decide
    by_cases b6 : B = 60
    · subst b6
      simp only [px_K_some, pc216_11, pc216_13, pc216_15, pc216_26, pc216_26n, pc216_27, pc216_30, pc216_31, pc216_32, pc216_34, pc216_37, pc216_37n, pc216_38, pc216_39, pc216_39n, pc216_40, pc216_43, pc216_46, pc216_49, pc216_50, px_kill, m1, if_true, px_gf, px_ai, tg_i1, h6, h621, mf_3, px_op_some, px_kv_ap, px_ki_ap, px_kl_ap, px_kn_ap, px_kh_ap, iq, cq, and_self, hb, show (60 : Int32) = nI 60 from rfl, nar_0]
      exact q0 (.inl rfl)
    · have nb : (nI B = 60) = False := eq_false (fun z => b6 (by
        have a1 := nI_clamp (n := B) (by omega)
        rw [z] at a1; exact a1.symm))
      simp only [px_K_some, pc216_11, pc216_13, pc216_15, pc216_26, pc216_26n, pc216_27, pc216_30, pc216_31, pc216_32, pc216_34, pc216_37, pc216_37n, pc216_38, pc216_39, pc216_39n, pc216_40, pc216_43, px_kill, m1, if_true, px_gf, px_ai, tg_i1, h6, h621, mf_3, mf_17, hv, px_op_some, px_kv_ap, px_ki_ap, px_kl_ap, px_kn_ap, px_kh_ap, iq, cq, and_self, hb, nb, if_false, hc6, true_and]
      refine m_hasRoom (m := c) h6 hW hq hw hw4 (by omega) (fun g => ?_) (fun g => ?_)
      · have e1 : h = jouH h J (px_up W q (nI w)) := by rw [up_id hw]; exact (jouH_id hJ hW).symm
        have hcJ : ∀ J W, px_cls (jouH h J W) 619 = some 11 := fun J W => by unfold px_cls; rw [jouH_at (by decide) (by decide), h6]
        simp only [px_K_some, pc216_46, pc216_49, pc216_50, pc216_51, pc216_51n, pc216_52, pc216_53, pc216_54, ne_1_0, not_false_eq_true, if_true, hc6, true_and]
        rw [e1]
        refine m_record (m := c) (kd := 1) (d := d) (by omega) h6 hv hr hq (by decide) hc (by omega) hd (fun J' u' => ?_)
        simp only [px_K_none, pc216_57, pc216_57n, pc216_58, pc216_59, pc216_60, hcJ, true_and]
        have r : ∀ k x, 632 ≠ k → 633 ≠ k → h.2[k]? = some x → (jouH h J' (px_up W q (nI (w + (6 + c))))).2[k]? = some x := fun k x a b e => by rw [jouH_at a b]; exact e
        refine m_addBlob (U := U) hq (by rw [jouH_len]; exact hl) (by omega) (r _ _ (by decide) (by decide) h6) hv (r _ _ (by decide) (by decide) hr) (r _ _ (by decide) (by decide) h621) (r _ _ (by decide) (by decide) h622) (r _ _ (by decide) (by decide) h623) (r _ _ (by decide) (by decide) h624) (r _ _ (by decide) (by decide) h625) (r _ _ (by decide) (by decide) h626) hb hu (by omega) (fun bt' w' => ?_)
        simp only [px_K_none, pc216_63, pc216_64, nar_1]
        exact q1 (by omega) g J' bt' u' w'
      · simp only [px_K_some, pc216_46, pc216_49, pc216_50, not_true_eq_false, if_false, nar_0]
        exact q0 (.inr g)
  · obtain ⟨u, l, e1, e2, e3⟩ := hbl k hk
    obtain ⟨qk1, qk0⟩ := hQk k hk hp u l e1 e2 e3
    have k0 : ¬ nI k < 0 := nI_pos (by omega)
    simp only [px_K_some, pc216_11, pc216_13, pc216_15, pc216_18, pc216_18n, pc216_19, pc216_20, pc216_22, px_kill, if_neg k0, hc6, true_and]
    refine m_isRow hq (by omega) h6 hv (by omega) hr h623 h624 h625 e1 e2 e3 (fun z => ?_) (fun z => ?_)
    · simp only [px_K_some, pc216_25, nar_1]; exact qk1 z
    · simp only [px_K_some, pc216_25, nar_0]; exact qk0 z
end MKEEP
