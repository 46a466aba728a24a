/-! TREES, the reference's: entries moved and dropped -/
set_option maxRecDepth 16384 in
theorem eN_le {e : aE} (h : eOK e) : eN e ≤ 1000 := by rcases h.2 with ⟨-, h⟩ | ⟨-, h⟩ <;> omega
def idm : Nat → Int32
  | 0 => -1
  | k + 1 => nI k
set_option maxRecDepth 16384 in
theorem idm_sub : ∀ n : Nat, nI n - 1 = idm n
  | 0 => rfl
  | n + 1 => nI_pred n
set_option maxRecDepth 16384 in
theorem idm_add : ∀ n : Nat, nI n + -1 = idm n
  | 0 => rfl
  | _ + 1 => nI_m1
def dropE (T : Nat → aE) (e k : Nat) : Nat → aE := fun i => if e ≤ i ∧ i < k then T (i + 1) else T i
set_option maxRecDepth 16384 in
theorem dropE_up {T : Nat → aE} {e k : Nat} (he : e ≤ k) : px_up (dropE T e k) k (dropE T e k (k + 1)) = dropE T e (k + 1) := by
  funext i
  by_cases x : i = k
  · subst x
    rw [up_same]
    unfold dropE
    rw [if_neg (by omega), if_pos (by omega)]
  · rw [up_ne x]
    unfold dropE
    by_cases y : e ≤ i ∧ i < k
    · rw [if_pos y, if_pos (by omega)]
    · rw [if_neg y, if_neg (by omega)]
set_option maxRecDepth 16384 in
theorem dropE_0 {T : Nat → aE} {e : Nat} : dropE T e e = T := by
  funext i
  unfold dropE
  rw [if_neg (by omega)]
section MMOVE
variable {sx : Nat × (Nat → Int32)} {h : px_H} {n l f t e : Nat} {V : Nat → Int32} {D : Nat → Prop} {T : Nat → aE} {p : Nat → Nat} {Q : px_O → px_H → Prop}
set_option maxRecDepth 16384 in
theorem m_mv_l1 {LN P : Nat → Int32} (hl : 637 < h.2.length) (h6 : h.2[619]? = some (.inl (11, modF V))) (h8 : h.2[638]? = some (.inr (1, 82, .inl LN))) (hf : f < 82) (ht : t < 82) (hne : f ≠ t) (hLN : LN f = nI l) (l35 : l ≤ 35)
    (hQ : ∀ P', (∀ j, j < l → P' (36 * t + j) = P (36 * f + j)) → (∀ i, i < 36 * t ∨ 36 * t + l ≤ i → P' i = P i) → px_Wp sx 188 76 [some (.ref 619), some (.int (nI f)), some (.int (nI t)), some (.int (nI l))] [] (px_wr h 637 (.inr (1, 2952, .inl P'))) Q) :
    ∀ d k, k + d = l → ∀ Pk, (∀ j, j < k → Pk (36 * t + j) = P (36 * f + j)) → (∀ i, i < 36 * t ∨ 36 * t + k ≤ i → Pk i = P i) → px_Wp sx 188 38 [some (.ref 619), some (.int (nI f)), some (.int (nI t)), some (.int (nI k))] [] (px_wr h 637 (.inr (1, 2952, .inl Pk))) Q := by
  have i8 : px_in (nI f) 82 = true := px_inb hf (by decide)
  have c8 : (nI f).toNatClampNeg = f := nI_clamp (by omega)
  have z7 : ∀ x : px_C, (px_wr h 637 x).2[637]? = some x := fun x => by rw [wr_at, if_pos rfl, if_pos hl]
  have z6 : ∀ x : px_C, (px_wr h 637 x).2[619]? = some (.inl (11, modF V)) := fun x => by rw [wr_at, if_neg (by decide)]; exact h6
  have z8 : ∀ x : px_C, (px_wr h 637 x).2[638]? = some (.inr (1, 82, .inl LN)) := fun x => by rw [wr_at, if_neg (by decide)]; exact h8
  have n1 : ∀ x : Int32, px_nar 1 x = x := fun _ => rfl
  intro d
  induction d with
  | zero =>
    intro k hk Pk w1 w2
    have hk : k = l := by omega
    subst hk
    simp only [pc188_38, pc188_39, pc188_39n, pc188_40, pc188_43, pc188_44, pc188_45, px_op_some, px_kv_ap, px_ki_ap, px_kl_ap, px_kn_ap, px_kh_ap, px_op_none, px_K_some, px_K_none, px_K_thr, px_kill, ↓reduceIte, if_true, if_false, true_and, and_true, px_gf, px_ai, tg_i1, z6, z8, mf_22, i8, c8, hLN, and_self, if_pos (Int32.le_refl _)]
    exact hQ Pk w1 w2
  | succ d ih =>
    intro k hk Pk w1 w2
    have ge : ¬ nI l ≤ nI k := nI_ge (by omega) (by omega)
    have it : px_in (nI (36 * t + k)) 2952 = true := px_inb (by omega) (by decide)
    have ct : (nI (36 * t + k)).toNatClampNeg = 36 * t + k := nI_clamp (by omega)
    have if_ : px_in (nI (36 * f + k)) 2952 = true := px_inb (by omega) (by decide)
    have cf : (nI (36 * f + k)).toNatClampNeg = 36 * f + k := nI_clamp (by omega)
    have rd : Pk (36 * f + k) = P (36 * f + k) := w2 _ (by omega)
    rw [pc188_38]
    simp only [pc188_39, pc188_39n, pc188_40, pc188_43, pc188_44, pc188_45, pc188_48, pc188_48n, pc188_49, pc188_52, pc188_54, pc188_55, pc188_56, pc188_57, pc188_58, pc188_58n, pc188_59, pc188_62, pc188_64, pc188_65, pc188_66, pc188_67, pc188_68, pc188_69, pc188_70, pc188_73, px_op_some, px_kv_ap, px_ki_ap, px_kl_ap, px_kn_ap, px_kh_ap, px_op_none, px_K_some, px_K_none, px_K_thr, px_kill, ↓reduceIte, if_true, if_false, true_and, and_true, px_gf, px_ai, px_wi, tg_i1, z6, z7, z8, mf_21, mf_22, i8, c8, hLN, ge, mul_36, nI_add, it, ct, if_, cf, rd, n1, and_self, px_wr_wr, px_kill, nI_1]
    refine ih (k + 1) (by omega) _ (fun j hj => ?_) (fun i hi => ?_)
    · by_cases x : j = k
      · subst x; exact up_same _ _ _
      · rw [up_ne (by omega)]; exact w1 j (by omega)
    · rw [up_ne (by omega)]; exact w2 i (by omega)
set_option maxRecDepth 16384 in
theorem m_mv_l2 {Z C : Nat → Int32} (hl : 641 < h.2.length) (h6 : h.2[619]? = some (.inl (11, modF V))) (h8 : h.2[640]? = some (.inr (1, 82, .inl Z))) (hf : f < 82) (ht : t < 82) (hne : f ≠ t) (hZ : Z f = nI l) (l35 : l ≤ 1000)
    (hQ : ∀ C', (∀ j, j < l → C' (1001 * t + j) = C (1001 * f + j)) → (∀ i, i < 1001 * t ∨ 1001 * t + l ≤ i → C' i = C i) → px_Wp sx 188 118 [some (.ref 619), some (.int (nI f)), some (.int (nI t)), some (.int (nI l))] [] (px_wr h 641 (.inr (1, 82082, .inl C'))) Q) :
    ∀ d k, k + d = l → ∀ Pk, (∀ j, j < k → Pk (1001 * t + j) = C (1001 * f + j)) → (∀ i, i < 1001 * t ∨ 1001 * t + k ≤ i → Pk i = C i) → px_Wp sx 188 78 [some (.ref 619), some (.int (nI f)), some (.int (nI t)), some (.int (nI k))] [] (px_wr h 641 (.inr (1, 82082, .inl Pk))) Q := by
  have i8 : px_in (nI f) 82 = true := px_inb hf (by decide)
  have c8 : (nI f).toNatClampNeg = f := nI_clamp (by omega)
  have z7 : ∀ x : px_C, (px_wr h 641 x).2[641]? = some x := fun x => by rw [wr_at, if_pos rfl, if_pos hl]
  have z6 : ∀ x : px_C, (px_wr h 641 x).2[619]? = some (.inl (11, modF V)) := fun x => by rw [wr_at, if_neg (by decide)]; exact h6
  have z8 : ∀ x : px_C, (px_wr h 641 x).2[640]? = some (.inr (1, 82, .inl Z)) := fun x => by rw [wr_at, if_neg (by decide)]; exact h8
  have n1 : ∀ x : Int32, px_nar 1 x = x := fun _ => rfl
  intro d
  induction d with
  | zero =>
    intro k hk Pk w1 w2
    have hk : k = l := by omega
    subst hk
    simp only [pc188_78, pc188_79, pc188_79n, pc188_80, pc188_83, pc188_84, pc188_85, px_op_some, px_kv_ap, px_ki_ap, px_kl_ap, px_kn_ap, px_kh_ap, px_op_none, px_K_some, px_K_none, px_K_thr, px_kill, ↓reduceIte, if_true, if_false, true_and, and_true, px_gf, px_ai, tg_i1, z6, z8, mf_24, i8, c8, hZ, and_self, if_pos (Int32.le_refl _)]
    exact hQ Pk w1 w2
  | succ d ih =>
    intro k hk Pk w1 w2
    have ge : ¬ nI l ≤ nI k := nI_ge (by omega) (by omega)
    have it : px_in (nI (1001 * t + k)) 82082 = true := px_inb (by omega) (by decide)
    have ct : (nI (1001 * t + k)).toNatClampNeg = 1001 * t + k := nI_clamp (by omega)
    have if_ : px_in (nI (1001 * f + k)) 82082 = true := px_inb (by omega) (by decide)
    have cf : (nI (1001 * f + k)).toNatClampNeg = 1001 * f + k := nI_clamp (by omega)
    have rd : Pk (1001 * f + k) = C (1001 * f + k) := w2 _ (by omega)
    rw [pc188_78]
    simp only [pc188_79, pc188_79n, pc188_80, pc188_83, pc188_84, pc188_85, pc188_88, pc188_88n, pc188_89, pc188_92, pc188_95, pc188_96, pc188_97, pc188_98, pc188_99, pc188_99n, pc188_100, pc188_103, pc188_106, pc188_107, pc188_108, pc188_109, pc188_110, pc188_111, pc188_112, pc188_115, px_op_some, px_kv_ap, px_ki_ap, px_kl_ap, px_kn_ap, px_kh_ap, px_op_none, px_K_some, px_K_none, px_K_thr, px_kill, ↓reduceIte, if_true, if_false, true_and, and_true, px_gf, px_ai, px_wi, tg_i1, z6, z7, z8, mf_24, mf_25, i8, c8, hZ, ge, mul_1001, nI_add, it, ct, if_, cf, rd, n1, and_self, px_wr_wr, px_kill, nI_1]
    refine ih (k + 1) (by omega) _ (fun j hj => ?_) (fun i hi => ?_)
    · by_cases x : j = k
      · subst x; exact up_same _ _ _
      · rw [up_ne (by omega)]; exact w1 j (by omega)
    · rw [up_ne (by omega)]; exact w2 i (by omega)
set_option maxRecDepth 16384 in
theorem m_moveEntry (h6 : h.2[619]? = some (.inl (11, modF V))) (w : mtE h D T) (hf : D f) (ht : t < 82) (hne : f ≠ t)
    (hQ : ∀ h', mtE h' (fun i => D i ∨ i = t) (px_up T t (T f)) → frm mEA h h' → (shape h → shape h') → Q (.inl none) h') :
    px_Wp sx 188 0 [some (.ref 619), some (.int (nI f)), some (.int (nI t)), none] [] h Q := by
  obtain ⟨P, LN, K, Z, C, ⟨a1, a2, a3, a4, a5⟩, w2⟩ := w
  obtain ⟨f82, ok, r1, r2, r3, r4, r5⟩ := w2 f hf
  have l35 := ok.1.2.1
  have c35 := eN_le ok
  have n1 : ∀ x : Int32, px_nar 1 x = x := fun _ => rfl
  have key : ∀ h1 : px_H, h1.2[619]? = some (.inl (11, modF V)) → h1.2[637]? = some (.inr (1, 2952, .inl P)) → h1.2[638]? = some (.inr (1, 82, .inl (px_up LN t (LN f)))) → h1.2[639]? = some (.inr (1, 82, .inl (px_up K t (K f)))) → h1.2[640]? = some (.inr (1, 82, .inl (px_up Z t (Z f)))) → h1.2[641]? = some (.inr (1, 82082, .inl C)) → frm mEA h h1 → (shape h → shape h1) →
      px_Wp sx 188 38 [some (.ref 619), some (.int (nI f)), some (.int (nI t)), some (.int 0)] [] h1 Q := by
    intro h1 b6 b7 b8 b9 b10 b11 fr1 sh1
    have L7 : 637 < h1.2.length := (List.getElem?_eq_some_iff.mp b7).1
    have L11 : 641 < h1.2.length := (List.getElem?_eq_some_iff.mp b11).1
    have e0 : px_wr h1 637 (.inr (1, 2952, .inl P)) = h1 := wr_id b7
    have go := m_mv_l1 (sx := sx) (h := h1) (f := f) (t := t) (l := eL (T f)) (P := P) (Q := Q) L7 b6 b8 f82 ht hne (by rw [up_ne hne]; exact r1) l35 (fun P' p1 p2 => by
      have c6 : (px_wr h1 637 (.inr (1, 2952, .inl P'))).2[619]? = some (.inl (11, modF V)) := by rw [wr_at, if_neg (by decide)]; exact b6
      have c10 : (px_wr h1 637 (.inr (1, 2952, .inl P'))).2[640]? = some (.inr (1, 82, .inl (px_up Z t (Z f)))) := by rw [wr_at, if_neg (by decide)]; exact b10
      have c11 : (px_wr h1 637 (.inr (1, 2952, .inl P'))).2[641]? = some (.inr (1, 82082, .inl C)) := by rw [wr_at, if_neg (by decide)]; exact b11
      have e1 : px_wr (px_wr h1 637 (.inr (1, 2952, .inl P'))) 641 (.inr (1, 82082, .inl C)) = px_wr h1 637 (.inr (1, 2952, .inl P')) := wr_id c11
      have go2 := m_mv_l2 (sx := sx) (h := px_wr h1 637 (.inr (1, 2952, .inl P'))) (f := f) (t := t) (l := eN (T f)) (C := C) (Q := Q) (by rw [px_wr_len]; exact L11) c6 c10 f82 ht hne (by rw [up_ne hne]; exact r3) c35 (fun C' q1 q2 => by
        simp only [pc188_118]
        refine hQ _ ⟨P', px_up LN t (LN f), px_up K t (K f), px_up Z t (Z f), C', ⟨?_, ?_, ?_, ?_, ?_⟩, fun i hi => ?_⟩ (frm_wr (frm_wr fr1 ⟨by decide, by decide⟩) ⟨by decide, by decide⟩) (fun s => shape_ia (shape_ia (sh1 s) b7) c11)
        · rw [wr_at, if_neg (by decide), wr_at, if_pos rfl, if_pos L7]
        · rw [wr_at, if_neg (by decide), wr_at, if_neg (by decide)]; exact b8
        · rw [wr_at, if_neg (by decide), wr_at, if_neg (by decide)]; exact b9
        · rw [wr_at, if_neg (by decide), wr_at, if_neg (by decide)]; exact b10
        · rw [wr_at, if_pos rfl, if_pos (by rw [px_wr_len]; exact L11)]
        · by_cases x : i = t
          · subst x
            rw [up_same]
            exact ⟨ht, ok, by rw [up_same]; exact r1, by rw [up_same]; exact r2, by rw [up_same]; exact r3, fun j hj => by rw [p1 j hj]; exact r4 j hj, fun j hj => by rw [q1 j hj]; exact r5 j hj⟩
          · obtain ⟨i82, oki, s1, s2, s3, s4, s5⟩ := w2 i (hi.resolve_right x)
            have i35 := oki.1.2.1
            have i1000 := eN_le oki
            rw [up_ne x]
            exact ⟨i82, oki, by rw [up_ne x]; exact s1, by rw [up_ne x]; exact s2, by rw [up_ne x]; exact s3, fun j hj => by rw [p2 _ (by omega)]; exact s4 j hj, fun j hj => by rw [q2 _ (by omega)]; exact s5 j hj⟩) (eN (T f)) 0 (by omega) C (fun j hj => absurd hj (Nat.not_lt_zero j)) (fun i _ => rfl)
      rw [e1] at go2
      simp only [pc188_76, pc188_77, px_kill]
      exact go2) (eL (T f)) 0 (by omega) P (fun j hj => absurd hj (Nat.not_lt_zero j)) (fun i _ => rfl)
    rw [e0] at go
    exact go
  have L8 : 638 < h.2.length := (List.getElem?_eq_some_iff.mp a2).1
  have L9 : 639 < h.2.length := (List.getElem?_eq_some_iff.mp a3).1
  have L10 : 640 < h.2.length := (List.getElem?_eq_some_iff.mp a4).1
  have if_ : px_in (nI f) 82 = true := px_inb f82 (by decide)
  have cf : (nI f).toNatClampNeg = f := nI_clamp (by omega)
  have it : px_in (nI t) 82 = true := px_inb ht (by decide)
  have ct : (nI t).toNatClampNeg = t := nI_clamp (by omega)
  simp only [pc188_0, pc188_0n, pc188_1, pc188_4, pc188_5, pc188_5n, pc188_6, pc188_9, pc188_10, pc188_11, pc188_12, pc188_12n, pc188_13, pc188_16, pc188_17, pc188_17n, pc188_18, pc188_21, pc188_22, pc188_23, pc188_24, pc188_24n, pc188_25, pc188_28, pc188_29, pc188_29n, pc188_30, pc188_33, pc188_34, pc188_35, pc188_36, pc188_37, px_op_some, px_kv_ap, px_ki_ap, px_kl_ap, px_kn_ap, px_kh_ap, px_op_none, px_K_some, px_K_none, px_K_thr, px_kill, ↓reduceIte, if_true, if_false, true_and, and_true, px_gf, px_ai, px_wi, yr_0, yr_1, tr_0, tr_1, tr_2, tr_3, px_rf, of_2, of_4, in_02, in_12, in_04, in_14, in_24, in_34, Nat.reduceLeDiff, in_01, lgc_self, Int32.reduceToNatClampNeg, wr_at, al_at, px_wr_len, px_al_len, px_wr_1, px_al_1, tg_0, tg_1, tg_2, tg_3, tg_12, tg_15, tg_17, tg_18, tg_i1, tg_b0, tg_b3, px_fit, Nat.reduceEqDiff, Nat.reduceLT, Nat.reduceAdd, Option.some.injEq, up_at, px_wr_wr, i32_le, Int32.reduceLE, Int32.reduceLT, mf_len, nar_0, nar_1, px_KH_some, px_KH_none, px_KH_thr, List.length_cons, List.length_nil, List.getElem?_cons_zero, List.getElem?_cons_succ, List.set_cons_zero, List.set_cons_succ, ↓reduceIte, Nat.lt_irrefl, ne_0_1, ne_0_2, ne_0_3, ne_0_4, ne_0_5, ne_1_0, ne_1_2, ne_1_3, ne_1_4, ne_1_5, ne_2_0, ne_2_1, ne_2_3, ne_2_4, ne_2_5, ne_3_0, ne_3_1, ne_3_2, ne_3_4, ne_3_5, ne_4_0, ne_4_1, ne_4_2, ne_4_3, ne_4_5, ne_5_0, ne_5_1, ne_5_2, ne_5_3, ne_5_4, hd_256_12, hd_256_16, hd_257_12, hd_258_12, hd_259_12, hd_260_12, hd_261_12, hd_261_13, hd_261_16, hd_262_12, hd_262_13, hd_262_16, hd_263_12, hd_263_13, hd_264_12, hd_264_13, hd_264_14, hd_265_12, hd_265_13, hd_265_14, hd_266_12, hd_267_12, hd_267_13, hd_267_14, hd_268_12, hd_269_12, hd_269_14, hd_270_12, hd_271_12, hd_272_12, hd_273_12, hd_273_13, hd_273_15, hd_274_12, hd_274_15, hd_275_12, hd_275_15, hd_276_12, nI_p1, nI_p2, nI_p3, nI_p4, nI_p5, not_true_eq_false, not_false_eq_true, and_self, mf_0, mf_1, mf_2, mf_3, mf_4, mf_5, mf_6, mf_7, mf_8, mf_9, mf_10, mf_11, mf_12, mf_13, mf_14, mf_15, mf_16, mf_17, mf_18, mf_19, mf_20, mf_21, mf_22, mf_23, mf_24, mf_25, mf_26, mf_27, mf_28, mf_29, mf_30, mf_31, mf_32, mf_33, mf_34, mf_35, mf_36, mf_37, mf_38, mf_39, mf_40, mf_41, mf_42, mf_43, mf_44, mf_45, mf_46, mf_47, mf_48, mf_49, mf_50, mf_51, mf_52, mf_53, mf_54, mf_55, mf_56, mf_57, mf_58, mf_59, mf_60, mf_61, mfs_0, mfs_2, mfs_17, mfs_20, mfs_26, mfs_32, mfs_34, mfs_36, mfs_38, mfs_43, mfs_44, mfs_45, mfs_46, mfs_47, iy_0, iy_1, iy_2, iy_3, iy_4, iy_5, iy_6, h6, mf_22, mf_23, mf_24, a2, a3, a4, if_, cf, it, ct, n1, px_kill]
  refine key _ ?_ ?_ ?_ ?_ ?_ ?_ (frm_wr (frm_wr (frm_wr (frm_refl _ _) ⟨by decide, by decide⟩) ⟨by decide, by decide⟩) ⟨by decide, by decide⟩) (fun s => shape_ia (shape_ia (shape_ia s a2) (by rw [wr_at, if_neg (by decide)]; exact a3)) (by rw [wr_at, if_neg (by decide), wr_at, if_neg (by decide)]; exact a4))
  · rw [wr_at, if_neg (by decide), wr_at, if_neg (by decide), wr_at, if_neg (by decide)]; exact h6
  · rw [wr_at, if_neg (by decide), wr_at, if_neg (by decide), wr_at, if_neg (by decide)]; exact a1
  · rw [wr_at, if_neg (by decide), wr_at, if_neg (by decide), wr_at, if_pos rfl, if_pos L8]
  · rw [wr_at, if_neg (by decide), wr_at, if_pos rfl, if_pos (by rw [px_wr_len]; exact L9)]
  · rw [wr_at, if_pos rfl, if_pos (by rw [px_wr_len, px_wr_len]; exact L10)]
  · rw [wr_at, if_neg (by decide), wr_at, if_neg (by decide), wr_at, if_neg (by decide)]; exact a5
set_option maxRecDepth 16384 in
theorem m_drop_l (h6 : h.2[619]? = some (.inl (11, modF V))) (hv : V 20 = nI n) (hn : n ≤ 81) (hD : ∀ i, i < n → D i) (he : e < n)
    (hQ : ∀ h', mtE h' D (dropE T e (n - 1)) → frm mEA h h' → (shape h → shape h') → px_Wp sx 187 26 [some (.ref 619), some (.int (nI e)), some (.int (nI (n - 1)))] [] h' Q) :
    ∀ d k, k + d = n - 1 → e ≤ k → ∀ h1, mtE h1 D (dropE T e k) → frm mEA h h1 → (shape h → shape h1) → px_Wp sx 187 2 [some (.ref 619), some (.int (nI e)), some (.int (nI k))] [] h1 Q := by
  intro d
  induction d with
  | zero =>
    intro k hk hek h1 w fr sh
    have hk : k = n - 1 := by omega
    subst hk
    have b6 := (fr.2.2 619 (by unfold mEA; omega)).trans h6
    simp only [pc187_2, pc187_3, pc187_4, pc187_5, pc187_5n, pc187_6, pc187_9, px_op_some, px_kv_ap, px_ki_ap, px_kl_ap, px_kn_ap, px_kh_ap, px_op_none, px_K_some, px_K_none, px_K_thr, px_kill, ↓reduceIte, if_true, if_false, true_and, and_true, px_gf, b6, mf_20, hv, nI_1, show n - 1 + 1 = n by omega, if_pos (Int32.le_refl _)]
    exact hQ h1 w fr sh
  | succ d ih =>
    intro k hk hek h1 w fr sh
    have b6 := (fr.2.2 619 (by unfold mEA; omega)).trans h6
    have ge : ¬ nI n ≤ nI (k + 1) := nI_ge (by omega) (by omega)
    have hcls : px_cls h1 619 = some 11 := by unfold px_cls; rw [b6]
    rw [pc187_2]
    simp only [pc187_3, pc187_4, pc187_5, pc187_5n, pc187_6, pc187_9, pc187_12, pc187_12n, pc187_13, pc187_14, pc187_15, pc187_16, pc187_17, px_op_some, px_kv_ap, px_ki_ap, px_kl_ap, px_kn_ap, px_kh_ap, px_op_none, px_K_some, px_K_none, px_K_thr, px_kill, ↓reduceIte, if_true, if_false, true_and, and_true, px_gf, b6, mf_20, hv, nI_1, ge, hcls]
    refine m_moveEntry b6 w (hD (k + 1) (by omega)) (by omega) (by omega) (fun h2 w2 fr2 sh2 => ?_)
    simp only [px_K_none, pc187_20, pc187_23, px_kill, nI_1]
    refine ih (k + 1) (by omega) (by omega) h2 (mtE_mono w2 (fun i hi => ⟨.inl hi, ?_⟩)) (frm_trans fr fr2) (fun s => sh2 (sh s))
    rw [dropE_up hek]
def mEB (r : Nat) : Prop := mEA r ∨ r = 619
set_option maxRecDepth 16384 in
theorem m_drop (h6 : h.2[619]? = some (.inl (11, modF V))) (hv : V 20 = nI n) (hn : n ≤ 81) (w : mtE h D T) (hD : ∀ i, i < n → D i) (he : e < n)
    (hQ : ∀ h', mtE h' D (dropE T e (n - 1)) → h'.2[619]? = some (.inl (11, modF (px_up V 20 (nI (n - 1))))) → frm mEB h h' → (shape h → shape h') → Q (.inl none) h') :
    px_Wp sx 187 0 [some (.ref 619), some (.int (nI e)), none] [] h Q := by
  simp only [pc187_0, pc187_1, px_kill]
  refine m_drop_l h6 hv hn hD he (fun h1 w1 fr sh => ?_) (n - 1 - e) e (by omega) (Nat.le_refl _) h (by rw [dropE_0]; exact w) (frm_refl _ _) (fun s => s)
  have b6 := (fr.2.2 619 (by unfold mEA; omega)).trans h6
  have hl : 619 < h1.2.length := (List.getElem?_eq_some_iff.mp b6).1
  have s1 : nI n - 1 = nI (n - 1) := nI_sub (b := 1) (by omega)
  simp only [pc187_26, pc187_26n, pc187_27, pc187_27r, pc187_28, pc187_31, pc187_32, pc187_33, pc187_36, px_op_some, px_kv_ap, px_ki_ap, px_kl_ap, px_kn_ap, px_kh_ap, px_op_none, px_K_some, px_K_none, px_K_thr, px_kill, ↓reduceIte, if_true, if_false, true_and, and_true, yr_0, yr_1, tr_0, tr_1, tr_2, tr_3, px_rf, of_2, of_4, in_02, in_12, in_04, in_14, in_24, in_34, Nat.reduceLeDiff, in_01, lgc_self, Int32.reduceToNatClampNeg, wr_at, al_at, px_wr_len, px_al_len, px_wr_1, px_al_1, tg_0, tg_1, tg_2, tg_3, tg_12, tg_15, tg_17, tg_18, tg_i1, tg_b0, tg_b3, px_fit, Nat.reduceEqDiff, Nat.reduceLT, Nat.reduceAdd, Option.some.injEq, up_at, px_wr_wr, i32_le, Int32.reduceLE, Int32.reduceLT, mf_len, nar_0, nar_1, px_KH_some, px_KH_none, px_KH_thr, List.length_cons, List.length_nil, List.getElem?_cons_zero, List.getElem?_cons_succ, List.set_cons_zero, List.set_cons_succ, ↓reduceIte, Nat.lt_irrefl, ne_0_1, ne_0_2, ne_0_3, ne_0_4, ne_0_5, ne_1_0, ne_1_2, ne_1_3, ne_1_4, ne_1_5, ne_2_0, ne_2_1, ne_2_3, ne_2_4, ne_2_5, ne_3_0, ne_3_1, ne_3_2, ne_3_4, ne_3_5, ne_4_0, ne_4_1, ne_4_2, ne_4_3, ne_4_5, ne_5_0, ne_5_1, ne_5_2, ne_5_3, ne_5_4, hd_256_12, hd_256_16, hd_257_12, hd_258_12, hd_259_12, hd_260_12, hd_261_12, hd_261_13, hd_261_16, hd_262_12, hd_262_13, hd_262_16, hd_263_12, hd_263_13, hd_264_12, hd_264_13, hd_264_14, hd_265_12, hd_265_13, hd_265_14, hd_266_12, hd_267_12, hd_267_13, hd_267_14, hd_268_12, hd_269_12, hd_269_14, hd_270_12, hd_271_12, hd_272_12, hd_273_12, hd_273_13, hd_273_15, hd_274_12, hd_274_15, hd_275_12, hd_275_15, hd_276_12, nI_p1, nI_p2, nI_p3, nI_p4, nI_p5, not_true_eq_false, not_false_eq_true, and_self, mf_0, mf_1, mf_2, mf_3, mf_4, mf_5, mf_6, mf_7, mf_8, mf_9, mf_10, mf_11, mf_12, mf_13, mf_14, mf_15, mf_16, mf_17, mf_18, mf_19, mf_20, mf_21, mf_22, mf_23, mf_24, mf_25, mf_26, mf_27, mf_28, mf_29, mf_30, mf_31, mf_32, mf_33, mf_34, mf_35, mf_36, mf_37, mf_38, mf_39, mf_40, mf_41, mf_42, mf_43, mf_44, mf_45, mf_46, mf_47, mf_48, mf_49, mf_50, mf_51, mf_52, mf_53, mf_54, mf_55, mf_56, mf_57, mf_58, mf_59, mf_60, mf_61, mfs_0, mfs_2, mfs_17, mfs_20, mfs_26, mfs_32, mfs_34, mfs_36, mfs_38, mfs_43, mfs_44, mfs_45, mfs_46, mfs_47, iy_0, iy_1, iy_2, iy_3, iy_4, iy_5, iy_6, px_gf, px_pf, b6, hv, s1]
  refine hQ _ (mtE_frm w1 (fun r hr => ?_)) ?_ (frm_wr (frm_mono fr (fun r hr => .inl hr)) (.inr rfl)) (fun s => shape_int (k := 20) (sh s) b6 rfl)
  · rw [wr_at, if_neg (by unfold mEA at hr; omega)]
  · rw [wr_at, if_pos rfl, if_pos hl]
end MMOVE
