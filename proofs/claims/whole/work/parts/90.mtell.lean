/-! TELL, the reference's; UNTAG and RETAG where a tag is told -/
set_option maxRecDepth 16384 in
theorem outH_w {h : px_H} {v row : Nat → Int32} (h1 : h.2[636]? = some (.inr (1, 40100, .inl row))) : outH h v row = px_wr h 619 (.inl (11, modF v)) := by
  unfold outH; rw [wr_id h1]
set_option maxRecDepth 16384 in
theorem up_id {α : Type} {f : Nat → α} {k : Nat} {x : α} (e : f k = x) : px_up f k x = f := by
  funext j; unfold px_up; split
  · next q => rw [q]; exact e.symm
  · rfl
set_option maxRecDepth 16384 in
theorem mul_8 {q : Nat} (hq : q < 2) : 8 * nI q = nI (8 * q) := by
  match q, hq with
  | 0, _ => rfl
  | 1, _ => rfl
section MTELL
variable {sx : Nat × (Nat → Int32)} {h : px_H} {q w j : Nat} {V row J W T : Nat → Int32} {G : Nat → Int64} {Q : px_O → px_H → Prop}
set_option maxRecDepth 16384 in
theorem m_hasRoom {m : Nat} (h6 : h.2[619]? = some (.inl (11, modF V))) (hW : h.2[633]? = some (.inr (1, 2, .inl W))) (hq : q < 2) (hw : W q = nI w) (hw4 : w ≤ 40000) (hm : m ≤ 100000)
    (hQ1 : w + (6 + m) ≤ 40000 → Q (.inl (some (.int 1))) h) (hQ0 : 40000 < w + (6 + m) → Q (.inl (some (.int 0))) h) :
    px_Wp sx 218 0 [some (.ref 619), some (.int (nI q)), some (.int (nI m))] [] h Q := by
  have i2 : px_in (nI q) 2 = true := px_inb hq (by decide)
  have c2 : (nI q).toNatClampNeg = q := nI_clamp (by omega)
  have e : nI w + 6 + nI m = nI (w + (6 + m)) := by rw [show (6 : Int32) = nI 6 from rfl, nI_add, nI_add, Nat.add_assoc]
  by_cases g : w + (6 + m) ≤ 40000
  · have g' : ¬ (40000 : Int32) < nI (w + (6 + m)) := nI_nlt (a := 40000) g (by decide)
    simp only [pc218_0, pc218_0n, pc218_1, pc218_4, pc218_5, pc218_6, pc218_8, pc218_9, pc218_10, pc218_11, pc218_13, pc218_16, pc218_17, pc218_20, pc218_21, px_op_some, px_kv_ap, px_ki_ap, px_kl_ap, px_kn_ap, px_kh_ap, px_op_none, px_K_some, px_K_none, px_K_thr, px_kill, ↓reduceIte, if_true, if_false, true_and, and_true, px_gf, px_pf, px_ai, px_aj, px_aa, px_wi, px_wj, px_wa, px_an, px_cls, h6, hW, mf_15, tg_i1, i2, c2, and_self, hw, e, g', nar_1]
    exact hQ1 g
  · have g' : (40000 : Int32) < nI (w + (6 + m)) := nI_lt (a := 40000) (by omega) (by omega)
    simp only [pc218_0, pc218_0n, pc218_1, pc218_4, pc218_5, pc218_6, pc218_8, pc218_9, pc218_10, pc218_11, pc218_13, pc218_16, pc218_17, pc218_20, pc218_21, px_op_some, px_kv_ap, px_ki_ap, px_kl_ap, px_kn_ap, px_kh_ap, px_op_none, px_K_some, px_K_none, px_K_thr, px_kill, ↓reduceIte, if_true, if_false, true_and, and_true, px_gf, px_pf, px_ai, px_aj, px_aa, px_wi, px_wj, px_wa, px_an, px_cls, h6, hW, mf_15, tg_i1, i2, c2, and_self, hw, e, g', nar_0]
    exact hQ0 (by omega)
set_option maxRecDepth 16384 in
theorem m_tell {v : Int64} (hl : 668 < h.2.length) (h6 : h.2[619]? = some (.inl (11, modF V))) (hr : h.2[636]? = some (.inr (1, 40100, .inl row))) (hJ : h.2[632]? = some (.inr (1, 80000, .inl J))) (hW : h.2[633]? = some (.inr (1, 2, .inl W))) (hT : h.2[628]? = some (.inr (3, 16, .inl T))) (hG : h.2[627]? = some (.inr (2, 16, .inr (.inl G))))
    (hq : q < 2) (hj : j < 8) (hw : W q = nI w) (hw4 : w ≤ 40000)
    (hQS : ¬ T (8 * q + j) = 0 → G (8 * q + j) = v → Q (.inl (some (.int 1))) h) (hQ0 : ¬ (¬ T (8 * q + j) = 0 ∧ G (8 * q + j) = v) → 40000 < w + 15 → Q (.inl (some (.int 0))) h)
    (hQ1 : ¬ (¬ T (8 * q + j) = 0 ∧ G (8 * q + j) = v) → w + 15 ≤ 40000 → ∀ row' J', wroteM J J' (40000 * q + w) (recB 2 9 (tagB j v)) 15 → Q (.inl (some (.int 1))) (px_wr (px_wr (jouH (outH h (px_up V 17 (nI 9)) row') J' (px_up W q (nI (w + 15)))) 628 (.inr (3, 16, .inl (px_up T (8 * q + j) 1)))) 627 (.inr (2, 16, .inr (.inl (px_up G (8 * q + j) v)))))) :
    px_Wp sx 224 0 [some (.ref 619), some (.int (nI q)), some (.int (nI j)), some (.long v), none, none] [] h Q := by
  have m8 : 8 * nI q = nI (8 * q) := by
    match q, hq with
    | 0, _ => rfl
    | 1, _ => rfl
  have i16 : px_in (nI (8 * q + j)) 16 = true := px_inb (by omega) (by decide)
  have c16 : (nI (8 * q + j)).toNatClampNeg = 8 * q + j := nI_clamp (by omega)
  have hc6 : px_cls h 619 = some 11 := by unfold px_cls; rw [h6]
  have main : ¬ (¬ T (8 * q + j) = 0 ∧ G (8 * q + j) = v) → px_Wp sx 224 32 [some (.ref 619), some (.int (nI q)), some (.int (nI j)), some (.long v), none, some (.int (nI (8 * q + j)))] [] h Q := by
    intro hn
    simp only [pc224_32, pc224_32n, pc224_33, pc224_34, pc224_36, hc6, true_and]
    refine m_hasRoom (m := 9) h6 hW hq hw hw4 (by decide) (fun g => ?_) (fun g => ?_)
    · have e0 : px_wr h 619 (.inl (11, modF (px_up V 17 0))) = outH h (px_up V 17 0) row := (outH_w hr).symm
      have hcO : ∀ v r, px_cls (outH h v r) 619 = some 11 := fun v r => by unfold px_cls; rw [outH_o (by omega)]
      have hcJ : ∀ v r J W, px_cls (jouH (outH h v r) J W) 619 = some 11 := fun v r J W => by unfold px_cls; rw [jouH_at (by decide) (by decide), outH_o (by omega)]
      simp only [px_K_some, pc224_39, pc224_42, pc224_43, pc224_44, pc224_44n, pc224_45, pc224_46, pc224_49, pc224_49n, pc224_50, pc224_51, ne_1_0, not_false_eq_true, if_true, px_pf, h6, mf_len, mfs_17, px_fit, Nat.reduceLT, and_self, px_op_some, px_kv_ap, px_ki_ap, px_kl_ap, px_kn_ap, px_kh_ap, e0, hcO, true_and]
      refine m_emit (o := 0) (by omega) (up_same _ _ _) (by decide) ?_
      simp only [px_K_none, pc224_54, pc224_54n, pc224_55, pc224_56, up_up, hcO, true_and]
      refine m_emitLong (o := 1) (by omega) (up_same _ _ _) (by decide) (fun row' u => ?_)
      simp only [px_K_none, pc224_59, pc224_59n, pc224_60, pc224_61, pc224_62, up_up, hcO, true_and]
      have hd : recB 2 9 row' = recB 2 9 (tagB j v) := recB_congr (fun k hk => by
        by_cases e : k = 0
        · subst e
          rw [u.1 0 (by omega), up_same, nI_small (by omega)]; rfl
        · obtain ⟨k', rfl⟩ : ∃ k', k = 1 + k' := ⟨k - 1, by omega⟩
          rw [u.2 k' (by omega), tagB_s])
      have hb : ∀ k, k < 9 → row' k &&& 255 = row' k := fun k hk => by
        by_cases e : k = 0
        · subst e
          rw [u.1 0 (by omega), up_same, nI_small (by omega), nI_small (by omega)]
        · obtain ⟨k', rfl⟩ : ∃ k', k = 1 + k' := ⟨k - 1, by omega⟩
          rw [u.2 k' (by omega), Int32.and_assoc, Int32.and_self]
      have e1 : outH h (px_up V 17 (nI (1 + 8))) row' = jouH (outH h (px_up V 17 (nI 9)) row') J (px_up W q (nI w)) := by
        rw [up_id hw]; exact (jouH_id (by rw [outH_at (by decide) (by decide)]; exact hJ) (by rw [outH_at (by decide) (by decide)]; exact hW)).symm
      rw [e1]
      refine m_record (m := 9) (kd := 2) (d := row') (by rw [outH_len]; omega) (outH_o (by omega)) (up_same _ _ _) (outH_r (by omega)) hq (by decide) (by decide) (by omega) hb (fun J' u' => ?_)
      rw [hd] at u'
      have n3 : px_nar 3 1 = 1 := rfl
      have hT' : ∀ J' W', (jouH (outH h (px_up V 17 (nI 9)) row') J' W').2[628]? = some (.inr (3, 16, .inl T)) := fun J' W' => by rw [jouH_at (by decide) (by decide), outH_at (by decide) (by decide)]; exact hT
      have hG' : ∀ J' W', (jouH (outH h (px_up V 17 (nI 9)) row') J' W').2[627]? = some (.inr (2, 16, .inr (.inl G))) := fun J' W' => by rw [jouH_at (by decide) (by decide), outH_at (by decide) (by decide)]; exact hG
      have h6' : ∀ J' W', (jouH (outH h (px_up V 17 (nI 9)) row') J' W').2[619]? = some (.inl (11, modF (px_up V 17 (nI 9)))) := fun J' W' => by rw [jouH_at (by decide) (by decide), outH_o (by omega)]
      simp only [px_K_none, pc224_65, pc224_65n, pc224_66, pc224_69, pc224_71, pc224_72, pc224_73, pc224_73n, pc224_74, pc224_77, pc224_79, pc224_80, pc224_81, pc224_82, px_op_some, px_kv_ap, px_ki_ap, px_kl_ap, px_kn_ap, px_kh_ap, px_op_none, px_K_some, px_K_none, px_K_thr, px_kill, ↓reduceIte, if_true, if_false, true_and, and_true, px_gf, px_pf, px_ai, px_aj, px_aa, px_wi, px_wj, px_wa, px_an, px_cls, h6', hT', hG', wr_at, mf_10, mf_9, tg_b3, i16, c16, and_self, n3, nar_1, Nat.reduceEqDiff]
      exact hQ1 hn g row' J' u'
    · simp only [px_K_some, pc224_39, pc224_42, pc224_43, not_true_eq_false, if_false, nar_0]
      exact hQ0 hn (by omega)
  by_cases e : T (8 * q + j) = 0
  · simp only [pc224_0, pc224_2, pc224_3, pc224_4, pc224_5, pc224_6, pc224_8, pc224_8n, pc224_9, pc224_12, pc224_14, pc224_15, pc224_18, pc224_18n, pc224_19, pc224_22, pc224_24, pc224_25, pc224_26, pc224_27, px_op_some, px_kv_ap, px_ki_ap, px_kl_ap, px_kn_ap, px_kh_ap, px_op_none, px_K_some, px_K_none, px_K_thr, px_kill, ↓reduceIte, if_true, if_false, true_and, and_true, px_gf, px_pf, px_ai, px_aj, px_aa, px_wi, px_wj, px_wa, px_an, px_cls, h6, hT, hG, mf_10, mf_9, tg_b3, m8, nI_add, i16, c16, and_self, e]
    exact main (fun z => z.1 e)
  · by_cases e2 : G (8 * q + j) = v
    · simp only [pc224_0, pc224_2, pc224_3, pc224_4, pc224_5, pc224_6, pc224_8, pc224_8n, pc224_9, pc224_12, pc224_14, pc224_15, pc224_18, pc224_18n, pc224_19, pc224_22, pc224_24, pc224_25, pc224_26, pc224_27, pc224_30, pc224_31, px_op_some, px_kv_ap, px_ki_ap, px_kl_ap, px_kn_ap, px_kh_ap, px_op_none, px_K_some, px_K_none, px_K_thr, px_kill, ↓reduceIte, if_true, if_false, true_and, and_true, px_gf, px_pf, px_ai, px_aj, px_aa, px_wi, px_wj, px_wa, px_an, px_cls, h6, hT, hG, mf_10, mf_9, tg_b3, m8, nI_add, i16, c16, and_self, e, lgc_0, e2, nar_1, not_true_eq_false]
      exact hQS e e2
    · simp only [pc224_0, pc224_2, pc224_3, pc224_4, pc224_5, pc224_6, pc224_8, pc224_8n, pc224_9, pc224_12, pc224_14, pc224_15, pc224_18, pc224_18n, pc224_19, pc224_22, pc224_24, pc224_25, pc224_26, pc224_27, px_op_some, px_kv_ap, px_ki_ap, px_kl_ap, px_kn_ap, px_kh_ap, px_op_none, px_K_some, px_K_none, px_K_thr, px_kill, ↓reduceIte, if_true, if_false, true_and, and_true, px_gf, px_pf, px_ai, px_aj, px_aa, px_wi, px_wj, px_wa, px_an, px_cls, h6, hT, hG, mf_10, mf_9, tg_b3, m8, nI_add, i16, c16, and_self, e, lgc_0, e2, not_false_eq_true]
      exact main (fun z => e2 z.2)
end MTELL
