/-! A BLOB INTO THE REFERENCE'S ROW; INTO A TRANSFER'S ROW -/
section RFB
variable {sx : Nat × (Nat → Int32)} {h : px_H} {q k u l : Nat} {V row fr sz bt bb : Nat → Int32} {Q : px_O → px_H → Prop}
set_option maxRecDepth 16384 in
theorem m_rfb_l {row0 : Nat → Int32} (hl : 668 < h.2.length) (hq : q < 2) (hk : k < 61) (h624 : h.2[624]? = some (.inr (1, 122, .inl sz))) (h625 : h.2[625]? = some (.inr (1, 80000, .inl bt))) (hsz : sz (61 * q + k) = nI l) (hul : u + l ≤ 40000) (hb : ∀ m, m < l → bt (40000 * q + u + m) &&& 255 = bb m)
    (hQ : ∀ row', wroteM row0 row' 0 bb l → Q (.inl none) (outH h (px_up V 17 (nI l)) row')) :
    ∀ n m, m + n = l → ∀ row, wroteM row0 row 0 bb m → px_Wp sx 175 25 [some (.ref 619), some (.int (nI q)), some (.int (nI k)), some (.int (nI (40000 * q + u))), some (.int (nI m))] [] (outH h (px_up V 17 (nI m)) row) Q := by
  have ik : px_in (nI (61 * q + k)) 122 = true := px_inb (by omega) (by decide)
  have ck : (nI (61 * q + k)).toNatClampNeg = 61 * q + k := nI_clamp (by omega)
  have r4 : ∀ v r, (outH h v r).2[624]? = some (.inr (1, 122, .inl sz)) := fun v r => by rw [outH_at (by decide) (by decide)]; exact h624
  have r5 : ∀ v r, (outH h v r).2[625]? = some (.inr (1, 80000, .inl bt)) := fun v r => by rw [outH_at (by decide) (by decide)]; exact h625
  have r6 : ∀ v r, (outH h v r).2[619]? = some (.inl (11, modF v)) := fun v r => outH_o (by omega)
  have hc : ∀ v r, px_cls (outH h v r) 619 = some 11 := fun v r => by unfold px_cls; rw [r6]
  intro n
  induction n with
  | zero =>
    intro m hm row w
    have hm : m = l := by omega
    subst hm
    simp only [pc175_25, pc175_27, pc175_27n, pc175_28, pc175_31, pc175_33, pc175_34, pc175_35, pc175_36, pc175_37, pc175_38, pc175_60, px_op_some, px_kv_ap, px_ki_ap, px_kl_ap, px_kn_ap, px_kh_ap, px_op_none, px_K_some, px_K_none, px_K_thr, px_kill, ↓reduceIte, if_true, if_false, true_and, and_true, px_gf, px_ai, tg_i1, r6, r4, mf_6, mul_61 hq, nI_add, ik, ck, hsz, and_self, if_pos (Int32.le_refl (nI m))]
    exact hQ row w
  | succ n ih =>
    intro m hm row w
    have hge : ¬ nI l ≤ nI m := nI_ge (by omega) (by omega)
    have ib : px_in (nI (40000 * q + u + m)) 80000 = true := px_inb (by omega) (by decide)
    have cb : (nI (40000 * q + u + m)).toNatClampNeg = 40000 * q + u + m := nI_clamp (by omega)
    rw [pc175_25]
    simp only [pc175_27, pc175_27n, pc175_28, pc175_31, pc175_33, pc175_34, pc175_35, pc175_36, pc175_37, pc175_38, pc175_41, pc175_41n, pc175_42, pc175_42n, pc175_43, pc175_46, pc175_47, pc175_49, pc175_50, pc175_51, px_op_some, px_kv_ap, px_ki_ap, px_kl_ap, px_kn_ap, px_kh_ap, px_op_none, px_K_some, px_K_none, px_K_thr, px_kill, ↓reduceIte, if_true, if_false, true_and, and_true, px_gf, px_ai, tg_i1, r6, r4, r5, mf_6, mf_7, mul_61 hq, nI_add, ik, ck, hsz, and_self, if_neg hge, ib, cb, hc]
    refine m_emit (by omega) (up_same _ _ _) (by omega) ?_
    simp only [px_K_none, pc175_54, pc175_57, px_kill, nI_1, up_up]
    refine ih (m + 1) (by omega) _ ?_
    have := wroteM_up (x := bt (40000 * q + u + m) &&& 255) w (hb m (by omega))
    rw [Nat.zero_add] at this
    exact this
set_option maxRecDepth 16384 in
theorem m_rowFromBlob (hl : 668 < h.2.length) (hq : q < 2) (hk : k < 61) (h6 : h.2[619]? = some (.inl (11, modF V))) (hr : h.2[636]? = some (.inr (1, 40100, .inl row))) (h623 : h.2[623]? = some (.inr (1, 122, .inl fr))) (h624 : h.2[624]? = some (.inr (1, 122, .inl sz))) (h625 : h.2[625]? = some (.inr (1, 80000, .inl bt))) (hfr : fr (61 * q + k) = nI u) (hsz : sz (61 * q + k) = nI l) (hul : u + l ≤ 40000) (hb : ∀ m, m < l → bt (40000 * q + u + m) &&& 255 = bb m)
    (hQ : ∀ row', wroteM row row' 0 bb l → Q (.inl none) (outH h (px_up V 17 (nI l)) row')) :
    px_Wp sx 175 0 [some (.ref 619), some (.int (nI q)), some (.int (nI k)), none, none] [] h Q := by
  have ik : px_in (nI (61 * q + k)) 122 = true := px_inb (by omega) (by decide)
  have ck : (nI (61 * q + k)).toNatClampNeg = 61 * q + k := nI_clamp (by omega)
  have e0 : px_wr h 619 (.inl (11, modF (px_up V 17 0))) = outH h (px_up V 17 0) row := (outH_w hr).symm
  have r3 : (outH h (px_up V 17 0) row).2[623]? = some (.inr (1, 122, .inl fr)) := by rw [outH_at (by decide) (by decide)]; exact h623
  have r6 : (outH h (px_up V 17 0) row).2[619]? = some (.inl (11, modF (px_up V 17 0))) := outH_o (by omega)
  simp only [pc175_0, pc175_0n, pc175_1, pc175_2, pc175_5, pc175_7, pc175_8, pc175_9, pc175_9n, pc175_10, pc175_13, pc175_15, pc175_16, pc175_17, pc175_18, pc175_19, pc175_20, pc175_21, pc175_22, pc175_23, px_op_some, px_kv_ap, px_ki_ap, px_kl_ap, px_kn_ap, px_kh_ap, px_op_none, px_K_some, px_K_none, px_K_thr, px_kill, ↓reduceIte, if_true, if_false, true_and, and_true, px_gf, px_pf, px_ai, tg_i1, h6, mf_len, mfs_17, px_fit, Nat.reduceLT, and_self, e0, r6, r3, mf_5, mul_40000 hq, mul_61 hq, nI_add, ik, ck, hfr]
  exact m_rfb_l hl hq hk h624 h625 hsz hul hb hQ l 0 (by omega) row (wroteM_0 row _ _)
end RFB
