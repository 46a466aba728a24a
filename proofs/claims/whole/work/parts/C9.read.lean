/-! THE JOURNAL READ, the reference's: the loop, the whole -/
section RDL
variable {sx : Nat × (Nat → Int32)} {h h0 : px_H} {q N lim z : Nat} {hs : Nat → yS} {V V0 row J : Nat → Int32} {Q : px_O → px_H → Prop}
/-- where reading has come to -/
def rdS (h0 h : px_H) (q : Nat) (S : yS) (J V0 : Nat → Int32) : Prop := RYb h q S ∧ othB h0 h q ∧ frm rbA h0 h ∧ (shape h0 → shape h) ∧ ∃ V, h.2[619]? = some (.inl (11, modF V)) ∧ vSame V0 V
set_option maxRecDepth 16384 in
theorem rd_out {S : yS} {V' row' : Nat → Int32} (r : rdS h0 h q S J V0) (hv : vSame V0 V') (hl : 668 < h.2.length) : rdS h0 (outH h V' row') q S J V0 := by
  obtain ⟨a, b, c, d, V, e, f⟩ := r
  refine ⟨RYb_frm a (fun r a b => outH_at (by omega) (by omega)), othB_trans b (fun q2 S2 _ _ _ x => RYb_frm x (fun r a b => outH_at (by omega) (by omega))), frm_trans c (frm_wr (frm_wr (frm_refl _ _) (.inr (.inl rfl))) (.inl rfl)), fun hS => ?_, V', outH_o (by omega), hv⟩
  have s := d hS
  unfold outH; refine shape_wr (shape_wr s ?_) ?_ <;> rfl
set_option maxRecDepth 16384 in
theorem rd_loop (hh : hist hs N) (hq : q < 2) (hS0 : shape h0) (hlim : lim ≤ yR (hs N)) (hJ0 : h0.2[632]? = some (.inr (1, 80000, .inl J))) (hbv : ∀ j, j < lim → J (40000 * q + j) = nI (trn (jN (hs N)) z j))
    (hQ : ∀ i h', stopR hs N lim z i → rdS h0 h' q (hs i) J V0 → Q (.inl (some (.int (nI (yR (hs i)))))) h') :
    ∀ n i, i + n = N → (∀ k, k < i → okR hs lim z k) → ∀ h, rdS h0 h q (hs i) J V0 → ∀ l5 l6 l7 l8, px_Wp sx 238 13 [some (.ref 619), some (.int (nI q)), some (.int (nI lim)), some (.int (nI (40000 * q))), some (.int (nI (yR (hs i)))), l5, l6, l7, l8] [] h Q := by
  have gN := (hist_good hh N (Nat.le_refl _)).1
  have h4 : lim ≤ 40000 := Nat.le_trans hlim gN.1
  have bvk : ∀ j, j < lim → J (40000 * q + j) = nI (trn (jN (hs N)) z j) ∧ trn (jN (hs N)) z j < 256 := fun j hj => ⟨hbv j hj, by
    have := (jN_ok gN (j := j) (by omega)).2
    unfold trn; split <;> omega⟩
  intro n
  induction n with
  | zero =>
    intro i hi hk h rd l5 l6 l7 l8
    have hi : i = N := by omega
    subst hi
    have ol := ok_le hh i (Nat.le_refl _) hk
    have gt : nI lim < nI (yR (hs i) + 6) := nI_lt (by omega) (by omega)
    have e6 : nI (yR (hs i)) + 6 = nI (yR (hs i) + 6) := nI_add _ 6
    simp only [pc238_13, pc238_15, pc238_17, pc238_18, pc238_19, pc238_248, pc238_250, e6, if_pos gt]
    exact hQ i h ⟨Nat.le_refl _, hk, .inl rfl⟩ rd
  | succ n ih =>
    intro i hi hk h rd l5 l6 l7 l8
    have ol := ok_le hh i (by omega) hk
    have e6 : nI (yR (hs i)) + 6 = nI (yR (hs i) + 6) := nI_add _ 6
    obtain ⟨kd, m, d, w⟩ := stp_wr (hh.2 i (by omega))
    have w1 := w.1
    have oi := okR_iff (bv := trn (jN (hs N)) z) (lim := lim) (z := z) hh (i := i) (by omega) hlim (fun _ _ => rfl)
    by_cases c1 : lim < yR (hs i) + 6
    · have gt : nI lim < nI (yR (hs i) + 6) := nI_lt c1 (by omega)
      have nk : ¬ okR hs lim z i := fun o => by have := o.1; omega
      simp only [pc238_13, pc238_15, pc238_17, pc238_18, pc238_19, pc238_248, pc238_250, e6, if_pos gt]
      exact hQ i h ⟨by omega, hk, .inr nk⟩ rd
    · have ngt : ¬ nI lim < nI (yR (hs i) + 6) := nI_nlt (by omega) (by omega)
      have rd' := rd
      obtain ⟨ra, rb, rc, rs, V, h6, hv⟩ := rd
      have hS := rs hS0
      have hlen : 668 < h.2.length := by have := hS.1; omega
      have hJ : h.2[632]? = some (.inr (1, 80000, .inl J)) := frm_at rc (by unfold rbA; omega) hJ0
      generalize hp : yR (hs i) = p at *
      generalize hbb : trn (jN (hs N)) z = bv at *
      have x1 := bvk (p + 1) (by omega)
      have x2 := bvk (p + 2) (by omega)
      have x3 := bvk (p + 3) (by omega)
      have x4 := bvk (p + 4) (by omega)
      have i1 : px_in (nI (40000 * q + p + 1)) 80000 = true := px_inb (by omega) (by decide)
      have k1 : (nI (40000 * q + p + 1)).toNatClampNeg = 40000 * q + p + 1 := nI_clamp (by omega)
      have i2 : px_in (nI (40000 * q + p + 2)) 80000 = true := px_inb (by omega) (by decide)
      have k2 : (nI (40000 * q + p + 2)).toNatClampNeg = 40000 * q + p + 2 := nI_clamp (by omega)
      have i3 : px_in (nI (40000 * q + p + 3)) 80000 = true := px_inb (by omega) (by decide)
      have k3 : (nI (40000 * q + p + 3)).toNatClampNeg = 40000 * q + p + 3 := nI_clamp (by omega)
      have i4 : px_in (nI (40000 * q + p + 4)) 80000 = true := px_inb (by omega) (by decide)
      have k4 : (nI (40000 * q + p + 4)).toNatClampNeg = 40000 * q + p + 4 := nI_clamp (by omega)
      have y1 : J (40000 * q + p + 1) = nI (bv (p + 1)) := by rw [Nat.add_assoc]; exact x1.1
      have y2 : J (40000 * q + p + 2) = nI (bv (p + 2)) := by rw [Nat.add_assoc]; exact x2.1
      have y3 : J (40000 * q + p + 3) = nI (bv (p + 3)) := by rw [Nat.add_assoc]; exact x3.1
      have y4 : J (40000 * q + p + 4) = nI (bv (p + 4)) := by rw [Nat.add_assoc]; exact x4.1
      have m1 : (256 : Int32) * nI (bv (p + 2)) = nI (256 * bv (p + 2)) := nI_mul 256 _
      have m2 : (256 : Int32) * nI (bv (p + 4)) = nI (256 * bv (p + 4)) := nI_mul 256 _
      rw [pc238_13]
      generalize hc : bv (p + 1) + 256 * bv (p + 2) = c at *
      have hc6 : c < 65536 := by have := x1.2; have := x2.2; omega
      have e7 : nI (p + 6) + nI c = nI (p + 6 + c) := nI_add _ _
      by_cases c2 : lim < p + 6 + c
      · have gt2 : nI lim < nI (p + 6 + c) := nI_lt c2 (by omega)
        simp only [pc238_15, pc238_17, pc238_18, pc238_19, pc238_22, pc238_22n, pc238_23, pc238_26, pc238_27, pc238_29, pc238_30, pc238_31, pc238_32, pc238_33, pc238_36, pc238_36n, pc238_37, pc238_40, pc238_41, pc238_43, pc238_44, pc238_45, pc238_46, pc238_47, pc238_48, pc238_49, pc238_51, pc238_53, pc238_55, pc238_56, pc238_58, pc238_59, pc238_60, pc238_95, pc238_97, px_op_some, px_kv_ap, px_ki_ap, px_kl_ap, px_kn_ap, px_kh_ap, px_op_none, px_K_some, px_K_none, px_K_thr, px_kill, ↓reduceIte, if_true, if_false, true_and, and_true, px_gf, px_pf, px_ai, px_aj, px_aa, px_wi, px_wj, px_wa, px_an, px_cls, px_kill, tg_i1, e6, if_neg ngt, h6, hJ, mf_14, nI_p1, nI_p2, nI_add, i1, k1, i2, k2, y1, y2, m1, hc, and_self, if_pos gt2]
        rw [← hp]
        refine hQ i h ⟨by omega, hk, .inr (fun o => ?_)⟩ rd'
        obtain ⟨c', o1, -⟩ := oi.2 o
        have := o1.1
        have := o1.2.1
        omega
      · have ngt2 : ¬ nI lim < nI (p + 6 + c) := nI_nlt (by omega) (by omega)
        by_cases c3 : c = bv (p + 3) + 256 * bv (p + 4)
        · have hw : px_wr h 619 (.inl (11, modF (px_up V 17 0))) = outH h (px_up V 17 (nI 0)) (iA h 636) := (outH_w (at_636 hS)).symm
          simp only [pc238_15, pc238_17, pc238_18, pc238_19, pc238_22, pc238_22n, pc238_23, pc238_26, pc238_27, pc238_29, pc238_30, pc238_31, pc238_32, pc238_33, pc238_36, pc238_36n, pc238_37, pc238_40, pc238_41, pc238_43, pc238_44, pc238_45, pc238_46, pc238_47, pc238_48, pc238_49, pc238_51, pc238_53, pc238_55, pc238_56, pc238_58, pc238_59, pc238_60, pc238_63, pc238_65, pc238_65n, pc238_66, pc238_69, pc238_70, pc238_72, pc238_73, pc238_74, pc238_75, pc238_76, pc238_79, pc238_79n, pc238_80, pc238_83, pc238_84, pc238_86, pc238_87, pc238_88, pc238_89, pc238_90, pc238_91, pc238_92, pc238_98, pc238_99, pc238_101, pc238_101n, pc238_102, pc238_103, pc238_106, pc238_107, px_op_some, px_kv_ap, px_ki_ap, px_kl_ap, px_kn_ap, px_kh_ap, px_op_none, px_K_some, px_K_none, px_K_thr, px_kill, ↓reduceIte, if_true, if_false, true_and, and_true, px_gf, px_pf, px_ai, px_aj, px_aa, px_wi, px_wj, px_wa, px_an, px_cls, px_kill, tg_i1, e6, if_neg ngt, h6, hJ, mf_14, nI_p1, nI_p2, nI_p3, nI_p4, nI_add, i1, k1, i2, k2, i3, k3, i4, k4, y1, y2, y3, y4, m1, m2, hc, ← c3, and_self, if_neg ngt2, mf_len, mfs_17, px_fit, Nat.reduceLT, hw]
          have r6 : ∀ v r, (outH h v r).2[619]? = some (.inl (11, modF v)) := fun v r => outH_o (by omega)
          have rJ : ∀ v r, (outH h v r).2[632]? = some (.inr (1, 80000, .inl J)) := fun v r => by rw [outH_at (by decide) (by decide)]; exact hJ
          refine rj_sum (bv := bv) (l8 := l8) hq (r6 _ _) (rJ _ _) (fun j hj => (bvk j hj).1) (by omega) h4 ?_ (5 + c) 0 (by omega)
          have x5 := bvk (p + 5 + c) (by omega)
          have i5 : px_in (nI (40000 * q + p + 5 + c)) 80000 = true := px_inb (by omega) (by decide)
          have k5 : (nI (40000 * q + p + 5 + c)).toNatClampNeg = 40000 * q + p + 5 + c := nI_clamp (by omega)
          have y5 : J (40000 * q + p + 5 + c) = nI (bv (p + 5 + c)) := by rw [← x5.1]; exact congrArg J (by omega)
          have b5 := x5.2
          have nin := nI_inj (a := sumN bv p (5 + c) % 256) (b := bv (p + 5 + c)) (by omega) (by omega)
          by_cases c4 : sumN bv p (5 + c) % 256 = bv (p + 5 + c)
          · have ok : rOK lim bv p c := ⟨by omega, hc, c3.symm, c4⟩
            obtain ⟨o1, o2⟩ := oi.1 c ok
            have em : m = c := by omega
            subst em
            simp only [pc238_141, pc238_143, pc238_146, pc238_147, pc238_147n, pc238_148, pc238_151, pc238_152, pc238_154, pc238_155, pc238_156, pc238_157, pc238_159, pc238_160, pc238_161, pc238_164, pc238_165, pc238_168, pc238_169, pc238_171, pc238_172, px_op_some, px_kv_ap, px_ki_ap, px_kl_ap, px_kn_ap, px_kh_ap, px_op_none, px_K_some, px_K_none, px_K_thr, px_kill, ↓reduceIte, if_true, if_false, true_and, and_true, px_gf, px_pf, px_ai, px_aj, px_aa, px_wi, px_wj, px_wa, px_an, px_cls, px_kill, tg_i1, r6, rJ, mf_14, nI_p5, nI_add, i5, k5, y5, and_self, nI_255, nin, c4, not_true_eq_false]
            refine rj_emit (V := V) (bv := bv) hlen hq hJ bvk (by omega) h4 (fun row' hrow => ?_) m 0 (by omega) _ (fun i hi => absurd hi (Nat.not_lt_zero i))
            have x0 := bvk p (by omega)
            have i0 : px_in (nI (40000 * q + p)) 80000 = true := px_inb (by omega) (by decide)
            have k0 : (nI (40000 * q + p)).toNatClampNeg = 40000 * q + p := nI_clamp (by omega)
            have hcls : px_cls (outH h (px_up V 17 (nI m)) row') 619 = some 11 := by unfold px_cls; rw [r6]
            simp only [pc238_210, pc238_212, pc238_215, pc238_215n, pc238_216, pc238_217, pc238_217n, pc238_218, pc238_221, pc238_222, pc238_224, pc238_225, pc238_226, px_op_some, px_kv_ap, px_ki_ap, px_kl_ap, px_kn_ap, px_kh_ap, px_op_none, px_K_some, px_K_none, px_K_thr, px_kill, ↓reduceIte, if_true, if_false, true_and, and_true, px_gf, px_pf, px_ai, px_aj, px_aa, px_wi, px_wj, px_wa, px_an, px_cls, px_kill, tg_i1, r6, rJ, mf_14, ne_1_0, nI_add, i0, k0, x0.1, and_self, hcls]
            have le := hist_le hh (N - (i + 1)) (i + 1) (by omega)
            rw [show i + 1 + (N - (i + 1)) = N by omega] at le
            have ob := o1.2
            rw [hp] at ob
            have bvj : ∀ j, p ≤ j → j < yR (hs (i + 1)) → nI (bv j) = yJ (hs (i + 1)) j := fun j h1 h2 => by
              rw [← hbb, trn_ne (by omega), ← le.2 j h2, ← (jN_ok gN (j := j) (by omega)).1]
            have rdo := rd_out (J := J) (V' := px_up V 17 (nI m)) (row' := row') rd' (fun k hk => (up_ne hk).trans (hv k hk)) hlen
            refine m_act (S := hs i) (m := m) (V := px_up V 17 (nI m)) (row := row') (d := row') (by rw [outH_len]; exact hlen) hq (hh.2 i (by omega)) (hist_good hh i (by omega)) rdo.1 (r6 _ _) (outH_r (by omega)) (up_same _ _ _) (by omega) (by rw [hp]; exact (bvj p (Nat.le_refl _) (by omega)).symm) x0.2 (fun k hk => by rw [hrow k hk, hp]; exact bvj _ (by omega) (by omega)) (fun h' ac => ?_)
            obtain ⟨c1, c2, c3', c4', V', c5, c6⟩ := ac
            have e8 : nI p + 6 + nI m = nI (yR (hs (i + 1))) := by rw [e6, nI_add]; exact congrArg nI (by omega)
            simp only [px_K_some, pc238_229, pc238_232, pc238_234, pc238_235, pc238_237, pc238_239, pc238_240, pc238_242, pc238_243, pc238_245, px_kill, ne_1_0, not_false_eq_true, if_true, e8]
            refine ih (i + 1) (by omega) (fun k hk' => ?_) h' ⟨c1, othB_trans rdo.2.1 c2, frm_trans rdo.2.2.1 c3', fun s => c4' (rdo.2.2.2.1 s), V', c5, fun k hk => (c6 k hk).trans ((up_ne hk).trans (hv k hk))⟩ _ _ _ _
            by_cases e : k = i
            · subst e; exact o1
            · exact hk k (by omega)
          · simp only [pc238_141, pc238_143, pc238_146, pc238_147, pc238_147n, pc238_148, pc238_151, pc238_152, pc238_154, pc238_155, pc238_156, pc238_157, pc238_159, pc238_160, pc238_161, pc238_164, pc238_165, pc238_168, pc238_169, pc238_171, pc238_172, pc238_174, pc238_176, pc238_178, pc238_181, pc238_183, pc238_210, pc238_212, pc238_232, pc238_234, px_op_some, px_kv_ap, px_ki_ap, px_kl_ap, px_kn_ap, px_kh_ap, px_op_none, px_K_some, px_K_none, px_K_thr, px_kill, ↓reduceIte, if_true, if_false, true_and, and_true, px_gf, px_pf, px_ai, px_aj, px_aa, px_wi, px_wj, px_wa, px_an, px_cls, px_kill, tg_i1, r6, rJ, mf_14, nI_p5, nI_add, i5, k5, y5, and_self, nI_255, nin, c4, not_false_eq_true]
            have nk : ¬ okR hs lim z i := fun o => by
              obtain ⟨c', o1, -⟩ := oi.2 o
              have e : c' = c := by have := o1.2.1; omega
              subst e
              exact c4 o1.2.2.2
            have fin : Q (.inl (some (.int (nI p)))) (outH h (px_up V 17 (nI 0)) (iA h 636)) := by
              rw [← hp]
              exact hQ i _ ⟨by omega, hk, .inr nk⟩ (rd_out rd' (fun k hk => (up_ne hk).trans (hv k hk)) hlen)
            by_cases c0 : c = 0
            · have e0 : nI c ≤ (0 : Int32) := by rw [c0]; exact Int32.le_refl _
              simp only [if_pos e0]
              exact fin
            · have e0 : ¬ nI c ≤ (0 : Int32) := nI_ge (a := 0) (b := c) (by omega) (by omega)
              simp only [if_neg e0]
              exact fin
        · have nin := nI_inj (a := c) (b := bv (p + 3) + 256 * bv (p + 4)) (by omega) (by have := x3.2; have := x4.2; omega)
          simp only [pc238_15, pc238_17, pc238_18, pc238_19, pc238_22, pc238_22n, pc238_23, pc238_26, pc238_27, pc238_29, pc238_30, pc238_31, pc238_32, pc238_33, pc238_36, pc238_36n, pc238_37, pc238_40, pc238_41, pc238_43, pc238_44, pc238_45, pc238_46, pc238_47, pc238_48, pc238_49, pc238_51, pc238_53, pc238_55, pc238_56, pc238_58, pc238_59, pc238_60, pc238_63, pc238_65, pc238_65n, pc238_66, pc238_69, pc238_70, pc238_72, pc238_73, pc238_74, pc238_75, pc238_76, pc238_79, pc238_79n, pc238_80, pc238_83, pc238_84, pc238_86, pc238_87, pc238_88, pc238_89, pc238_90, pc238_91, pc238_92, pc238_95, pc238_97, px_op_some, px_kv_ap, px_ki_ap, px_kl_ap, px_kn_ap, px_kh_ap, px_op_none, px_K_some, px_K_none, px_K_thr, px_kill, ↓reduceIte, if_true, if_false, true_and, and_true, px_gf, px_pf, px_ai, px_aj, px_aa, px_wi, px_wj, px_wa, px_an, px_cls, px_kill, tg_i1, e6, if_neg ngt, h6, hJ, mf_14, nI_p1, nI_p2, nI_p3, nI_p4, nI_add, i1, k1, i2, k2, i3, k3, i4, k4, y1, y2, y3, y4, m1, m2, hc, and_self, if_neg ngt2, nin, c3]
          rw [← hp]
          refine hQ i h ⟨by omega, hk, .inr (fun o => ?_)⟩ rd'
          obtain ⟨c', o1, -⟩ := oi.2 o
          have := o1.2.1
          have := o1.2.2.1
          omega
end RDL
