/-! ENV, the reference's -/
def wrF (A : Nat → Int32) (to c : Nat) (src : Nat → Int32) : Nat → Int32 := fun x => if to ≤ x ∧ x < to + c then src (x - to) else A x
set_option maxRecDepth 16384 in
theorem wrF_0 {A src : Nat → Int32} {to : Nat} : wrF A to 0 src = A := funext fun x => if_neg (by omega)
set_option maxRecDepth 16384 in
theorem wrF_s {A src : Nat → Int32} {to c : Nat} : px_up (wrF A to c src) (to + c) (src c) = wrF A to (c + 1) src := by
  funext x
  by_cases e : x = to + c
  · subst e
    rw [up_same]
    unfold wrF
    rw [if_pos ⟨by omega, by omega⟩, Nat.add_sub_cancel_left]
  · rw [up_ne e]
    unfold wrF
    by_cases y : to ≤ x ∧ x < to + c
    · rw [if_pos y, if_pos ⟨y.1, by omega⟩]
    · rw [if_neg y, if_neg (fun z => y ⟨z.1, by omega⟩)]
set_option maxRecDepth 16384 in
theorem wrF_out {A src : Nat → Int32} {to c x : Nat} (h : ¬ (to ≤ x ∧ x < to + c)) : wrF A to c src x = A x := if_neg h
set_option maxRecDepth 16384 in
theorem wrF_in {A src : Nat → Int32} {to c k : Nat} (h : k < c) : wrF A to c src (to + k) = src k := by
  unfold wrF; rw [if_pos ⟨by omega, by omega⟩, Nat.add_sub_cancel_left]
set_option maxRecDepth 16384 in
theorem st_shift {NM NS VL VS : Nat → Int32} {m : aM} {u a : Nat} (h : stR NM NS VL VS m u a) (hl : iNl m a ≤ 8 ∧ iVl m a ≤ 12) : stR (cpF NM (8 * u + 8) (8 * u) 8) (px_up NS (u + 1) (NS u)) (cpF VL (12 * u + 12) (12 * u) 12) (px_up VS (u + 1) (VS u)) m (u + 1) a := by
  obtain ⟨h1, h2, h3, h4⟩ := h
  refine ⟨by rw [up_same]; exact h1, by rw [up_same]; exact h2, fun k hk => ?_, fun k hk => ?_⟩
  · rw [show 8 * (u + 1) + k = 8 * u + 8 + k by omega, cpF_in (by omega)]; exact h3 k hk
  · rw [show 12 * (u + 1) + k = 12 * u + 12 + k by omega, cpF_in (by omega)]; exact h4 k hk
set_option maxRecDepth 16384 in
theorem st_shift2 {NM NS VL VS : Nat → Int32} {m : aM} {u a j : Nat} (h : stR NM NS VL VS m j a) (hl : iNl m a ≤ 8 ∧ iVl m a ≤ 12) (hj : j ≠ u + 1) : stR (cpF NM (8 * u + 8) (8 * u) 8) (px_up NS (u + 1) (NS u)) (cpF VL (12 * u + 12) (12 * u) 12) (px_up VS (u + 1) (VS u)) m j a := by
  obtain ⟨h1, h2, h3, h4⟩ := h
  refine ⟨by rw [up_ne hj]; exact h1, by rw [up_ne hj]; exact h2, fun k hk => ?_, fun k hk => ?_⟩
  · rw [cpF_out (by omega)]; exact h3 k hk
  · rw [cpF_out (by omega)]; exact h4 k hk
section MSET2
variable {sx : Nat × (Nat → Int32)} {h h0 : px_H} {V NM NS VL VS g : Nat → Int32} {L : Nat → Int64} {n s c e t : Nat} {B : Nat → Nat} {m : aM} {Q : px_O → px_H → Prop}
set_option maxRecDepth 16384 in
theorem m_set_v {l1 : Option Value} {l5 : Option Value} (w : mtS h0 h V L NM NS VL VS) (ht : t < 7) (hA : h0.2[620]? = some (.inr (1, 600, .inl g))) (hB : txM g n B) (hn : n ≤ 600) (hs : s + 1 ≤ e) (he : e ≤ n) (h13 : e ≤ s + 13)
    (hQ : ∀ h2, mtS h0 h2 V L NM NS (wrF VL (12 * t) (e - (s + 1)) (fun j => nI (B (s + 1 + j)))) (px_up VS t (nI (e - (s + 1)))) → Q (.inl none) h2) :
    px_Wp sx 163 134 [some (.ref 619), l1, some (.int (nI s)), some (.int (nI e)), some (.int (nI t)), l5] [] h Q := by
  have loop : ∀ d k, k + d = e - (s + 1) → ∀ h2, mtS h0 h2 V L NM NS (wrF VL (12 * t) k (fun j => nI (B (s + 1 + j)))) (px_up VS t (nI (e - (s + 1)))) → px_Wp sx 163 151 [some (.ref 619), l1, some (.int (nI s)), some (.int (nI e)), some (.int (nI t)), some (.int (nI (s + 1 + k)))] [] h2 Q := by
    intro d
    induction d with
    | zero =>
      intro k hk h2 w2
      have hk : k = e - (s + 1) := by omega
      subst hk
      have le : nI e ≤ nI (s + 1 + (e - (s + 1))) := nI_le (by omega) (by omega)
      simp only [pc163_151, pc163_153, pc163_154, pc163_187, px_op_some, px_kv_ap, px_ki_ap, px_kl_ap, px_kn_ap, px_kh_ap, px_op_none, px_K_some, px_K_none, px_K_thr, px_kill, ↓reduceIte, if_true, if_false, true_and, and_true, le]
      exact hQ h2 w2
    | succ d ih =>
      intro k hk h2 w2
      have w2' := w2
      obtain ⟨a1, a2, a3, bL, bNM, bNS, bVL, bVS⟩ := w2'
      have ge : ¬ nI e ≤ nI (s + 1 + k) := nI_ge (by omega) (by omega)
      have e1 : nI (12 * t) + nI (s + 1 + k) - nI s - 1 = nI (12 * t + k) := by
        rw [nI_add, nI_sub (by omega), show nI (12 * t + (s + 1 + k) - s) - 1 = nI (12 * t + (s + 1 + k) - s - 1) from nI_sub (b := 1) (by omega), show 12 * t + (s + 1 + k) - s - 1 = 12 * t + k by omega]
      have i1 : px_in (nI (12 * t + k)) 84 = true := px_inb (by omega) (by decide)
      have j1 : (nI (12 * t + k)).toNatClampNeg = 12 * t + k := nI_clamp (by omega)
      have i2 : px_in (nI (s + 1 + k)) 600 = true := px_inb (by omega) (by decide)
      have j2 : (nI (s + 1 + k)).toNatClampNeg = s + 1 + k := nI_clamp (by omega)
      have hA2 : h2.2[620]? = some (.inr (1, 600, .inl g)) := frm_at a1 (by unfold mtA; omega) hA
      have gv := (hB (s + 1 + k) (by omega)).1
      rw [pc163_151]
      simp only [pc163_153, pc163_154, pc163_157, pc163_157n, pc163_158, pc163_161, pc163_163, pc163_165, pc163_166, pc163_168, pc163_169, pc163_170, pc163_171, pc163_172, pc163_173, pc163_173n, pc163_174, pc163_177, pc163_179, pc163_180, pc163_181, pc163_184, px_op_some, px_kv_ap, px_ki_ap, px_kl_ap, px_kn_ap, px_kh_ap, px_op_none, px_K_some, px_K_none, px_K_thr, px_kill, ↓reduceIte, if_true, if_false, true_and, and_true, px_gf, px_ai, px_wi, a3, bVL, hA2, mf_1, mf_41, ge, mul_12n, e1, i1, j1, i2, j2, gv, tg_i1, and_self, px_fit, nar1, px_kill, nI_p1]
      have st := wrF_s (A := VL) (to := 12 * t) (c := k) (src := fun j => nI (B (s + 1 + j)))
      rw [st]
      exact ih (k + 1) (by omega) _ (mtS_VL w2)
  have w' := w
  obtain ⟨a1, a2, a3, bL, bNM, bNS, bVL, bVS⟩ := w'
  have i1 : px_in (nI t) 7 = true := px_inb (by omega) (by decide)
  have j1 : (nI t).toNatClampNeg = t := nI_clamp (by omega)
  have e2 : nI e - nI s - 1 = nI (e - (s + 1)) := by
    rw [nI_sub (by omega), show nI (e - s) - 1 = nI (e - s - 1) from nI_sub (b := 1) (by omega), show e - s - 1 = e - (s + 1) by omega]
  simp only [pc163_134, pc163_134n, pc163_135, pc163_138, pc163_140, pc163_141, pc163_142, pc163_143, pc163_144, pc163_145, pc163_146, pc163_147, pc163_148, pc163_149, px_op_some, px_kv_ap, px_ki_ap, px_kl_ap, px_kn_ap, px_kh_ap, px_op_none, px_K_some, px_K_none, px_K_thr, px_kill, ↓reduceIte, if_true, if_false, true_and, and_true, px_gf, px_ai, px_wi, a3, bVS, mf_42, e2, i1, j1, tg_i1, and_self, px_fit, nar1, px_kill, nI_p1]
  exact loop (e - (s + 1)) 0 (by omega) _ (by rw [wrF_0]; exact mtS_VS w)
set_option maxRecDepth 16384 in
theorem m_set_n {l3 : Option Value} {l5 : Option Value} (w : mtS h0 h V L NM NS VL VS) (hv : V 38 = nI t) (hs : s < 7) (ht : t < 6) (hA : h0.2[620]? = some (.inr (1, 600, .inl g))) (hB : txM g n B) (hn : n ≤ 600) (hc : e + c ≤ n) (hc8 : c ≤ 8)
    (hQ : ∀ h2 l5, mtS h0 h2 (px_up V 38 (nI (t + 1))) L (wrF NM (8 * s) c (fun j => nI (B (e + j)))) (px_up NS s (nI c)) VL VS → px_Wp sx 163 134 [some (.ref 619), some (.int (nI e)), some (.int (nI (e + c))), l3, some (.int (nI s)), l5] [] h2 Q) :
    px_Wp sx 163 77 [some (.ref 619), some (.int (nI e)), some (.int (nI (e + c))), l3, some (.int (nI s)), l5] [] h Q := by
  have loop : ∀ d k, k + d = c → ∀ h2, mtS h0 h2 (px_up V 38 (nI (t + 1))) L (wrF NM (8 * s) k (fun j => nI (B (e + j)))) (px_up NS s (nI c)) VL VS → px_Wp sx 163 100 [some (.ref 619), some (.int (nI e)), some (.int (nI (e + c))), l3, some (.int (nI s)), some (.int (nI (e + k)))] [] h2 Q := by
    intro d
    induction d with
    | zero =>
      intro k hk h2 w2
      have hk : k = c := by omega
      subst hk
      have le : nI (e + k) ≤ nI (e + k) := Int32.le_refl _
      simp only [pc163_100, pc163_102, pc163_103, px_op_some, px_kv_ap, px_ki_ap, px_kl_ap, px_kn_ap, px_kh_ap, px_op_none, px_K_some, px_K_none, px_K_thr, px_kill, ↓reduceIte, if_true, if_false, true_and, and_true, le]
      exact hQ h2 _ w2
    | succ d ih =>
      intro k hk h2 w2
      have w2' := w2
      obtain ⟨a1, a2, a3, bL, bNM, bNS, bVL, bVS⟩ := w2'
      have ge : ¬ nI (e + c) ≤ nI (e + k) := nI_ge (by omega) (by omega)
      have e1 : nI (8 * s) + nI (e + k) - nI e = nI (8 * s + k) := by
        rw [nI_add, nI_sub (by omega), show 8 * s + (e + k) - e = 8 * s + k by omega]
      have i1 : px_in (nI (8 * s + k)) 56 = true := px_inb (by omega) (by decide)
      have j1 : (nI (8 * s + k)).toNatClampNeg = 8 * s + k := nI_clamp (by omega)
      have i2 : px_in (nI (e + k)) 600 = true := px_inb (by omega) (by decide)
      have j2 : (nI (e + k)).toNatClampNeg = e + k := nI_clamp (by omega)
      have hA2 : h2.2[620]? = some (.inr (1, 600, .inl g)) := frm_at a1 (by unfold mtA; omega) hA
      have gv := (hB (e + k) (by omega)).1
      rw [pc163_100]
      simp only [pc163_102, pc163_103, pc163_106, pc163_106n, pc163_107, pc163_110, pc163_112, pc163_114, pc163_115, pc163_117, pc163_118, pc163_119, pc163_120, pc163_120n, pc163_121, pc163_124, pc163_126, pc163_127, pc163_128, pc163_131, px_op_some, px_kv_ap, px_ki_ap, px_kl_ap, px_kn_ap, px_kh_ap, px_op_none, px_K_some, px_K_none, px_K_thr, px_kill, ↓reduceIte, if_true, if_false, true_and, and_true, px_gf, px_ai, px_wi, a3, bNM, hA2, mf_1, mf_39, ge, mul_8n, e1, i1, j1, i2, j2, gv, tg_i1, and_self, px_fit, nar1, px_kill, nI_p1]
      have st := wrF_s (A := NM) (to := 8 * s) (c := k) (src := fun j => nI (B (e + j)))
      rw [st]
      exact ih (k + 1) (by omega) _ (mtS_NM w2)
  have w' := w
  obtain ⟨a1, a2, a3, bL, bNM, bNS, bVL, bVS⟩ := w'
  have i1 : px_in (nI s) 7 = true := px_inb (by omega) (by decide)
  have j1 : (nI s).toNatClampNeg = s := nI_clamp (by omega)
  have e2 : nI (e + c) - nI e = nI c := by rw [nI_sub (by omega), Nat.add_sub_cancel_left]
  have w1 := mtS_38 (x := nI (t + 1)) w
  have w1' := w1
  obtain ⟨-, -, b3, -, -, cNS, -, -⟩ := w1'
  simp only [pc163_77, pc163_77n, pc163_78, pc163_78r, pc163_79, pc163_82, pc163_83, pc163_84, pc163_87, pc163_87n, pc163_88, pc163_91, pc163_93, pc163_94, pc163_95, pc163_96, pc163_97, pc163_98, px_op_some, px_kv_ap, px_ki_ap, px_kl_ap, px_kn_ap, px_kh_ap, px_op_none, px_K_some, px_K_none, px_K_thr, px_kill, ↓reduceIte, if_true, if_false, true_and, and_true, px_gf, px_pf, px_ai, px_wi, a3, mf_38, mf_len, mfs_38, hv, nI_p1, Nat.reduceLT, px_fit, b3, cNS, mf_40, e2, i1, j1, tg_i1, and_self, nar1, px_kill]
  have := loop c 0 (by omega) _ (by rw [wrF_0]; exact mtS_NS (X := px_up NS s (nI c)) w1)
  rw [Nat.add_zero] at this
  exact this
set_option maxRecDepth 16384 in
theorem m_fail {x : Int32} (h6 : h.2[619]? = some (.inl (11, modF V))) (hv : V 43 = 0) (hQ : Q (.inl none) (px_wr h 619 (.inl (11, modF (px_up V 43 x))))) : px_Wp sx 153 0 [some (.ref 619), some (.int x)] [] h Q := by
  simp only [pc153_0, pc153_0n, pc153_1, pc153_1n, pc153_2, pc153_5, pc153_8, pc153_9, pc153_12, pc153_12n, pc153_13, pc153_16, pc153_19, px_op_some, px_kv_ap, px_ki_ap, px_kl_ap, px_kn_ap, px_kh_ap, px_op_none, px_K_some, px_K_none, px_K_thr, px_kill, ↓reduceIte, if_true, if_false, true_and, and_true, px_gf, px_pf, h6, mf_43, mfs_43, mf_len, hv, not_true_eq_false, Nat.reduceLT, px_fit, and_self]
  exact hQ
end MSET2
