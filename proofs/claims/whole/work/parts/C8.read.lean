/-! THE JOURNAL READ, the reference's -/
set_option maxRecDepth 16384 in
theorem nI_mul (a b : Nat) : nI a * nI b = nI (a * b) := by
  apply Int32.toBitVec_inj.mp
  show BitVec.ofNat 32 a * BitVec.ofNat 32 b = BitVec.ofNat 32 (a * b)
  rw [BitVec.ofNat_mul]
section RDJ
variable {sx : Nat × (Nat → Int32)} {h h0 : px_H} {q N lim z : Nat} {S S' : yS} {hs : Nat → yS} {V row J bb : Nat → Int32} {bv : Nat → Nat} {Q : px_O → px_H → Prop}
set_option maxRecDepth 16384 in
theorem m_act {kd m : Nat} {d : Nat → Int32} (hl : 668 < h.2.length) (hq : q < 2) (st : stp S S') (g : good S) (rb : RYb h q S) (h6 : h.2[619]? = some (.inl (11, modF V))) (hr : h.2[636]? = some (.inr (1, 40100, .inl row))) (hv : V 17 = nI m) (hR : yR S' = yR S + (6 + m)) (hkd : yJ S' (yR S) = nI kd) (hkd2 : kd < 256) (hd : ∀ k, k < m → row k = yJ S' (yR S + (5 + k)))
    (hQ : ∀ h', actR h h' q S' V → Q (.inl (some (.int 1))) h') : px_Wp sx 240 0 [some (.ref 619), some (.int (nI q)), some (.int (nI kd)), none, none, none, none] [] h Q := by
  have nj : ∀ {c : Nat} {gg : Nat → Int32} {k : Nat}, (addJ S c gg).2.1 (yR S + k) = gg k := fun {c gg k} => by rw [addJ_new (Nat.le_add_right _ _), Nat.add_sub_cancel_left]
  have nj0 : ∀ {c : Nat} {gg : Nat → Int32}, (addJ S c gg).2.1 (yR S) = gg 0 := fun {c gg} => by rw [addJ_new (Nat.le_refl _), Nat.sub_self]
  have kdi : ∀ {x : Nat}, x < 256 → nI kd = nI x → nI kd = nI x := fun _ e => e
  rcases st with ⟨bb, c, rfl, h1, h2, h3, h5, h4⟩ | ⟨j, v, rfl, h1, h2, h3⟩ | ⟨j, rfl, h1, h2⟩ | ⟨a, v, h1, h2⟩
  · have ec : m = c := by have : yR S + (6 + c) = yR S + (6 + m) := hR; omega
    subst ec
    have ek : nI kd = 1 := hkd.symm.trans nj0
    rw [ek]
    exact act_keep hl g.1 hq rb h6 hr hv (fun k hk => (hd k hk).trans (nj.trans (rec_d hk))) h1 h2 h3 hQ
  · have ec : m = 9 := by have : yR S + 15 = yR S + (6 + m) := hR; omega
    subst ec
    have ek : nI kd = 2 := hkd.symm.trans nj0
    rw [ek]
    exact act_tell hl g.1 hq h1 rb h6 hr hv (fun k hk => (hd k hk).trans (nj.trans (rec_d hk))) h3 hQ
  · have ec : m = 1 := by have : yR S + 7 = yR S + (6 + m) := hR; omega
    subst ec
    have ek : nI kd = 3 := hkd.symm.trans nj0
    rw [ek]
    exact act_unt hl g.1 hq h1 rb h6 hr hv ((hd 0 (by decide)).trans (nj.trans (rec_d (kd := 3) (m := 1) (k := 0) (d := fun _ => nI j) (by decide)))) hQ
  · have e : S'.1 = addJ S 22 (recB 4 16 (keyB a v)) := by rcases h1 with ⟨k, -, -, rfl⟩ | ⟨-, -, rfl⟩ <;> rfl
    have eR : yR S' = yR S + 22 := by show S'.1.1 = _; rw [e]; rfl
    have eJ : yJ S' = (addJ S 22 (recB 4 16 (keyB a v))).2.1 := by show S'.1.2.1 = _; rw [e]
    rw [eJ] at hkd hd
    have ec : m = 16 := by omega
    subst ec
    have ek : nI kd = 4 := hkd.symm.trans nj0
    rw [ek]
    exact act_rem hl g.1 g.2.1 hq h1 rb h6 hr hv (fun k hk => (hd k hk).trans (nj.trans (rec_d hk))) hQ
set_option maxRecDepth 16384 in
theorem rj_sum {p c : Nat} {l8 : Option Value} (hq : q < 2) (h6 : h.2[619]? = some (.inl (11, modF V))) (hJ : h.2[632]? = some (.inr (1, 80000, .inl J))) (hbv : ∀ j, j < lim → J (40000 * q + j) = nI (bv j)) (hp : p + 6 + c ≤ lim) (h4 : lim ≤ 40000)
    (hQ : px_Wp sx 238 141 [some (.ref 619), some (.int (nI q)), some (.int (nI lim)), some (.int (nI (40000 * q))), some (.int (nI p)), some (.int (nI c)), some (.int (nI (sumN bv p (5 + c)))), some (.int (nI (5 + c))), l8] [] h Q) :
    ∀ n k, k + n = 5 + c → px_Wp sx 238 109 [some (.ref 619), some (.int (nI q)), some (.int (nI lim)), some (.int (nI (40000 * q))), some (.int (nI p)), some (.int (nI c)), some (.int (nI (sumN bv p k))), some (.int (nI k)), l8] [] h Q := by
  have e5 : nI c + 5 = nI (c + 5) := nI_add c 5
  intro n
  induction n with
  | zero =>
    intro k hk
    have hk : k = 5 + c := by omega
    subst hk
    have le : nI (c + 5) ≤ nI (5 + c) := nI_le (by omega) (by omega)
    simp only [pc238_109, pc238_111, pc238_113, pc238_114, pc238_115, e5, if_pos le]
    exact hQ
  | succ n ih =>
    intro k hk
    have hge : ¬ nI (c + 5) ≤ nI k := nI_ge (by omega) (by omega)
    have ik : px_in (nI (40000 * q + p + k)) 80000 = true := px_inb (by omega) (by decide)
    have ck : (nI (40000 * q + p + k)).toNatClampNeg = 40000 * q + p + k := nI_clamp (by omega)
    have ej : J (40000 * q + p + k) = nI (bv (p + k)) := by rw [Nat.add_assoc]; exact hbv _ (by omega)
    rw [pc238_109]
    simp only [pc238_111, pc238_113, pc238_114, pc238_115, pc238_118, pc238_120, pc238_120n, pc238_121, pc238_124, pc238_125, pc238_127, pc238_128, pc238_130, pc238_131, pc238_132, pc238_133, pc238_135, pc238_138, px_op_some, px_kv_ap, px_ki_ap, px_kl_ap, px_kn_ap, px_kh_ap, px_op_none, px_K_some, px_K_none, px_K_thr, px_kill, ↓reduceIte, if_true, if_false, true_and, and_true, px_gf, px_pf, px_ai, px_aj, px_aa, px_wi, px_wj, px_wa, px_an, px_cls, px_kill, tg_i1, e5, if_neg hge, h6, hJ, mf_14, nI_add, ik, ck, ej, and_self, nI_1]
    exact ih (k + 1) (by omega)
set_option maxRecDepth 16384 in
theorem rj_emit {p c : Nat} (hl : 668 < h.2.length) (hq : q < 2) (hJ : h.2[632]? = some (.inr (1, 80000, .inl J))) (hbv : ∀ j, j < lim → J (40000 * q + j) = nI (bv j) ∧ bv j < 256) (hp : p + 6 + c ≤ lim) (h4 : lim ≤ 40000) {sm : Int32}
    (hQ : ∀ row', (∀ k, k < c → row' k = nI (bv (p + (5 + k)))) → px_Wp sx 238 210 [some (.ref 619), some (.int (nI q)), some (.int (nI lim)), some (.int (nI (40000 * q))), some (.int (nI p)), some (.int (nI c)), some (.int sm), some (.int 1), some (.int (nI c))] [] (outH h (px_up V 17 (nI c)) row') Q) :
    ∀ n k, k + n = c → ∀ row, (∀ i, i < k → row i = nI (bv (p + (5 + i)))) → px_Wp sx 238 174 [some (.ref 619), some (.int (nI q)), some (.int (nI lim)), some (.int (nI (40000 * q))), some (.int (nI p)), some (.int (nI c)), some (.int sm), some (.int 1), some (.int (nI k))] [] (outH h (px_up V 17 (nI k)) row) Q := by
  have r6 : ∀ v r, (outH h v r).2[619]? = some (.inl (11, modF v)) := fun v r => outH_o (by omega)
  have rJ : ∀ v r, (outH h v r).2[632]? = some (.inr (1, 80000, .inl J)) := fun v r => by rw [outH_at (by decide) (by decide)]; exact hJ
  have hc : ∀ v r, px_cls (outH h v r) 619 = some 11 := fun v r => by unfold px_cls; rw [r6]
  intro n
  induction n with
  | zero =>
    intro k hk row hr
    have hk : k = c := by omega
    subst hk
    simp only [pc238_174, pc238_176, pc238_178, if_pos (Int32.le_refl (nI k))]
    exact hQ row hr
  | succ n ih =>
    intro k hk row hr
    have hge : ¬ nI c ≤ nI k := nI_ge (by omega) (by omega)
    have ik : px_in (nI (40000 * q + p + 5 + k)) 80000 = true := px_inb (by omega) (by decide)
    have ck : (nI (40000 * q + p + 5 + k)).toNatClampNeg = 40000 * q + p + 5 + k := nI_clamp (by omega)
    have ej := hbv (p + (5 + k)) (by omega)
    have ej' : J (40000 * q + p + 5 + k) = nI (bv (p + (5 + k))) := by rw [← ej.1]; exact congrArg J (by omega)
    rw [pc238_174]
    simp only [pc238_176, pc238_178, pc238_181, pc238_183, pc238_186, pc238_186n, pc238_187, pc238_187n, pc238_188, pc238_191, pc238_192, pc238_194, pc238_195, pc238_196, pc238_197, pc238_199, pc238_200, pc238_201, px_op_some, px_kv_ap, px_ki_ap, px_kl_ap, px_kn_ap, px_kh_ap, px_op_none, px_K_some, px_K_none, px_K_thr, px_kill, ↓reduceIte, if_true, if_false, true_and, and_true, px_gf, px_pf, px_ai, px_aj, px_aa, px_wi, px_wj, px_wa, px_an, px_cls, tg_i1, if_neg hge, ne_1_0, r6, rJ, mf_14, nI_p5, nI_add, ik, ck, ej', and_self, hc]
    refine m_emit (by omega) (up_same _ _ _) (by omega) ?_
    simp only [px_K_none, pc238_204, pc238_207, px_kill, nI_1, up_up]
    refine ih (k + 1) (by omega) _ (fun i hi => ?_)
    by_cases e : i = k
    · subst e; rw [up_same, nI_small ej.2]
    · rw [up_ne e]; exact hr i (by omega)
end RDJ
