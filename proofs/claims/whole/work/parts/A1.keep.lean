/-! KEEP -/
set_option maxRecDepth 16384 in
theorem wrote_cpy {f0 f fr : Nat → Int32} {R : Nat} {g : Nat → Int32} {n a c : Nat} (w : wrote f0 f R g n) (hc : ∀ k, k < c → fr (a + k) &&& 255 = g (n + k)) : wrote f0 (va_cpy fr f a (R + n) c) R g (n + c) := by
  unfold va_cpy
  refine ⟨fun j hj => by show (if R + n ≤ j ∧ j < R + n + c then fr (a + (j - (R + n))) else f j) = f0 j; rw [if_neg (by omega)]; exact w.1 j hj, fun k hk => ?_⟩
  show (if R + n ≤ R + k ∧ R + k < R + n + c then fr (a + (R + k - (R + n))) else f (R + k)) &&& 255 = g k
  by_cases e : n ≤ k
  · rw [if_pos (by omega), show a + (R + k - (R + n)) = a + (k - n) by omega, hc (k - n) (by omega)]
    congr 1; omega
  · rw [if_neg (by omega)]; exact w.2 k (by omega)
/-- the heap with other blobs in the yard at Y -/
def bloH (h : px_H) (Y : Nat) (x y : Int32) (B : Nat) (D : Nat → Int64) (st ln : Nat → Int32) : px_H := px_wr (px_wr (px_wr (px_wr h (Y + 3) (.inr (2, 60, .inr (.inl D)))) (Y + 4) (.inr (1, 60, .inl st))) (Y + 5) (.inr (1, 60, .inl ln))) Y (.inl (7, yrdF Y x (nI B) y))
section KEEP
variable {sx : Nat × (Nat → Int32)} {h : px_H} {Y R B : Nat} {x y : Int32} {f st ln : Nat → Int32} {D : Nat → Int64} {bb : Nat → Int32} {Q : px_O → px_H → Prop}
set_option maxRecDepth 16384 in
theorem c_learnBlob {s c : Nat} (hY : h.2[Y]? = some (.inl (7, yrdF Y x (nI B) y))) (w : rowAt h (Y + 1) 40000 R f) (hD : h.2[Y + 3]? = some (.inr (2, 60, .inr (.inl D)))) (hst : h.2[Y + 4]? = some (.inr (1, 60, .inl st))) (hln : h.2[Y + 5]? = some (.inr (1, 60, .inl ln))) (hB : B < 60) (hs : s + c ≤ R) (hf : ∀ k, k < c → f (s + k) &&& 255 = bb k)
    (hQ : Q (.inl none) (bloH h Y x y (B + 1) (px_up D B (dig bb c)) (px_up st B (nI s)) (px_up ln B (nI c)))) :
    px_Wp sx 96 0 [some (.ref Y), some (.int (nI s)), some (.int (nI c))] [] h Q := by
  have hge : ¬ (60 : Int32) ≤ nI B := nI_ge (b := 60) (by omega) (by decide)
  have iB : px_in (nI B) 60 = true := px_inb hB (by decide)
  have cB : (nI B).toNatClampNeg = B := nI_clamp (by omega)
  have hc1 : px_cls h (Y + 1) = some 1 := by unfold px_cls; rw [w.1]
  have n1 : ∀ x : Int32, px_nar 1 x = x := fun _ => rfl
  have e1 : (Y + 3 = Y) = False := eq_false (by omega)
  have e2 : (Y + 4 = Y) = False := eq_false (by omega)
  have e3 : (Y + 5 = Y) = False := eq_false (by omega)
  have e4 : (Y + 3 = Y + 4) = False := eq_false (by omega)
  have e5 : (Y + 3 = Y + 5) = False := eq_false (by omega)
  have e6 : (Y + 4 = Y + 5) = False := eq_false (by omega)
  have hY1 := hY
  unfold yrdF at hY1
  simp only [pc96_0, pc96_0n, pc96_1, pc96_4, pc96_6, pc96_9, pc96_9n, pc96_10, pc96_13, pc96_13n, pc96_14, pc96_17, pc96_17n, pc96_18, pc96_21, pc96_22, pc96_23, px_gf, hY1, if_true, List.getElem?_cons_zero, List.getElem?_cons_succ, px_op_some, px_kv_ap, px_ki_ap, px_kl_ap, px_kn_ap, px_kh_ap, if_neg hge, hc1, true_and]
  refine c_digest w hs hf ?_
  simp only [pc96_26, pc96_27, pc96_27n, pc96_28, pc96_31, pc96_31n, pc96_32, pc96_35, pc96_36, pc96_37, pc96_37n, pc96_38, pc96_41, pc96_41n, pc96_42, pc96_45, pc96_46, pc96_47, pc96_47n, pc96_48, pc96_48r, pc96_49, pc96_52, pc96_53, pc96_54, pc96_57, px_op_some, px_kv_ap, px_ki_ap, px_kl_ap, px_kn_ap, px_kh_ap, px_op_none, px_K_some, px_K_none, px_K_thr, px_kill, ↓reduceIte, if_true, if_false, true_and, and_true, px_gf, px_pf, px_ai, px_aj, px_aa, px_wi, px_wj, px_wa, px_an, px_cls, hY1, hD, hst, hln, List.getElem?_cons_zero, List.getElem?_cons_succ, iB, cB, and_self, wr_at, e1, e2, e3, e4, e5, e6, tg_i1, n1, px_fit, List.length_cons, List.length_nil, Nat.reduceAdd, Nat.reduceLT, List.set_cons_succ, List.set_cons_zero, nI_1]
  exact hQ
set_option maxRecDepth 16384 in
theorem c_keep {r N n a c : Nat} {fr : Nat → Int32} (hr0 : Y + 11 ≤ r ∨ r + 2 ≤ Y) (hY : h.2[Y]? = some (.inl (7, yrdF Y x (nI B) y))) (w : rowAt h (Y + 1) 40000 R f) (hD : h.2[Y + 3]? = some (.inr (2, 60, .inr (.inl D)))) (hst : h.2[Y + 4]? = some (.inr (1, 60, .inl st))) (hln : h.2[Y + 5]? = some (.inr (1, 60, .inl ln))) (hB : B ≤ 60) (w' : rowAt h r N n fr) (ha : a + c ≤ n) (hc : c ≤ 39000) (hf : ∀ k, k < c → fr (a + k) &&& 255 = bb k)
    (hu : ∀ i j, i < B → j < B → D i = D j → i = j)
    (hQk : ∀ k, k < B → D k = dig bb c → ∀ s l, st k = nI s → ln k = nI l → l ≤ 40000 → s + l ≤ R → (l = c ∧ (∀ m, m < c → f (s + m) &&& 255 = bb m) → Q (.inl (some (.int 1))) h) ∧ (¬ (l = c ∧ ∀ m, m < c → f (s + m) &&& 255 = bb m) → Q (.inl (some (.int 0))) h))
    (hbl : ∀ k, k < B → ∃ s l, st k = nI s ∧ ln k = nI l ∧ l ≤ 40000 ∧ s + l ≤ R)
    (hQ0 : (∀ k, k < B → ¬ D k = dig bb c) → (B = 60 ∨ 40000 < R + (6 + c)) → Q (.inl (some (.int 0))) h)
    (hQ1 : (∀ k, k < B → ¬ D k = dig bb c) → B < 60 → R + (6 + c) ≤ 40000 → ∀ f', wrote f f' R (recB 1 c bb) (6 + c) → Q (.inl (some (.int 1))) (bloH (rowH h (Y + 1) 40000 (R + (6 + c)) f') Y x y (B + 1) (px_up D B (dig bb c)) (px_up st B (nI (R + 5))) (px_up ln B (nI c)))) :
    px_Wp sx 92 0 [some (.ref Y), some (.ref r), some (.int (nI a)), some (.int (nI c)), none, none] [] h Q := by
  have hR := w.2.2
  have hl := rowAt_lt w
  have hcr : px_cls h r = some 1 := by unfold px_cls; rw [w'.1]
  have hcY : px_cls h Y = some 7 := by unfold px_cls; rw [hY]
  have hc1 : px_cls h (Y + 1) = some 1 := by unfold px_cls; rw [w.1]
  have hY1 := hY
  have w1 := w.1
  unfold yrdF at hY1
  simp only [pc92_0, pc92_0n, pc92_1, pc92_1n, pc92_2, pc92_3, pc92_4, hcr, true_and]
  refine c_digest w' ha hf ?_
  simp only [px_K_some, pc92_7, hcY, true_and]
  refine c_find hB hY hD (fun v hv => ?_)
  rcases hv with ⟨rfl, hno⟩ | ⟨k, hk, rfl, hp, -⟩
  · have q0 := hQ0 hno
    have q1 := hQ1 hno
    by_cases b6 : B < 60
    · have hge : ¬ (60 : Int32) ≤ nI B := nI_ge (b := 60) (by omega) (by decide)
      simp only [px_K_some, pc92_10, pc92_12, pc92_14, pc92_15, pc92_55, pc92_55n, pc92_56, pc92_59, pc92_62, pc92_64, pc92_64n, pc92_65, pc92_68, pc92_70, pc92_73, pc92_73n, pc92_74, pc92_75, pc92_76, px_kill, if_true, px_gf, hY1, w1, List.getElem?_cons_zero, List.getElem?_cons_succ, px_op_some, px_kv_ap, px_ki_ap, px_kl_ap, px_kn_ap, px_kh_ap, if_neg hge, hcY, true_and]
      refine c_open' (kd := 1) (m := c) (g := recB 1 c bb) w hY hc (by decide) rfl rfl rfl rfl rfl (fun q => ?_) (fun q f1 u1 => ?_)
      · simp only [px_K_some, pc92_79, pc92_82, pc92_83, not_true_eq_false, if_false, nar_0]
        exact q0 (.inr q)
      · have hY' : ∀ n f, (rowH h (Y + 1) 40000 n f).2[Y]? = some (.inl (7, yrdF Y x (nI B) y)) := fun n f => by rw [rowH_at (by omega) (by omega)]; exact hY
        have hY2 := hY'
        unfold yrdF at hY2
        have hcR : ∀ n f, px_cls (rowH h (Y + 1) 40000 n f) (Y + 1) = some 1 := fun n f => by unfold px_cls; rw [rowH_r hl]
        have hcY' : ∀ n f, px_cls (rowH h (Y + 1) 40000 n f) Y = some 7 := fun n f => by unfold px_cls; rw [hY']
        simp only [px_K_some, pc92_79, pc92_82, pc92_83, pc92_84, pc92_84n, pc92_85, pc92_88, pc92_88n, pc92_89, pc92_90, pc92_91, ne_1_0, not_false_eq_true, if_true, px_gf, hY2, List.getElem?_cons_zero, px_op_some, px_kv_ap, px_ki_ap, px_kl_ap, px_kn_ap, px_kh_ap, hcR, true_and]
        refine r_addAll (n' := n) (N' := N) (f' := fr) (rowAt_rowH hl (by omega) (by decide)) ⟨by rw [rowH_at (by omega) (by omega)]; exact w'.1, by rw [rowH_at (by omega) (by omega)]; exact w'.2.1, w'.2.2⟩ (by omega) (by omega) (by omega) ha (by omega) ?_
        have u2 := wrote_cpy (fr := fr) (a := a) (c := c) u1 (fun k hk => (hf k hk).trans (rec_d hk).symm)
        generalize va_cpy fr f1 a (R + 5) c = f2 at u2 ⊢
        simp only [px_K_none, rowH_rowH, pc92_94, pc92_94n, pc92_95, pc92_97, hcY', true_and]
        rw [Nat.add_assoc R 5 c]
        refine c_close hl hY u2 (by omega) rec_last (fun f3 u3 => ?_)
        rw [show 5 + c + 1 = 6 + c by omega] at u3 ⊢
        have e5 : nI R + 5 = nI (R + 5) := nI_add R 5
        simp only [px_K_none, pc92_100, pc92_100n, pc92_101, pc92_103, pc92_104, pc92_105, pc92_106, hcY', true_and, e5]
        refine c_learnBlob (s := R + 5) (c := c) (bb := bb) (hY' _ _) (rowAt_rowH hl (by omega) (by decide)) (D := D) (st := st) (ln := ln) (by rw [rowH_at (by omega) (by omega)]; exact hD) (by rw [rowH_at (by omega) (by omega)]; exact hst) (by rw [rowH_at (by omega) (by omega)]; exact hln) b6 (by omega) (fun k hk => ?_) ?_
        · rw [Nat.add_assoc, u3.2 (5 + k) (by omega), rec_d hk]
        simp only [px_K_none, pc92_109, pc92_110, nar_1]
        exact q1 b6 q f3 u3
    · have hge : (60 : Int32) ≤ nI B := nI_le (a := 60) (by omega) (by omega)
      simp only [px_K_some, pc92_10, pc92_12, pc92_14, pc92_15, pc92_55, pc92_55n, pc92_56, pc92_59, pc92_62, pc92_64, pc92_64n, pc92_65, pc92_68, pc92_70, pc92_73, pc92_73n, pc92_74, pc92_75, pc92_76, pc92_79, pc92_82, pc92_83, px_kill, if_true, px_gf, hY1, w1, List.getElem?_cons_zero, List.getElem?_cons_succ, px_op_some, px_kv_ap, px_ki_ap, px_kl_ap, px_kn_ap, px_kh_ap, if_pos hge, nar_0]
      exact q0 (.inl (by omega))
  · obtain ⟨s, l, e1, e2, e3, e4⟩ := hbl k hk
    obtain ⟨qk1, qk0⟩ := hQk k hk hp s l e1 e2 e3 e4
    have ik : px_in (nI k) 60 = true := px_inb (by omega) (by decide)
    have ck : (nI k).toNatClampNeg = k := nI_clamp (by omega)
    by_cases el : l = c
    · subst el
      simp only [px_K_some, pc92_10, pc92_12, pc92_14, pc92_15, pc92_18, pc92_18n, pc92_19, pc92_22, pc92_24, pc92_25, pc92_26, pc92_29, pc92_29n, pc92_30, pc92_33, pc92_33n, pc92_34, pc92_37, pc92_39, pc92_40, pc92_40n, pc92_41, pc92_42, pc92_43, px_kill, nI_nm1 (k := k) (by omega), if_false, px_gf, px_ai, tg_i1, hY1, hln, hst, if_true, List.getElem?_cons_zero, List.getElem?_cons_succ, px_op_some, px_kv_ap, px_ki_ap, px_kl_ap, px_kn_ap, px_kh_ap, ik, ck, and_self, e1, e2, not_true_eq_false, hc1, true_and]
      refine c_isSame (bb := fun m => f (s + m) &&& 255) (b' := bb) w w' e4 ha (fun _ _ => rfl) hf (fun hh => ?_) (fun hh => ?_)
      · simp only [px_K_some, pc92_46, pc92_49, pc92_50, pc92_53, pc92_54, ne_1_0, if_false, nar_1]
        exact qk1 ⟨rfl, hh⟩
      · simp only [px_K_some, pc92_46, pc92_49, pc92_50, pc92_53, pc92_54, if_true, nar_0]
        obtain ⟨m, hm, hne⟩ := hh
        exact qk0 (fun z => hne (z.2 m hm))
    · have ne : ¬ nI l = nI c := fun z => el (by
        have a1 := nI_clamp (n := l) (by omega)
        rw [z, nI_clamp (by omega)] at a1; omega)
      simp only [px_K_some, pc92_10, pc92_12, pc92_14, pc92_15, pc92_18, pc92_18n, pc92_19, pc92_22, pc92_24, pc92_25, pc92_26, pc92_53, pc92_54, px_kill, nI_nm1 (k := k) (by omega), if_false, px_gf, px_ai, tg_i1, hY1, hln, if_true, List.getElem?_cons_zero, List.getElem?_cons_succ, px_op_some, px_kv_ap, px_ki_ap, px_kl_ap, px_kn_ap, px_kh_ap, ik, ck, and_self, e2, ne, not_false_eq_true, nar_0]
      exact qk0 (fun z => el z.1)
end KEEP
