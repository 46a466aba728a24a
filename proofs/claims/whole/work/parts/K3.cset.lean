/-! ENV, the class's -/
/-- a name and a value stand from s to e -/
def setG (B : Nat → Nat) (s e : Nat) : Prop := s ≤ e ∧ s < fnd B 32 s (e - s) ∧ fnd B 32 s (e - s) ≤ s + 8 ∧ fnd B 32 s (e - s) + 2 ≤ e ∧ e ≤ fnd B 32 s (e - s) + 13 ∧ fnd B 32 (fnd B 32 s (e - s) + 1) (e - (fnd B 32 s (e - s) + 1)) = e ∧ ∀ j, s ≤ j → j < fnd B 32 s (e - s) → 97 ≤ B j ∧ B j ≤ 122
def setL (B : Nat → Nat) (s e : Nat) (m : aM) (x : Nat) (m' : aM) : Prop := (¬ setG B s e ∧ x = 1 ∧ m' = m) ∨ (setG B s e ∧ setR m (fnd B 32 s (e - s) - s) (patF B s (fnd B 32 s (e - s) - s)) (e - (fnd B 32 s (e - s) + 1)) (patF B (fnd B 32 s (e - s) + 1) (e - (fnd B 32 s (e - s) + 1))) x m')
set_option maxRecDepth 16384 in
theorem setL_det {B : Nat → Nat} {s e x1 x2 : Nat} {m m1 m2 : aM} (ok : imOK m) (h1 : setL B s e m x1 m1) (h2 : setL B s e m x2 m2) : x1 = x2 ∧ m1 = m2 := by
  rcases h1 with ⟨a1, a2, a3⟩ | ⟨a1, a2⟩
  · rcases h2 with ⟨b1, b2, b3⟩ | ⟨b1, b2⟩
    · exact ⟨by omega, by rw [a3, b3]⟩
    · exact absurd b1 a1
  · rcases h2 with ⟨b1, b2, b3⟩ | ⟨b1, b2⟩
    · exact absurd a1 b1
    · exact setR_det ok a2 b2
set_option maxRecDepth 16384 in
theorem setL_ok {B : Nat → Nat} {s e x n : Nat} {m m' : aM} (ok : imOK m) (hB : ∀ j, j < n → B j < 256) (he : e ≤ n) (h : setL B s e m x m') : imOK m' := by
  rcases h with ⟨-, -, rfl⟩ | ⟨⟨g1, g2, g3, g4, g5, g6, g7⟩, r⟩
  · exact ok
  · refine setR_ok ok ⟨by omega, by omega⟩ ⟨by omega, by omega⟩ (ltr_pat (fun j hj => g7 _ (by omega) (by omega))) (fun k hk => ?_) r
    rw [patF_lt hk]; exact hB _ (by omega)
set_option maxRecDepth 16384 in
theorem sub_lt1 {a b : Nat} (ha : a < 1000) (hb : b < 1000) : (nI a - nI b < 1) ↔ a ≤ b := by
  rw [Int32.lt_iff_toInt_lt, Int32.toInt_sub, nI_toInt (by omega), nI_toInt (by omega), show (1 : Int32).toInt = 1 from rfl, Int.bmod_eq_of_le (by omega) (by omega)]
  omega
section BSET
variable {sx : Nat × (Nat → Int32)} {h : px_H} {n s e : Nat} {f : Nat → Int32} {B : Nat → Nat} {P : Nat → Nat} {m : aM} {Q : px_O → px_H → Prop}
set_option maxRecDepth 16384 in
theorem c_bset_l {k : Nat} {l5 : Option Value} {z6 : Int32} (w : rowAt h 45 600 n f) (hB : txA f n B) (hk : k ≤ n)
    (hQ0 : ¬ (∀ j, s ≤ j → j < k → 97 ≤ B j ∧ B j ≤ 122) → Q (.inl (some (.int 1))) h)
    (hQ1 : (∀ j, s ≤ j → j < k → 97 ≤ B j ∧ B j ≤ 122) → px_Wp sx 135 92 [some (.ref 47), some (.ref 45), some (.int (nI s)), some (.int (nI e)), some (.int (nI k)), l5, some (.int z6), some (.int (nI k))] [] h Q) :
    ∀ d i, i + d = k → s ≤ i → (∀ j, s ≤ j → j < i → 97 ≤ B j ∧ B j ≤ 122) → px_Wp sx 135 68 [some (.ref 47), some (.ref 45), some (.int (nI s)), some (.int (nI e)), some (.int (nI k)), l5, some (.int z6), some (.int (nI i))] [] h Q := by
  have hN := w.2.2
  have hcl : px_cls h 45 = some 1 := by unfold px_cls; rw [w.1]
  intro d
  induction d with
  | zero =>
    intro i hi hs hj
    have hi : i = k := by omega
    subst hi
    have le : nI i ≤ nI i := Int32.le_refl _
    simp only [pc135_68, pc135_70, pc135_72, px_op_some, px_kv_ap, px_ki_ap, px_kl_ap, px_kn_ap, px_kh_ap, px_op_none, px_K_some, px_K_none, px_K_thr, px_kill, ↓reduceIte, if_true, if_false, true_and, and_true, le]
    exact hQ1 hj
  | succ d ih =>
    intro i hi hs hj
    have ge : ¬ nI k ≤ nI i := nI_ge (by omega) (by omega)
    simp only [pc135_68, pc135_70, pc135_72, pc135_75, pc135_75n, pc135_76, pc135_78, px_op_some, px_kv_ap, px_ki_ap, px_kl_ap, px_kn_ap, px_kh_ap, px_op_none, px_K_some, px_K_none, px_K_thr, px_kill, ↓reduceIte, if_true, if_false, true_and, and_true, ge, hcl]
    refine c_small w hB (by omega) (fun x hx => ?_)
    rcases hx with ⟨rfl, y⟩ | ⟨rfl, y⟩
    · simp only [px_K_some, pc135_81, pc135_84, pc135_85, pc135_86, pc135_89, px_op_some, px_kv_ap, px_ki_ap, px_kl_ap, px_kn_ap, px_kh_ap, px_op_none, px_K_some, px_K_none, px_K_thr, px_kill, ↓reduceIte, if_true, if_false, true_and, and_true, ne_1_0, not_false_eq_true, nI_p1, px_kill]
      refine ih (i + 1) (by omega) (by omega) (fun j a b => ?_)
      by_cases z : j = i
      · subst z; exact y
      · exact hj j a (by omega)
    · simp only [px_K_some, pc135_81, pc135_84, pc135_85, px_op_some, px_kv_ap, px_ki_ap, px_kl_ap, px_kn_ap, px_kh_ap, px_op_none, px_K_some, px_K_none, px_K_thr, px_kill, ↓reduceIte, if_true, if_false, true_and, and_true, not_true_eq_false]
      exact hQ0 (fun z => y (z i hs (by omega)))
set_option maxRecDepth 16384 in
theorem c_bset (hS : shape h) (im : imC h 48 P m) (ok : imOK m) (hP : inj6 P) (w : rowAt h 45 600 n f) (hB : txA f n B) (hs : s ≤ e + 1) (he : e ≤ n)
    (hQ : ∀ x m' P' h', setL B s e m x m' → inj6 P' → imC h' 48 P' m' → frm (imA 48) h h' → (shape h → shape h') → Q (.inl (some (.int (nI x)))) h') :
    px_Wp sx 135 0 [some (.ref 47), some (.ref 45), some (.int (nI s)), some (.int (nI e)), none, none, none, none] [] h Q := by
  have hN := w.2.2
  have hcl : px_cls h 45 = some 1 := by unfold px_cls; rw [w.1]
  have no : ¬ setG B s e → Q (.inl (some (.int 1))) h := fun z => hQ 1 m P h (.inl ⟨z, rfl, rfl⟩) hP im (frm_refl _ _) (fun z => z)
  simp only [pc135_0, pc135_0n, pc135_1, pc135_3, pc135_4, pc135_5, hcl, true_and]
  by_cases x0 : s = e + 1
  · refine c_rfind_no (c := 32) (by omega) (by omega) ?_
    have le : nI e ≤ nI s := nI_le (by omega) (by omega)
    simp only [px_K_some, pc135_8, pc135_10, pc135_12, pc135_13, pc135_14, pc135_16, pc135_17, pc135_19, pc135_20, pc135_22, pc135_24, pc135_25, pc135_63, pc135_64, px_op_some, px_kv_ap, px_ki_ap, px_kl_ap, px_kn_ap, px_kh_ap, px_op_none, px_K_some, px_K_none, px_K_thr, px_kill, ↓reduceIte, if_true, if_false, true_and, and_true, px_kill, le]
    exact no (fun z => by have := z.1; omega)
  refine c_rfind (c := 32) w hB (by decide) (by omega) he ?_
  obtain ⟨r1, r2⟩ := fnd_rng (B := B) (c := 32) (e - s) s
  generalize hk : fnd B 32 s (e - s) = k at r1 r2
  have GG : setG B s e ↔ s < k ∧ k ≤ s + 8 ∧ k + 2 ≤ e ∧ e ≤ k + 13 ∧ fnd B 32 (k + 1) (e - (k + 1)) = e ∧ ∀ j, s ≤ j → j < k → 97 ≤ B j ∧ B j ≤ 122 := by
    unfold setG; rw [hk]
    exact ⟨fun z => z.2, fun z => ⟨by omega, z⟩⟩
  by_cases x1 : k ≤ s
  · have le : nI k ≤ nI s := nI_le x1 (by omega)
    simp only [px_K_some, pc135_8, pc135_10, pc135_12, pc135_13, pc135_14, pc135_16, pc135_17, pc135_19, pc135_20, pc135_22, pc135_24, pc135_25, pc135_63, pc135_64, px_op_some, px_kv_ap, px_ki_ap, px_kl_ap, px_kn_ap, px_kh_ap, px_op_none, px_K_some, px_K_none, px_K_thr, px_kill, ↓reduceIte, if_true, if_false, true_and, and_true, px_kill, le]
    exact no (fun z => by have := (GG.mp z).1; omega)
  have nle : ¬ nI k ≤ nI s := nI_ge (by omega) (by omega)
  have sb : nI k - nI s = nI (k - s) := nI_sub (by omega)
  by_cases x2 : 8 < k - s
  · have lt : 8 < nI (k - s) := (nI_ltI (a := 8) (by decide) (by omega)).mpr x2
    simp only [px_K_some, pc135_8, pc135_10, pc135_12, pc135_13, pc135_14, pc135_16, pc135_17, pc135_19, pc135_20, pc135_22, pc135_24, pc135_25, pc135_28, pc135_30, pc135_31, pc135_32, pc135_34, pc135_63, pc135_64, px_op_some, px_kv_ap, px_ki_ap, px_kl_ap, px_kn_ap, px_kh_ap, px_op_none, px_K_some, px_K_none, px_K_thr, px_kill, ↓reduceIte, if_true, if_false, true_and, and_true, px_kill, nle, sb, lt]
    exact no (fun z => by have := (GG.mp z).2.1; omega)
  have nlt : ¬ 8 < nI (k - s) := nI_nlt (a := 8) (by omega) (by decide)
  by_cases x3 : e ≤ k + 1
  · have lt : nI e - nI (k + 1) < 1 := (sub_lt1 (by omega) (by omega)).mpr x3
    simp only [px_K_some, pc135_8, pc135_10, pc135_12, pc135_13, pc135_14, pc135_16, pc135_17, pc135_19, pc135_20, pc135_22, pc135_24, pc135_25, pc135_28, pc135_30, pc135_31, pc135_32, pc135_34, pc135_37, pc135_39, pc135_40, pc135_63, pc135_64, px_op_some, px_kv_ap, px_ki_ap, px_kl_ap, px_kn_ap, px_kh_ap, px_op_none, px_K_some, px_K_none, px_K_thr, px_kill, ↓reduceIte, if_true, if_false, true_and, and_true, px_kill, nle, sb, nlt, nI_p1, lt]
    exact no (fun z => by have := (GG.mp z).2.2.1; omega)
  have sc : nI e - nI (k + 1) = nI (e - (k + 1)) := nI_sub (by omega)
  have nl1 : ¬ nI (e - (k + 1)) < 1 := nI_nlt (b := 1) (by omega) (by omega)
  by_cases x4 : 12 < e - (k + 1)
  · have lt : 12 < nI (e - (k + 1)) := (nI_ltI (a := 12) (by decide) (by omega)).mpr x4
    simp only [px_K_some, pc135_8, pc135_10, pc135_12, pc135_13, pc135_14, pc135_16, pc135_17, pc135_19, pc135_20, pc135_22, pc135_24, pc135_25, pc135_28, pc135_30, pc135_31, pc135_32, pc135_34, pc135_37, pc135_39, pc135_40, pc135_43, pc135_45, pc135_47, pc135_63, pc135_64, px_op_some, px_kv_ap, px_ki_ap, px_kl_ap, px_kn_ap, px_kh_ap, px_op_none, px_K_some, px_K_none, px_K_thr, px_kill, ↓reduceIte, if_true, if_false, true_and, and_true, px_kill, nle, sb, nlt, nI_p1, sc, nl1, lt]
    exact no (fun z => by have := (GG.mp z).2.2.2.1; omega)
  have nl12 : ¬ 12 < nI (e - (k + 1)) := nI_nlt (a := 12) (by omega) (by decide)
  simp only [px_K_some, pc135_8, pc135_10, pc135_12, pc135_13, pc135_14, pc135_16, pc135_17, pc135_19, pc135_20, pc135_22, pc135_24, pc135_25, pc135_28, pc135_30, pc135_31, pc135_32, pc135_34, pc135_37, pc135_39, pc135_40, pc135_43, pc135_45, pc135_47, pc135_50, pc135_50n, pc135_51, pc135_53, pc135_55, pc135_56, px_op_some, px_kv_ap, px_ki_ap, px_kl_ap, px_kn_ap, px_kh_ap, px_op_none, px_K_some, px_K_none, px_K_thr, px_kill, ↓reduceIte, if_true, if_false, true_and, and_true, px_kill, nle, sb, nlt, nI_p1, sc, nl1, nl12, hcl]
  refine c_rfind (c := 32) w hB (by decide) (by omega) he ?_
  obtain ⟨t1, t2⟩ := fnd_rng (B := B) (c := 32) (e - (k + 1)) (k + 1)
  by_cases x5 : fnd B 32 (k + 1) (e - (k + 1)) = e
  · have ge : nI e ≤ nI (fnd B 32 (k + 1) (e - (k + 1))) := by rw [x5]; exact Int32.le_refl _
    simp only [px_K_some, pc135_59, pc135_60, pc135_63, pc135_64, pc135_65, pc135_66, px_op_some, px_kv_ap, px_ki_ap, px_kl_ap, px_kn_ap, px_kh_ap, px_op_none, px_K_some, px_K_none, px_K_thr, px_kill, ↓reduceIte, if_true, if_false, true_and, and_true, px_kill, ge]
    refine c_bset_l w hB (by omega) (fun z => no (fun g => z (GG.mp g).2.2.2.2.2)) (fun z => ?_) (k - s) s (by omega) (Nat.le_refl _) (fun j a b => absurd b (by omega))
    have good : setG B s e := GG.mpr ⟨by omega, by omega, by omega, by omega, x5, z⟩
    have hl : ltr (patF B s (k - s)) (k - s) := ltr_pat (fun j hj => z _ (by omega) (by omega))
    have c8 : px_cls h 48 = some 6 := by unfold px_cls; rw [at_48 hS]
    simp only [pc135_92, pc135_92n, pc135_93, pc135_96, pc135_96n, pc135_97, pc135_98, pc135_100, px_op_some, px_kv_ap, px_ki_ap, px_kl_ap, px_kn_ap, px_kh_ap, px_op_none, px_K_some, px_K_none, px_K_thr, px_kill, ↓reduceIte, if_true, if_false, true_and, and_true, px_gf, at_47 hS, List.getElem?_cons_zero, List.getElem?_cons_succ, c8]
    have go := c_settingOf (sx := sx) (vl := e - (k + 1)) (v := patF B (k + 1) (e - (k + 1))) (Q := px_K sx 135 103 [some (.ref 47), some (.ref 45), some (.int (nI s)), some (.int (nI e)), some (.int (nI k)), some (.int (nI (k + 1))), some (.int (nI (e - (k + 1)))), some (.int (nI k))] [] Q) im ok hP w (by unfold imA; omega) (by unfold imA; omega) hB hl (show s + (k - s) ≤ n by omega) (by omega) (fun j P' m' h1 sr hj ev1 ev2 ij iw fr sh => ?_) (fun sr => ?_)
    · rw [show s + (k - s) = k by omega] at go
      exact go
    · obtain ⟨i2, io, rows⟩ := iw
      have i2' := i2
      obtain ⟨sf, s1, s2⟩ := i2'
      have w1 : rowAt h1 45 600 n f := frm_rowAt fr (by unfold imA; omega) (by unfold imA; omega) w
      have j6 : j < 6 := by
        have := (setR_ok ok ⟨by omega, by omega⟩ ⟨by omega, by omega⟩ hl (fun q hq => by rw [patF_lt hq]; exact (hB _ (by omega)).2) sr).2.1
        omega
      obtain ⟨y1, y2, y3, -⟩ := s2 j j6
      obtain ⟨F, G, n2, u1, u2, u3, u4⟩ := rows j hj
      have hc5 : px_cls h1 (48 + 3 + 5 * P' j) = some 5 := by unfold px_cls; rw [y3]
      have hl3 := rowAt_lt u3
      simp only [px_K_some, pc135_103, pc135_103n, pc135_105, pc135_105n, pc135_107n, pc135_107, pc135_110, pc135_111, pc135_112, pc135_112n, pc135_114, pc135_114n, pc135_115, pc135_117, pc135_119, px_op_some, px_kv_ap, px_ki_ap, px_kl_ap, px_kn_ap, px_kh_ap, px_op_none, px_K_some, px_K_none, px_K_thr, px_kill, ↓reduceIte, if_true, if_false, true_and, and_true, px_kill, hc5]
      refine c_setValue (S := 48 + 3 + 5 * P' j) (z := 48 + 3 + 5 * P' j + 1) y3 u3 w1 (by omega) (by omega) (by omega) (by omega) (by omega) ?_
      simp only [px_K_none, pc135_122, pc135_123, px_op_some, px_kv_ap, px_ki_ap, px_kl_ap, px_kn_ap, px_kh_ap, px_op_none, px_K_some, px_K_none, px_K_thr, px_kill, ↓reduceIte, if_true, if_false, true_and, and_true]
      refine hQ 0 m' P' _ (.inr ⟨good, by rw [hk]; exact sr⟩) ij ?_ (frm_row fr (by unfold imA; omega) (by unfold imA; omega)) (fun z => shape_row (sh z) u3)
      generalize hh2 : rowH h1 (48 + 3 + 5 * P' j + 3) 12 (e - (k + 1)) _ = h2
      have a2 : ∀ q, q ≠ 48 + 3 + 5 * P' j + 3 → q ≠ 48 + 3 + 5 * P' j + 4 → h2.2[q]? = h1.2[q]? := fun q k1 k2 => by rw [← hh2, rowH_at (fun z => k1 z.symm) (fun z => k2 z.symm)]
      have rw2 : ∀ (R M n2 : Nat) (f2 : Nat → Int32), rowAt h1 R M n2 f2 → (R + 1 < 48 + 3 + 5 * P' j + 3 ∨ 48 + 3 + 5 * P' j + 4 < R) → rowAt h2 R M n2 f2 := fun R M n2 f2 z x => ⟨by rw [a2 R (by omega) (by omega)]; exact z.1, by rw [a2 _ (by omega) (by omega)]; exact z.2.1, z.2.2⟩
      have nw : rowAt h2 (48 + 3 + 5 * P' j + 3) 12 (e - (k + 1)) (va_cpy f G (k + 1) 0 (e - (k + 1))) := by rw [← hh2]; exact rowAt_rowH hl3 (by omega) (by decide)
      have dj : ∀ t, t < 6 → t ≠ j → P' t < P' j ∨ P' j < P' t := fun t h1 h2 => by
        rcases Nat.lt_trichotomy (P' t) (P' j) with x | x | x
        · exact .inl x
        · exact absurd (ij t j h1 j6 x) h2
        · exact .inr x
      obtain ⟨LL, ⟨io1, io2⟩, io3⟩ := io
      refine ⟨⟨sf, by rw [a2 _ (by omega) (by omega)]; exact s1, fun t ht => ?_⟩, ⟨LL, ⟨by rw [a2 _ (by omega) (by omega)]; exact io1, by rw [a2 _ (by omega) (by omega)]; exact io2⟩, io3⟩, fun t ht => ?_⟩
      · obtain ⟨x1, x2, x3, ⟨n3, f3, x4⟩, n4, f4, x5⟩ := s2 t ht
        refine ⟨x1, x2, by rw [a2 _ (by omega) (by omega)]; exact x3, ?_, ?_⟩
        · by_cases z : t = j
          · subst z; exact ⟨_, _, rw2 _ _ _ _ x4 (by omega)⟩
          · have := dj t ht z
            exact ⟨_, _, rw2 _ _ _ _ x4 (by omega)⟩
        · by_cases z : t = j
          · subst z; exact ⟨_, _, nw⟩
          · have := dj t ht z
            exact ⟨_, _, rw2 _ _ _ _ x5 (by omega)⟩
      · have t6 : t < 6 := by
          have := (setR_ok ok ⟨by omega, by omega⟩ ⟨by omega, by omega⟩ hl (fun q hq => by rw [patF_lt hq]; exact (hB _ (by omega)).2) sr).2.1
          omega
        obtain ⟨F, G, n3, v1, v2, v3, v4⟩ := rows t ht
        by_cases z : t = j
        · subst z
          rw [ev1, ev2]
          exact ⟨F, _, rw2 _ _ _ _ v1 (by omega), v2, nw, txA_cpy hB (by omega)⟩
        · have := dj t t6 z
          obtain ⟨v5, v6⟩ := v4 z
          subst v5
          exact ⟨F, G, rw2 _ _ _ _ v1 (by omega), v2, rw2 _ _ _ _ v3 (by omega), v6⟩
    · simp only [px_K_some, pc135_103, pc135_103n, pc135_105, pc135_105n, pc135_107n, pc135_107, pc135_110, pc135_111, px_op_some, px_kv_ap, px_ki_ap, px_kl_ap, px_kn_ap, px_kh_ap, px_op_none, px_K_some, px_K_none, px_K_thr, px_kill, ↓reduceIte, if_true, if_false, true_and, and_true, px_kill]
      exact hQ 4 m P h (.inr ⟨good, by rw [hk]; exact sr⟩) hP im (frm_refl _ _) (fun z => z)
  · have ge : ¬ nI e ≤ nI (fnd B 32 (k + 1) (e - (k + 1))) := nI_ge (by omega) (by omega)
    simp only [px_K_some, pc135_59, pc135_60, pc135_63, pc135_64, px_op_some, px_kv_ap, px_ki_ap, px_kl_ap, px_kn_ap, px_kh_ap, px_op_none, px_K_some, px_K_none, px_K_thr, px_kill, ↓reduceIte, if_true, if_false, true_and, and_true, px_kill, ge]
    exact no (fun z => x5 (GG.mp z).2.2.2.2.1)
end BSET
