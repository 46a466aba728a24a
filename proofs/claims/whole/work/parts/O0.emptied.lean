/-! A DIRECTORY THAT HAS LOST ALL -/
noncomputable def pif {α : Type} (P : Prop) (a b : α) : α := @ite α P (Classical.propDecidable P) a b
set_option maxRecDepth 16384 in
theorem pif_t {α : Type} {P : Prop} {a b : α} (h : P) : pif P a b = a := by unfold pif; exact if_pos h
set_option maxRecDepth 16384 in
theorem pif_f {α : Type} {P : Prop} {a b : α} (h : ¬ P) : pif P a b = b := by unfold pif; exact if_neg h
noncomputable def cntP (P : Nat → Prop) : Nat → Nat
  | 0 => 0
  | n + 1 => cntP P n + pif (P n) 1 0
set_option maxRecDepth 16384 in
theorem cntP_t {P : Nat → Prop} {n : Nat} (h : P n) : cntP P (n + 1) = cntP P n + 1 := by
  show cntP P n + pif (P n) 1 0 = _
  rw [pif_t h]
set_option maxRecDepth 16384 in
theorem cntP_f {P : Nat → Prop} {n : Nat} (h : ¬ P n) : cntP P (n + 1) = cntP P n := by
  show cntP P n + pif (P n) 1 0 = _
  rw [pif_f h, Nat.add_zero]
set_option maxRecDepth 16384 in
theorem cntP_le {P : Nat → Prop} : ∀ n, cntP P n ≤ n
  | 0 => Nat.le_refl _
  | n + 1 => by
    have := cntP_le (P := P) n
    rcases Classical.em (P n) with h | h
    · rw [cntP_t h]; omega
    · rw [cntP_f h]; omega
set_option maxRecDepth 16384 in
theorem cntP_ext {P : Nat → Prop} {b : Nat} : ∀ d, (∀ i, b ≤ i → i < b + d → ¬ P i) → cntP P (b + d) = cntP P b
  | 0, _ => rfl
  | d + 1, h => by
    have := cntP_ext (P := P) (b := b) d (fun i h1 h2 => h i h1 (by omega))
    show cntP P (b + d + 1) = _
    rw [cntP_f (h (b + d) (by omega) (by omega)), this]
set_option maxRecDepth 16384 in
theorem cntP_z {P : Nat → Prop} : ∀ n, cntP P n = 0 ↔ ∀ i, i < n → ¬ P i
  | 0 => ⟨fun _ i hi => absurd hi (Nat.not_lt_zero i), fun _ => rfl⟩
  | n + 1 => by
    have ih := cntP_z (P := P) n
    rcases Classical.em (P n) with h | h
    · rw [cntP_t h]
      exact ⟨fun z => by omega, fun z => absurd h (z n (by omega))⟩
    · rw [cntP_f h, ih]
      refine ⟨fun z i hi => ?_, fun z i hi => z i (by omega)⟩
      by_cases x : i = n
      · subst x; exact h
      · exact z i (by omega)
def chd (p : Nat → Nat) (l : Nat) (e : aE) : Prop := homeL (eP e) (eL e) = l ∧ cutP (eP e) l = p
def chs (n : Nat) (E : Nat → aE) (i j : Nat) : Prop := chd (eP (E i)) (eL (E i)) (E j)
def isE (n : Nat) (E : Nat → aE) (m : Nat) (F : Nat → aE) (i : Nat) : Prop := 2 ≤ cntP (chs n E i) n ∧ ∀ j, j < n → chs n E i j → ¬ inT m F (eP (E j))
set_option maxRecDepth 16384 in
theorem chd_blw {p : Nat → Nat} {l : Nat} {e : aE} (ok : pth (eP e) (eL e)) (hl : l ≠ 0) (c : chd p l e) : blw p l (eP e) := by
  obtain ⟨c1, c2⟩ := c
  have z := home_blw ok (by rw [c1]; exact hl)
  rw [c1, c2] at z
  exact z.2.2.1
set_option maxRecDepth 16384 in
theorem blw_chd {p : Nat → Nat} {l : Nat} {e : aE} (hp : pth p l) (b : blw p l (eP e)) (c : homeL (eP e) (eL e) = l) : chd p l e := by
  refine ⟨c, funext fun j => ?_⟩
  by_cases x : j < l
  · rw [cutP_lt x]; exact b.1 j x
  · rw [cutP_ge (by omega)]; exact (hp.2.2.2.1 j (by omega)).symm
section EMPTIED
variable {sx : Nat × (Nat → Int32)} {h : px_H} {T T' n m i : Nat} {E F : Nat → aE} {V : Nat → Int32} {Q : px_O → px_H → Prop}
set_option maxRecDepth 16384 in
theorem c_isEmptied (t : trR h T n E) (t' : trR h T' m F) (ok : tOK n E) (ok' : tOK m F) (hi : i < n) (hQ : ∀ x, says x (isE n E m F i) → Q (.inl (some (.int x))) h) :
    px_Wp sx 73 0 [some (.ref T), some (.int (nI i)), some (.ref T'), none, none, none, none] [] h Q := by
  have h80 := ok.1
  have hcT' : px_cls h T' = some 3 := by unfold px_cls; rw [t'.1]
  obtain ⟨t1, t2, ra, t3, t4, t5⟩ := t
  obtain ⟨O, x1, x2⟩ := t5 i hi
  have x3 := x2
  obtain ⟨src, st, cn, gg, y1, -⟩ := x3
  unfold enF at y1
  have oki := (ok.2.1 i hi).1
  have l0 : eL (E i) ≠ 0 := by have := oki.1; omega
  have l35 := oki.2.1
  have ii : px_in (nI i) 80 = true := px_inb (by omega) (by decide)
  have ci : (nI i).toNatClampNeg = i := nI_clamp (by omega)
  have p0 : 0 ≤ nI i := nI_pos' (by omega)
  have fin : ∀ b l6, endE n E i b → (∀ j, j < b → chs n E i j → ¬ inT m F (eP (E j))) → px_Wp sx 73 90 [some (.ref T), some (.int (nI i)), some (.ref T'), some (.ref O), some (.int (nI (cntP (chs n E i) b))), some (.int (nI b)), l6] [] h Q := fun b l6 eb q => by
    have no : ∀ j, b ≤ j → j < n → ¬ chs n E i j := fun j j1 j2 z => by
      have := (end_iff ok hi eb j2).mp (chd_blw (ok.2.1 j j2).1 l0 z)
      omega
    have e : cntP (chs n E i) n = cntP (chs n E i) b := by
      have := cntP_ext (P := chs n E i) (b := b) (n - b) (fun j j1 j2 => no j j1 (by have := eb.2.1; omega))
      rw [show b + (n - b) = n by have := eb.2.1; omega] at this
      exact this
    have cl := cntP_le (P := chs n E i) b
    have bn := eb.2.1
    have q' : ∀ j, j < n → chs n E i j → ¬ inT m F (eP (E j)) := fun j j1 z => by
      by_cases y : j < b
      · exact q j y z
      · exact absurd z (no j (by omega) j1)
    by_cases c2 : 2 ≤ cntP (chs n E i) b
    · have g : ¬ nI (cntP (chs n E i) b) < 2 := fun z => by
        have := nI_le (a := 2) (b := cntP (chs n E i) b) c2 (by omega)
        exact Int32.lt_irrefl (Int32.lt_of_lt_of_le z this)
      simp only [pc73_90, pc73_92, pc73_93, pc73_96, pc73_97, pc73_100, pc73_101, g, if_false, nar_1]
      exact hQ 1 (.inl ⟨rfl, by rw [e]; exact c2, q'⟩)
    · have g : nI (cntP (chs n E i) b) < 2 := nI_lt (b := 2) (by omega) (by omega)
      simp only [pc73_90, pc73_92, pc73_93, pc73_96, pc73_97, pc73_100, pc73_101, g, if_true, nar_0]
      exact hQ 0 (.inr ⟨rfl, fun z => c2 (by have := z.1; rw [e] at this; exact this)⟩)
  have lp : ∀ d b, b + d = n → i < b → ∀ l6, (∀ j, j < b → chs n E i j → ¬ inT m F (eP (E j))) → (∀ j, i < j → j < b → blw (eP (E i)) (eL (E i)) (eP (E j))) → px_Wp sx 73 21 [some (.ref T), some (.int (nI i)), some (.ref T'), some (.ref O), some (.int (nI (cntP (chs n E i) b))), some (.int (nI b)), l6] [] h Q := by
    intro d
    induction d with
    | zero =>
      intro b hb ib l6 q1 q2
      have hb : b = n := by omega
      subst hb
      have le : nI b ≤ nI b := Int32.le_refl _
      simp only [pc73_21, pc73_23, pc73_23n, pc73_24, pc73_27, px_op_some, px_kv_ap, px_ki_ap, px_kl_ap, px_kn_ap, px_kh_ap, px_op_none, px_K_some, px_K_none, px_K_thr, px_kill, ↓reduceIte, if_true, if_false, true_and, and_true, px_gf, t1, List.getElem?_cons_zero, List.getElem?_cons_succ, le]
      exact fin b l6 ⟨ib, Nat.le_refl _, q2, .inl rfl⟩ q1
    | succ d ih =>
      intro b hb ib l6 q1 q2
      have ge : ¬ nI n ≤ nI b := nI_ge (by omega) (by omega)
      have bi : px_in (nI b) 80 = true := px_inb (by omega) (by decide)
      have cb : (nI b).toNatClampNeg = b := nI_clamp (by omega)
      obtain ⟨Z, z1, z2⟩ := t5 b (by omega)
      have z3 := z2
      obtain ⟨src', st', cn', gg', w1, -⟩ := z3
      unfold enF at w1
      have hcZ : px_cls h Z = some 2 := by unfold px_cls; rw [w1]
      have okb := (ok.2.1 b (by omega)).1
      rw [pc73_21]
      simp only [pc73_23, pc73_23n, pc73_24, pc73_27, pc73_30, pc73_30n, pc73_31, pc73_34, pc73_36, pc73_37, pc73_37n, pc73_38, px_op_some, px_kv_ap, px_ki_ap, px_kl_ap, px_kn_ap, px_kh_ap, px_op_none, px_K_some, px_K_none, px_K_thr, px_kill, ↓reduceIte, if_true, if_false, true_and, and_true, px_gf, px_aa, t1, t3, List.getElem?_cons_zero, List.getElem?_cons_succ, ge, bi, cb, z1, px_rf, tg_12, Nat.reduceLeDiff, and_self, hcZ]
      refine c_below (ent_enP z2 okb) (ent_enP x2 oki) okb oki (fun x hx => ?_)
      rcases hx with ⟨rfl, hx⟩ | ⟨rfl, hx⟩
      · have q2' : ∀ j, i < j → j < b + 1 → blw (eP (E i)) (eL (E i)) (eP (E j)) := fun j j1 j2 => by
          by_cases y : j = b
          · subst y; exact hx
          · exact q2 j j1 (by omega)
        simp only [px_K_some, pc73_41, pc73_44, pc73_44n, pc73_45, pc73_48, pc73_50, pc73_51, pc73_51n, pc73_53, pc73_53n, pc73_55, px_op_some, px_kv_ap, px_ki_ap, px_kl_ap, px_kn_ap, px_kh_ap, px_op_none, px_K_some, px_K_none, px_K_thr, px_kill, ↓reduceIte, if_true, if_false, true_and, and_true, ne_1_0, px_gf, px_aa, t1, t3, List.getElem?_cons_zero, List.getElem?_cons_succ, bi, cb, z1, px_rf, tg_12, Nat.reduceLeDiff, and_self, hcZ, px_kill]
        refine c_home (ent_enP z2 okb) okb ?_
        have hh := (home_lt (p := eP (E b)) (eL (E b))).1
        have b35 := okb.2.1
        by_cases y : homeL (eP (E b)) (eL (E b)) = eL (E i)
        · have ch : chs n E i b := blw_chd oki hx y
          simp only [px_K_some, pc73_58, pc73_58n, pc73_59, pc73_62, pc73_65, pc73_65n, pc73_66, pc73_66n, pc73_68, pc73_68n, pc73_70, pc73_73, px_op_some, px_kv_ap, px_ki_ap, px_kl_ap, px_kn_ap, px_kh_ap, px_op_none, px_K_some, px_K_none, px_K_thr, px_kill, ↓reduceIte, if_true, if_false, true_and, and_true, px_gf, y1, w1, y, List.getElem?_cons_zero, List.getElem?_cons_succ, not_true_eq_false, hcT']
          refine c_search t' ok' (ent_enP z2 okb) okb (Nat.le_refl _) okb.1 (fun x hx => ?_)
          rw [cutP_all okb] at hx
          rcases hx with ⟨j, j1, rfl, j2⟩ | ⟨g, g1, rfl⟩
          · have pj : ¬ nI j < 0 := nI_pos (by have := ok'.1; omega)
            simp only [px_K_some, pc73_76, pc73_79, pc73_80, pj, if_false, nar_0]
            exact hQ 0 (.inr ⟨rfl, fun z => z.2 b (by omega) ch ⟨j, j1, j2⟩⟩)
          · have gn : -1 - nI g < 0 := m1_neg (by have := g1.1; have := ok'.1; omega)
            simp only [px_K_some, pc73_76, pc73_81, pc73_84, pc73_87, gn, if_true, nI_p1, px_kill]
            have := ih (b + 1) (by omega) (by omega) (some (.ref Z)) (fun j j1 j2 => ?_) q2'
            · rw [cntP_t ch] at this; exact this
            · by_cases y : j = b
              · subst y
                rintro ⟨k, k1, k2⟩
                rcases Nat.lt_or_ge k g with w | w
                · have := g1.2.1 k w; rw [k2] at this; exact plt_irr _ this
                · have := g1.2.2 k w k1; rw [k2] at this; exact plt_irr _ this
              · exact q1 j (by omega) j2
        · have ny : ¬ nI (homeL (eP (E b)) (eL (E b))) = nI (eL (E i)) := fun z => y ((nI_eq (by omega) (by omega)).mp z)
          have nc : ¬ chs n E i b := fun z => y z.1
          simp only [px_K_some, pc73_58, pc73_58n, pc73_59, pc73_62, pc73_84, pc73_87, px_op_some, px_kv_ap, px_ki_ap, px_kl_ap, px_kn_ap, px_kh_ap, px_op_none, px_K_some, px_K_none, px_K_thr, px_kill, ↓reduceIte, if_true, if_false, true_and, and_true, px_gf, y1, ny, List.getElem?_cons_zero, List.getElem?_cons_succ, not_false_eq_true, nI_p1, px_kill]
          have := ih (b + 1) (by omega) (by omega) (some (.ref Z)) (fun j j1 j2 => ?_) q2'
          · rw [cntP_f nc] at this; exact this
          · by_cases y : j = b
            · subst y; exact absurd j2 nc
            · exact q1 j (by omega) j2
      · simp only [px_K_some, pc73_41, if_true]
        exact fin b l6 ⟨ib, by omega, q2, .inr hx⟩ q1
  have no : ∀ j, j < i + 1 → ¬ chs n E i j := fun j j1 z => by
    have b := chd_blw (ok.2.1 j (by omega)).1 l0 z
    have := blw_gt oki b
    by_cases y : j = i
    · subst y; exact plt_irr _ this
    · exact plt_asym this (ok.2.2.1 j i (by omega) hi)
  have e0 : cntP (chs n E i) (i + 1) = 0 := (cntP_z _).mpr no
  simp only [pc73_0, pc73_1, pc73_6, pc73_6n, pc73_7, pc73_10, pc73_11, pc73_12, pc73_12n, pc73_13, pc73_14, pc73_16, pc73_17, pc73_18, pc73_19, px_op_some, px_kv_ap, px_ki_ap, px_kl_ap, px_kn_ap, px_kh_ap, px_op_none, px_K_some, px_K_none, px_K_thr, px_kill, ↓reduceIte, if_true, if_false, true_and, and_true, px_gf, px_aa, t1, t3, p0, ii, ci, x1, px_rf, tg_12, Nat.reduceLeDiff, and_self, List.getElem?_cons_zero, List.getElem?_cons_succ, nI_p1, px_kill]
  have := lp (n - (i + 1)) (i + 1) (by omega) (by omega) none (fun j j1 j2 => absurd j2 (no j j1)) (fun j j1 j2 => absurd j2 (by omega))
  rw [e0] at this
  exact this
set_option maxRecDepth 16384 in
theorem m_isEmptied (h6 : h.2[619]? = some (.inl (11, modF V))) (hv : V 26 = nI n) (hv' : V 20 = nI m) (hn : n ≤ 46) (hm : m ≤ 81) (wo : moE h n E) (we : mtE h (fun i => i < m) F) (hi : i < n) (hQ : ∀ x, says x (isE n E m F i) → Q (.inl (some (.int x))) h) :
    px_Wp sx 213 0 [some (.ref 619), some (.int (nI i)), none, none, none, none, none] [] h Q := by
  have wo' := wo
  obtain ⟨P, LN, K, Z, C, ⟨a1, a2, a3, a4, a5⟩, w2⟩ := wo'
  obtain ⟨i46, oki, r1, r2, r3, r4, r5⟩ := w2 i hi
  have l35 := oki.1.2.1
  have l0 : 1 ≤ eL (E i) := oki.1.1
  have hcls : px_cls h 619 = some 11 := by unfold px_cls; rw [h6]
  have ii : px_in (nI i) 46 = true := px_inb i46 (by decide)
  have ci : (nI i).toNatClampNeg = i := nI_clamp (by omega)
  have lp : ∀ d b, b + d = n → ∀ l6, px_Wp sx 213 15 [some (.ref 619), some (.int (nI i)), some (.int (nI (cntP (chs n E i) b))), some (.int (nI (cntP (fun j => chs n E i j ∧ inT m F (eP (E j))) b))), some (.int (nI (eL (E i)))), some (.int (nI b)), l6] [] h Q := by
    intro d
    induction d with
    | zero =>
      intro b hb l6
      have hb : b = n := by omega
      subst hb
      have le : nI b ≤ nI b := Int32.le_refl _
      have cl := cntP_le (P := chs b E i) b
      have cl2 := cntP_le (P := fun j => chs b E i j ∧ inT m F (eP (E j))) b
      by_cases c1 : 2 ≤ cntP (chs b E i) b
      · have g1 : ¬ nI (cntP (chs b E i) b) ≤ 1 := nI_ge (a := 1) (b := cntP (chs b E i) b) (by omega) (by omega)
        by_cases c2 : cntP (fun j => chs b E i j ∧ inT m F (eP (E j))) b = 0
        · have g2 : nI (cntP (fun j => chs b E i j ∧ inT m F (eP (E j))) b) = 0 := by rw [c2]; rfl
          simp only [pc213_15, pc213_17, pc213_17n, pc213_18, pc213_21, pc213_131, pc213_132, pc213_133, pc213_136, pc213_137, pc213_140, pc213_141, pc213_144, pc213_145, px_op_some, px_kv_ap, px_ki_ap, px_kl_ap, px_kn_ap, px_kh_ap, px_op_none, px_K_some, px_K_none, px_K_thr, px_kill, ↓reduceIte, if_true, if_false, true_and, and_true, px_gf, h6, mf_26, hv, le, g1, g2, not_true_eq_false, nar_1]
          exact hQ 1 (.inl ⟨rfl, c1, fun j j1 j2 j3 => (cntP_z _).mp c2 j j1 ⟨j2, j3⟩⟩)
        · have g2 : ¬ nI (cntP (fun j => chs b E i j ∧ inT m F (eP (E j))) b) = 0 := fun z => c2 ((nI_eq (b := 0) (by omega) (by decide)).mp z)
          simp only [pc213_15, pc213_17, pc213_17n, pc213_18, pc213_21, pc213_131, pc213_132, pc213_133, pc213_136, pc213_137, pc213_140, pc213_141, pc213_144, pc213_145, px_op_some, px_kv_ap, px_ki_ap, px_kl_ap, px_kn_ap, px_kh_ap, px_op_none, px_K_some, px_K_none, px_K_thr, px_kill, ↓reduceIte, if_true, if_false, true_and, and_true, px_gf, h6, mf_26, hv, le, g1, g2, not_false_eq_true, nar_0]
          exact hQ 0 (.inr ⟨rfl, fun z => c2 ((cntP_z _).mpr (fun j j1 j2 => z.2 j j1 j2.1 j2.2))⟩)
      · have g1 : nI (cntP (chs b E i) b) ≤ 1 := nI_le (a := cntP (chs b E i) b) (b := 1) (by omega) (by omega)
        simp only [pc213_15, pc213_17, pc213_17n, pc213_18, pc213_21, pc213_131, pc213_132, pc213_133, pc213_136, pc213_137, pc213_140, pc213_141, pc213_144, pc213_145, px_op_some, px_kv_ap, px_ki_ap, px_kl_ap, px_kn_ap, px_kh_ap, px_op_none, px_K_some, px_K_none, px_K_thr, px_kill, ↓reduceIte, if_true, if_false, true_and, and_true, px_gf, h6, mf_26, hv, le, g1, nar_0]
        exact hQ 0 (.inr ⟨rfl, fun z => c1 z.1⟩)
    | succ d ih =>
      intro b hb l6
      have ge : ¬ nI n ≤ nI b := nI_ge (by omega) (by omega)
      obtain ⟨b46, okb, s1, s2, s3, s4, s5⟩ := w2 b (by omega)
      have b35 := okb.1.2.1
      have bi : px_in (nI b) 46 = true := px_inb b46 (by decide)
      have cb : (nI b).toNatClampNeg = b := nI_clamp (by omega)
      have no : ¬ chs n E i b → ∀ l6, px_Wp sx 213 81 [some (.ref 619), some (.int (nI i)), some (.int (nI (cntP (chs n E i) b))), some (.int (nI (cntP (fun j => chs n E i j ∧ inT m F (eP (E j))) b))), some (.int (nI (eL (E i)))), some (.int (nI b)), l6] [.int 0] h Q := fun nc l6 => by
        simp only [pc213_81, pc213_83, pc213_85, pc213_88, pc213_89, pc213_90, pc213_91, pc213_94, pc213_95, pc213_96, pc213_98, pc213_101, pc213_101n, pc213_102, pc213_104, pc213_104n, pc213_105, pc213_108, pc213_110, pc213_111, pc213_114, pc213_117, pc213_118, pc213_119, pc213_120, pc213_123, pc213_124, pc213_125, pc213_128, nI_p1, px_kill, if_true]
        have := ih (b + 1) (by omega) (some (.int 0))
        rw [cntP_f nc, cntP_f (P := fun j => chs n E i j ∧ inT m F (eP (E j))) (fun z => nc z.1)] at this
        exact this
      rw [pc213_15]
      simp only [pc213_17, pc213_17n, pc213_18, pc213_21, pc213_24, pc213_24n, pc213_25, pc213_28, pc213_30, pc213_32, pc213_33, pc213_33n, pc213_34, pc213_37, pc213_39, pc213_40, px_op_some, px_kv_ap, px_ki_ap, px_kl_ap, px_kn_ap, px_kh_ap, px_op_none, px_K_some, px_K_none, px_K_thr, px_kill, ↓reduceIte, if_true, if_false, true_and, and_true, px_gf, px_ai, h6, mf_26, mf_27, mf_28, hv, ge, mul_36, a2, bi, cb, s1, tg_i1, and_self]
      refine m_above a1 (by decide) (by omega) okb.1 s4 ?_
      unfold abv
      have hh := (home_lt (p := eP (E b)) (eL (E b))).1
      by_cases y : homeL (eP (E b)) (eL (E b)) = eL (E i)
      · have y0 : ¬ homeL (eP (E b)) (eL (E b)) = 0 := by omega
        have lb : eL (E i) < eL (E b) := by rw [← y]; exact (home_lt (p := eP (E b)) (eL (E b))).2 okb.1.1
        rw [if_neg y0]
        simp only [px_K_some, pc213_43, pc213_45, pc213_48, pc213_48n, pc213_49, pc213_49n, pc213_50, pc213_53, pc213_55, pc213_57, pc213_58, pc213_60, pc213_60n, pc213_61, pc213_64, pc213_66, pc213_67, pc213_68, pc213_70, px_op_some, px_kv_ap, px_ki_ap, px_kl_ap, px_kn_ap, px_kh_ap, px_op_none, px_K_some, px_K_none, px_K_thr, px_kill, ↓reduceIte, if_true, if_false, true_and, and_true, px_gf, h6, mf_27, y, mul_36, not_true_eq_false, hcls]
        refine m_compare (p := cutP (eP (E b)) (eL (E i))) (q := eP (E i)) a1 a1 (by decide) (by decide) (by omega) (by omega) (sgs_cut (pth_rng okb.1) (by omega)) (pth_rng oki.1) (fun j hj => by rw [cutP_lt hj]; exact s4 j (by omega)) r4 (fun v hv2 => ?_)
        rcases hv2 with ⟨rfl, ev⟩ | ev
        · have ch : chs n E i b := ⟨y, ev⟩
          simp only [px_K_some, pc213_73, pc213_76, pc213_77, pc213_80, pc213_81, pc213_83, pc213_85, pc213_88, pc213_89, pc213_90, pc213_91, pc213_94, pc213_95, pc213_96, pc213_98, pc213_101, pc213_101n, pc213_102, pc213_104, pc213_104n, pc213_105, pc213_108, pc213_110, pc213_111, px_op_some, px_kv_ap, px_ki_ap, px_kl_ap, px_kn_ap, px_kh_ap, px_op_none, px_K_some, px_K_none, px_K_thr, px_kill, ↓reduceIte, if_true, if_false, true_and, and_true, px_gf, px_ai, h6, mf_28, a2, bi, cb, s1, tg_i1, and_self, not_true_eq_false, ne_1_0, nI_p1, hcls, px_kill]
          refine m_newOf h6 hv' hm we wo (by omega) (Nat.le_refl _) (fun x hx => ?_)
          rw [cutP_all okb.1] at hx
          have nx := ih (b + 1) (by omega) (some (.int 1))
          rw [cntP_t ch] at nx
          rcases hx with ⟨j, j1, j2, rfl⟩ | ⟨j1, rfl⟩
          · have pj : ¬ nI j < 0 := nI_pos (by omega)
            simp only [px_K_some, pc213_114, pc213_117, pc213_118, pc213_119, pc213_120, pc213_123, pc213_124, pc213_125, pc213_128, pj, if_false, nI_p1, px_kill]
            rw [cntP_t (P := fun j => chs n E i j ∧ inT m F (eP (E j))) ⟨ch, j, j1, j2⟩] at nx
            exact nx
          · have pj : (-1 : Int32) < 0 := by decide
            simp only [px_K_some, pc213_114, pc213_117, pc213_118, pc213_119, pc213_120, pc213_123, pc213_124, pc213_125, pc213_128, pj, if_true, nI_p1, px_kill]
            rw [cntP_f (P := fun j => chs n E i j ∧ inT m F (eP (E j))) (fun z => by obtain ⟨-, j, z1, z2⟩ := z; exact j1 j z1 z2)] at nx
            exact nx
        · have nv : ¬ v = 0 := fun z => by
            subst z
            rcases ev with ⟨y1, -⟩ | ⟨y1, -⟩ <;> exact Int32.lt_irrefl y1
          have nc : ¬ chs n E i b := fun z => by
            rw [z.2] at ev
            rcases ev with ⟨-, y1⟩ | ⟨-, y1⟩ <;> exact plt_irr _ y1
          simp only [px_K_some, pc213_73, pc213_80, nv, not_false_eq_true, if_true]
          exact no nc _
      · have nc : ¬ chs n E i b := fun z => y z.1
        have ny : ¬ (if homeL (eP (E b)) (eL (E b)) = 0 then -1 else nI (homeL (eP (E b)) (eL (E b)))) = nI (eL (E i)) := fun z => by
          by_cases y0 : homeL (eP (E b)) (eL (E b)) = 0
          · rw [if_pos y0] at z
            have p := nI_pos (n := eL (E i)) (by omega)
            rw [← z] at p
            exact p (by decide)
          · rw [if_neg y0] at z
            exact y ((nI_eq (by omega) (by omega)).mp z)
        simp only [px_K_some, pc213_43, pc213_45, pc213_80, ny, not_false_eq_true, if_true]
        exact no nc _
  simp only [pc213_0, pc213_1, pc213_2, pc213_3, pc213_4, pc213_4n, pc213_5, pc213_8, pc213_9, pc213_10, pc213_12, pc213_13, px_op_some, px_kv_ap, px_ki_ap, px_kl_ap, px_kn_ap, px_kh_ap, px_op_none, px_K_some, px_K_none, px_K_thr, px_kill, ↓reduceIte, if_true, if_false, true_and, and_true, px_gf, px_ai, h6, mf_28, a2, ii, ci, r1, tg_i1, and_self, px_kill]
  exact lp n 0 (by omega) none
end EMPTIED
