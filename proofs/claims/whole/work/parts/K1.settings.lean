/-! AN IMAGE AS BOTH SIDES HOLD IT -/
abbrev aM : Type := (Nat × (Nat → Int64)) × Nat × (Nat → Nat) × (Nat → Nat → Nat) × (Nat → Nat) × (Nat → Nat → Nat)
abbrev iL (m : aM) : Nat := m.1.1
abbrev iD (m : aM) : Nat → Int64 := m.1.2
abbrev iS (m : aM) : Nat := m.2.1
abbrev iNl (m : aM) : Nat → Nat := m.2.2.1
abbrev iN (m : aM) : Nat → Nat → Nat := m.2.2.2.1
abbrev iVl (m : aM) : Nat → Nat := m.2.2.2.2.1
abbrev iV (m : aM) : Nat → Nat → Nat := m.2.2.2.2.2
/-- l small letters, then noughts -/
def ltr (p : Nat → Nat) (l : Nat) : Prop := (∀ j, j < l → 97 ≤ p j ∧ p j ≤ 122) ∧ ∀ j, l ≤ j → p j = 0
set_option maxRecDepth 16384 in
theorem ltr_sgs {p : Nat → Nat} {l : Nat} (h : ltr p l) : sgs p l := ⟨fun j hj => by have := h.1 j hj; omega, h.2⟩
def imOK (m : aM) : Prop := iL m ≤ 12 ∧ iS m ≤ 6 ∧ (∀ s, s < iS m → (1 ≤ iNl m s ∧ iNl m s ≤ 8 ∧ 1 ≤ iVl m s ∧ iVl m s ≤ 12) ∧ ltr (iN m s) (iNl m s) ∧ ∀ k, k < iVl m s → iV m s k < 256) ∧ ∀ s t, s < t → t < iS m → plt (iN m s) (iN m t)
/-- the class's image at I -/
def imC (h : px_H) (I : Nat) (P : Nat → Nat) (m : aM) : Prop := imS h I P ∧ (∃ L, imO h I (iL m) (iS m) L ∧ ∀ i, i < iL m → L i = iD m i) ∧ ∀ s, s < iS m → ∃ F G, rowAt h (I + 3 + 5 * P s + 1) 8 (iNl m s) F ∧ txA F (iNl m s) (iN m s) ∧ rowAt h (I + 3 + 5 * P s + 3) 12 (iVl m s) G ∧ txA G (iVl m s) (iV m s)
/-- the reference's image -/
def imR (h : px_H) (V : Nat → Int32) (m : aM) : Prop := V 36 = nI (iL m) ∧ V 38 = nI (iS m) ∧ ∃ L NM NS VL VS, h.2[649]? = some (.inr (2, 13, .inr (.inl L))) ∧ h.2[650]? = some (.inr (1, 56, .inl NM)) ∧ h.2[651]? = some (.inr (1, 7, .inl NS)) ∧ h.2[652]? = some (.inr (1, 84, .inl VL)) ∧ h.2[653]? = some (.inr (1, 7, .inl VS)) ∧
  (∀ i, i < iL m → L i = iD m i) ∧ ∀ s, s < iS m → NS s = nI (iNl m s) ∧ VS s = nI (iVl m s) ∧ (∀ k, k < iNl m s → NM (8 * s + k) = nI (iN m s k)) ∧ ∀ k, k < iVl m s → VL (12 * s + k) = nI (iV m s k)
def insF {α : Type} (f : Nat → α) (g : Nat) (x : α) : Nat → α := fun i => if i < g then f i else if i = g then x else f (i - 1)
/-- where a name that isn't there would stand -/
def gapN (m : aM) (q : Nat → Nat) (g : Nat) : Prop := g ≤ iS m ∧ (∀ i, i < g → plt (iN m i) q) ∧ ∀ i, g ≤ i → i < iS m → plt q (iN m i)
set_option maxRecDepth 16384 in
theorem gapN_det {m : aM} {q : Nat → Nat} {a a' : Nat} (h1 : gapN m q a) (h2 : gapN m q a') : a = a' := by
  rcases Nat.lt_trichotomy a a' with x | x | x
  · exact absurd (plt_asym (h1.2.2 a (Nat.le_refl _) (by have := h2.1; omega)) (h2.2.1 a x)) (fun z => z)
  · exact x
  · exact absurd (plt_asym (h2.2.2 a' (Nat.le_refl _) (by have := h1.1; omega)) (h1.2.1 a' x)) (fun z => z)
set_option maxRecDepth 16384 in
theorem gapN_no {m : aM} {q : Nat → Nat} {g : Nat} (h : gapN m q g) : ∀ i, i < iS m → ¬ iN m i = q := fun i hi e => by
  by_cases x : i < g
  · have := h.2.1 i x; rw [e] at this; exact plt_irr _ this
  · have := h.2.2 i (by omega) hi; rw [e] at this; exact plt_irr _ this
/-- what a name and a value make of an image -/
def setR (m : aM) (l : Nat) (q : Nat → Nat) (vl : Nat) (v : Nat → Nat) (x : Nat) (m' : aM) : Prop :=
  (∃ i, i < iS m ∧ iN m i = q ∧ x = 0 ∧ m' = (m.1, iS m, iNl m, iN m, px_up (iVl m) i vl, px_up (iV m) i v)) ∨
  ((∀ i, i < iS m → ¬ iN m i = q) ∧ (iS m = 6 ∧ x = 4 ∧ m' = m ∨ iS m < 6 ∧ x = 0 ∧ ∃ g, gapN m q g ∧ m' = (m.1, iS m + 1, insF (iNl m) g l, insF (iN m) g q, insF (iVl m) g vl, insF (iV m) g v)))
set_option maxRecDepth 16384 in
theorem imN_uniq {m : aM} (ok : imOK m) {i j : Nat} (hi : i < iS m) (hj : j < iS m) (e : iN m i = iN m j) : i = j := by
  rcases Nat.lt_trichotomy i j with x | x | x
  · have := ok.2.2.2 i j x hj; rw [e] at this; exact absurd this (plt_irr _)
  · exact x
  · have := ok.2.2.2 j i x hi; rw [e] at this; exact absurd this (plt_irr _)
set_option maxRecDepth 16384 in
theorem setR_det {m m1 m2 : aM} {l vl x1 x2 : Nat} {q v : Nat → Nat} (ok : imOK m) (h1 : setR m l q vl v x1 m1) (h2 : setR m l q vl v x2 m2) : x1 = x2 ∧ m1 = m2 := by
  rcases h1 with ⟨i, a1, a2, a3, a4⟩ | ⟨a1, a2⟩
  · rcases h2 with ⟨j, b1, b2, b3, b4⟩ | ⟨b1, -⟩
    · have : i = j := imN_uniq ok a1 b1 (a2.trans b2.symm)
      subst this
      exact ⟨by omega, by rw [a4, b4]⟩
    · exact absurd a2 (b1 i a1)
  · rcases h2 with ⟨j, b1, b2, b3, b4⟩ | ⟨b1, b2⟩
    · exact absurd b2 (a1 j b1)
    · rcases a2 with ⟨a2, a3, a4⟩ | ⟨a2, a3, g, a4, a5⟩
      · rcases b2 with ⟨b2, b3, b4⟩ | ⟨b2, -⟩
        · exact ⟨by omega, by rw [a4, b4]⟩
        · omega
      · rcases b2 with ⟨b2, -⟩ | ⟨b2, b3, g', b4, b5⟩
        · omega
        · have := gapN_det a4 b4
          subst this
          exact ⟨by omega, by rw [a5, b5]⟩
set_option maxRecDepth 16384 in
theorem insF_lt {α : Type} {f : Nat → α} {g i : Nat} {x : α} (h : i < g) : insF f g x i = f i := if_pos h
set_option maxRecDepth 16384 in
theorem insF_eq {α : Type} {f : Nat → α} {g : Nat} {x : α} : insF f g x g = x := by unfold insF; rw [if_neg (Nat.lt_irrefl _), if_pos rfl]
set_option maxRecDepth 16384 in
theorem insF_gt {α : Type} {f : Nat → α} {g i : Nat} {x : α} (h : g < i) : insF f g x i = f (i - 1) := by unfold insF; rw [if_neg (by omega), if_neg (by omega)]
set_option maxRecDepth 16384 in
theorem setR_ok {m m' : aM} {l vl x : Nat} {q v : Nat → Nat} (ok : imOK m) (hl : 1 ≤ l ∧ l ≤ 8) (hv : 1 ≤ vl ∧ vl ≤ 12) (hq : ltr q l) (hv2 : ∀ k, k < vl → v k < 256) (h : setR m l q vl v x m') : imOK m' := by
  obtain ⟨o1, o2, o3, o4⟩ := ok
  rcases h with ⟨i, a1, a2, a3, rfl⟩ | ⟨a1, ⟨a2, a3, rfl⟩ | ⟨a2, a3, g, a4, rfl⟩⟩
  · refine ⟨o1, o2, fun s hs => ?_, o4⟩
    obtain ⟨b1, b2, b3⟩ := o3 s hs
    by_cases e : s = i
    · subst e
      refine ⟨⟨b1.1, b1.2.1, ?_⟩, b2, fun k hk => ?_⟩
      · show 1 ≤ px_up (iVl m) s vl s ∧ px_up (iVl m) s vl s ≤ 12
        rw [up_same]; exact hv
      · have hk : k < px_up (iVl m) s vl s := hk
        rw [up_same] at hk
        show px_up (iV m) s v s k < 256
        rw [up_same]; exact hv2 k hk
    · refine ⟨⟨b1.1, b1.2.1, ?_⟩, b2, fun k hk => ?_⟩
      · show 1 ≤ px_up (iVl m) i vl s ∧ px_up (iVl m) i vl s ≤ 12
        rw [up_ne e]; exact b1.2.2
      · have hk : k < px_up (iVl m) i vl s := hk
        rw [up_ne e] at hk
        show px_up (iV m) i v s k < 256
        rw [up_ne e]; exact b3 k hk
  · exact ⟨o1, o2, o3, o4⟩
  · obtain ⟨g1, g2, g3⟩ := a4
    refine ⟨o1, by show iS m + 1 ≤ 6; omega, fun s hs => ?_, fun s t hst ht => ?_⟩
    · have hs : s < iS m + 1 := hs
      show (1 ≤ insF (iNl m) g l s ∧ insF (iNl m) g l s ≤ 8 ∧ 1 ≤ insF (iVl m) g vl s ∧ insF (iVl m) g vl s ≤ 12) ∧ ltr (insF (iN m) g q s) (insF (iNl m) g l s) ∧ ∀ k, k < insF (iVl m) g vl s → insF (iV m) g v s k < 256
      rcases Nat.lt_trichotomy s g with e | e | e
      · rw [insF_lt e, insF_lt e, insF_lt e, insF_lt e]; exact o3 s (by omega)
      · subst e; rw [insF_eq, insF_eq, insF_eq, insF_eq]; exact ⟨⟨hl.1, hl.2, hv⟩, hq, hv2⟩
      · rw [insF_gt e, insF_gt e, insF_gt e, insF_gt e]; exact o3 (s - 1) (by omega)
    · have ht : t < iS m + 1 := ht
      show plt (insF (iN m) g q s) (insF (iN m) g q t)
      rcases Nat.lt_trichotomy s g with e | e | e
      · rw [insF_lt e]
        rcases Nat.lt_trichotomy t g with f | f | f
        · rw [insF_lt f]; exact o4 s t hst (by omega)
        · subst f; rw [insF_eq]; exact g2 s e
        · rw [insF_gt f]
          by_cases x : s = t - 1
          · omega
          · exact o4 s (t - 1) (by omega) (by omega)
      · subst e; rw [insF_eq, insF_gt hst]; exact g3 (t - 1) (by omega) (by omega)
      · rw [insF_gt e, insF_gt (by omega)]; exact o4 (s - 1) (t - 1) (by omega) (by omega)
section SETC
variable {sx : Nat × (Nat → Int32)} {h : px_H} {r N n s k l c I S : Nat} {f F : Nat → Int32} {B p : Nat → Nat} {P : Nat → Nat} {m : aM} {Q : px_O → px_H → Prop}
set_option maxRecDepth 16384 in
theorem patF_lt {B : Nat → Nat} {f l j : Nat} (h : j < l) : patF B f l j = B (f + j) := if_pos h
set_option maxRecDepth 16384 in
theorem patF_ge {B : Nat → Nat} {f l j : Nat} (h : l ≤ j) : patF B f l j = 0 := if_neg (by omega)
set_option maxRecDepth 16384 in
theorem ltr_pat (hm : ∀ j, j < c → 97 ≤ B (s + j) ∧ B (s + j) ≤ 122) : ltr (patF B s c) c := ⟨fun j hj => by rw [patF_lt hj]; exact hm j hj, fun j hj => patF_ge hj⟩
set_option maxRecDepth 16384 in
theorem c_sorder_l {z : Value} (hS : h.2[S]? = some (.inl (5, [.ref (S + 1), z]))) (wn : rowAt h (S + 1) 8 l F) (hF : txA F l p) (w : rowAt h r N n f) (hB : txA f n B) (hp : ltr p l) (hq : ltr (patF B s c) c) (hc : s + c ≤ n) (hQ : ∀ x, ordR x p (patF B s c) → Q (.inl (some (.int x))) h) :
    ∀ d i, i + d = l → i ≤ c → (∀ j, j < i → p j = patF B s c j) → px_Wp sx 79 3 [some (.ref S), some (.ref r), some (.int (nI s)), some (.int (nI (s + c))), some (.int (nI i))] [] h Q := by
  have hN := w.2.2
  have hN8 := wn.2.2
  have hcl : px_cls h r = some 1 := by unfold px_cls; rw [w.1]
  have hcn : px_cls h (S + 1) = some 1 := by unfold px_cls; rw [wn.1]
  have wn1 := wn.1
  have fin : ∀ i, i ≤ l → i ≤ c → (i = l ∨ i = c) → (∀ j, j < i → p j = patF B s c j) → px_Wp sx 79 68 [some (.ref S), some (.ref r), some (.int (nI s)), some (.int (nI (s + c))), some (.int (nI i))] [] h Q := fun i hil hic hor hj => by
    have e1 : nI (s + c) - nI s = nI c := by rw [nI_sub (by omega)]; congr 1; omega
    simp only [pc79_68, pc79_68n, pc79_69, pc79_72, pc79_75, pc79_76, pc79_77, pc79_78, pc79_79, px_op_some, px_kv_ap, px_ki_ap, px_kl_ap, px_kn_ap, px_kh_ap, px_op_none, px_K_some, px_K_none, px_K_thr, px_kill, ↓reduceIte, if_true, if_false, true_and, and_true, px_gf, hS, wn1, List.getElem?_cons_zero, List.getElem?_cons_succ, e1]
    refine hQ _ ?_
    have c8 : c < 1000 ∨ 1000 ≤ c := by omega
    rcases Nat.lt_trichotomy l c with x | x | x
    · refine .inr (.inl ⟨?_, l, fun j hj' => hj j (by omega), by have := (ltr_sgs hq).1 l x; rw [hp.2 l (Nat.le_refl _)]; omega⟩)
      rw [Int32.lt_iff_toInt_lt, Int32.toInt_sub, nI_toInt (by omega), nI_toInt (by omega), show (0 : Int32).toInt = 0 from rfl, Int.bmod_eq_of_le (by omega) (by omega)]
      omega
    · subst x
      refine .inl ⟨nI_sub0 _, funext fun j => ?_⟩
      by_cases y : j < l
      · exact hj j (by omega)
      · rw [hp.2 j (by omega), hq.2 j (by omega)]
    · refine .inr (.inr ⟨?_, c, fun j hj' => (hj j (by omega)).symm, by have := (ltr_sgs hp).1 c x; rw [hq.2 c (Nat.le_refl _)]; omega⟩)
      rw [Int32.lt_iff_toInt_lt, Int32.toInt_sub, nI_toInt (by omega), nI_toInt (by omega), show (0 : Int32).toInt = 0 from rfl, Int.bmod_eq_of_le (by omega) (by omega)]
      omega
  intro d
  induction d with
  | zero =>
    intro i hi hic hj
    have hi : i = l := by omega
    subst hi
    have le : nI i ≤ nI i := Int32.le_refl _
    simp only [pc79_3, pc79_5, pc79_5n, pc79_6, pc79_9, pc79_12, px_op_some, px_kv_ap, px_ki_ap, px_kl_ap, px_kn_ap, px_kh_ap, px_op_none, px_K_some, px_K_none, px_K_thr, px_kill, ↓reduceIte, if_true, if_false, true_and, and_true, px_gf, hS, wn1, List.getElem?_cons_zero, List.getElem?_cons_succ, le]
    exact fin i (Nat.le_refl _) hic (.inl rfl) hj
  | succ d ih =>
    intro i hi hic hj
    have ge : ¬ nI l ≤ nI i := nI_ge (by omega) (by omega)
    by_cases x : i = c
    · have le : nI (s + c) ≤ nI (s + i) := nI_le (by omega) (by omega)
      simp only [pc79_3, pc79_5, pc79_5n, pc79_6, pc79_9, pc79_12, pc79_15, pc79_16, pc79_18, pc79_19, pc79_20, px_op_some, px_kv_ap, px_ki_ap, px_kl_ap, px_kn_ap, px_kh_ap, px_op_none, px_K_some, px_K_none, px_K_thr, px_kill, ↓reduceIte, if_true, if_false, true_and, and_true, px_gf, hS, wn1, List.getElem?_cons_zero, List.getElem?_cons_succ, ge, nI_add, le]
      exact fin i (by omega) hic (.inr x) hj
    · have ge2 : ¬ nI (s + c) ≤ nI (s + i) := nI_ge (by omega) (by omega)
      have bi := (hB (s + i) (by omega)).2
      have pi := (hF i (by omega)).2
      have qi : patF B s c i = B (s + i) := patF_lt (by omega)
      simp only [pc79_3, pc79_5, pc79_5n, pc79_6, pc79_9, pc79_12, pc79_15, pc79_16, pc79_18, pc79_19, pc79_20, pc79_23, pc79_23n, pc79_24, pc79_27, pc79_29, px_op_some, px_kv_ap, px_ki_ap, px_kl_ap, px_kn_ap, px_kh_ap, px_op_none, px_K_some, px_K_none, px_K_thr, px_kill, ↓reduceIte, if_true, if_false, true_and, and_true, px_gf, hS, wn1, List.getElem?_cons_zero, List.getElem?_cons_succ, ge, nI_add, ge2, hcn]
      rw [r_atT wn hF (by omega)]
      simp only [px_K_some, pc79_32, pc79_32n, pc79_33, pc79_34, pc79_36, pc79_37, px_op_some, px_kv_ap, px_ki_ap, px_kl_ap, px_kn_ap, px_kh_ap, px_op_none, px_K_some, px_K_none, px_K_thr, px_kill, ↓reduceIte, if_true, if_false, true_and, and_true, nI_add, hcl]
      rw [r_atT w hB (by omega)]
      by_cases y : p i = B (s + i)
      · have y' : nI (p i) = nI (B (s + i)) := by rw [y]
        simp only [px_K_some, pc79_40, pc79_62, pc79_65, px_op_some, px_kv_ap, px_ki_ap, px_kl_ap, px_kn_ap, px_kh_ap, px_op_none, px_K_some, px_K_none, px_K_thr, px_kill, ↓reduceIte, if_true, if_false, true_and, and_true, y', nI_p1]
        refine ih (i + 1) (by omega) (by omega) (fun j hj' => ?_)
        by_cases ej : j = i
        · subst ej; rw [qi]; exact y
        · exact hj j (by omega)
      · have ne : ¬ nI (p i) = nI (B (s + i)) := fun z => y ((nI_eq (by omega) (by omega)).mp z)
        simp only [px_K_some, pc79_40, pc79_43, pc79_43n, pc79_44, pc79_47, pc79_49, px_op_some, px_kv_ap, px_ki_ap, px_kl_ap, px_kn_ap, px_kh_ap, px_op_none, px_K_some, px_K_none, px_K_thr, px_kill, ↓reduceIte, if_true, if_false, true_and, and_true, px_gf, hS, wn1, List.getElem?_cons_zero, List.getElem?_cons_succ, ne, hcn]
        rw [r_atT wn hF (by omega)]
        simp only [px_K_some, pc79_52, pc79_52n, pc79_53, pc79_54, pc79_56, pc79_57, px_op_some, px_kv_ap, px_ki_ap, px_kl_ap, px_kn_ap, px_kh_ap, px_op_none, px_K_some, px_K_none, px_K_thr, px_kill, ↓reduceIte, if_true, if_false, true_and, and_true, nI_add, hcl]
        rw [r_atT w hB (by omega)]
        simp only [px_K_some, pc79_60, pc79_61, px_op_some, px_kv_ap, px_ki_ap, px_kl_ap, px_kn_ap, px_kh_ap, px_op_none, px_K_some, px_K_none, px_K_thr, px_kill, ↓reduceIte, if_true, if_false, true_and, and_true]
        have o := ord_at (ltr_sgs hp) (ltr_sgs hq) hj (by omega) hic (.inr (.inr (by rw [qi]; exact y)))
        rw [qi] at o
        exact hQ _ o
set_option maxRecDepth 16384 in
theorem c_sorder {z : Value} (hS : h.2[S]? = some (.inl (5, [.ref (S + 1), z]))) (wn : rowAt h (S + 1) 8 l F) (hF : txA F l p) (w : rowAt h r N n f) (hB : txA f n B) (hp : ltr p l) (hq : ltr (patF B s c) c) (hc : s + c ≤ n) (hQ : ∀ x, ordR x p (patF B s c) → Q (.inl (some (.int x))) h) :
    px_Wp sx 79 0 [some (.ref S), some (.ref r), some (.int (nI s)), some (.int (nI (s + c))), none] [] h Q := by
  simp only [pc79_0, pc79_1, px_kill]
  exact c_sorder_l hS wn hF w hB hp hq hc hQ l 0 (by omega) (Nat.zero_le _) (fun j hj => absurd hj (Nat.not_lt_zero j))
set_option maxRecDepth 16384 in
theorem c_isearch_l (im : imC h I P m) (ok : imOK m) (w : rowAt h r N n f) (hB : txA f n B) (hq : ltr (patF B s c) c) (hc : s + c ≤ n)
    (hQ : ∀ x, ((∃ i, i < iS m ∧ x = nI i ∧ iN m i = patF B s c) ∨ ∃ g, gapN m (patF B s c) g ∧ x = -1 - nI g) → Q (.inl (some (.int x))) h) :
    ∀ d i l5, i + d = iS m → (∀ j, j < i → plt (iN m j) (patF B s c)) → px_Wp sx 86 3 [some (.ref I), some (.ref r), some (.int (nI s)), some (.int (nI (s + c))), some (.int (nI i)), l5] [] h Q := by
  obtain ⟨⟨sf, s1, s2⟩, ⟨L, ⟨o1, o2⟩, o3⟩, rows⟩ := im
  have h6 := ok.2.1
  intro d
  induction d with
  | zero =>
    intro i l5 hi hj
    have hi : i = iS m := by omega
    have le : nI (iS m) ≤ nI i := nI_le (by omega) (by omega)
    simp only [pc86_3, pc86_5, pc86_5n, pc86_6, pc86_9, pc86_53, pc86_54, pc86_54n, pc86_55, pc86_58, pc86_59, px_op_some, px_kv_ap, px_ki_ap, px_kl_ap, px_kn_ap, px_kh_ap, px_op_none, px_K_some, px_K_none, px_K_thr, px_kill, ↓reduceIte, if_true, if_false, true_and, and_true, px_gf, o1, List.getElem?_cons_zero, List.getElem?_cons_succ, le]
    exact hQ _ (.inr ⟨iS m, ⟨Nat.le_refl _, fun j hj' => hj j (by omega), fun j a b => absurd b (by omega)⟩, rfl⟩)
  | succ d ih =>
    intro i l5 hi hj
    have ge : ¬ nI (iS m) ≤ nI i := nI_ge (by omega) (by omega)
    have ii : px_in (nI i) 6 = true := px_inb (by omega) (by decide)
    have ci : (nI i).toNatClampNeg = i := nI_clamp (by omega)
    obtain ⟨t1, t2, t3, -⟩ := s2 i (by omega)
    obtain ⟨F, G, u1, u2, u3, u4⟩ := rows i (by omega)
    have hcs : px_cls h (I + 3 + 5 * P i) = some 5 := by unfold px_cls; rw [t3]
    simp only [pc86_3, pc86_5, pc86_5n, pc86_6, pc86_9, pc86_12, pc86_12n, pc86_13, pc86_16, pc86_18, pc86_19, pc86_19n, pc86_20, pc86_21, pc86_22, px_op_some, px_kv_ap, px_ki_ap, px_kl_ap, px_kn_ap, px_kh_ap, px_op_none, px_K_some, px_K_none, px_K_thr, px_kill, ↓reduceIte, if_true, if_false, true_and, and_true, px_gf, px_aa, o1, s1, List.getElem?_cons_zero, List.getElem?_cons_succ, ge, ii, ci, t1, px_rf, tg_15, Nat.reduceLeDiff, and_self, hcs]
    refine c_sorder t3 u1 u2 w hB (ok.2.2.1 i (by omega)).2.1 hq hc (fun x hx => ?_)
    rcases hx with ⟨rfl, e⟩ | ⟨x0, e⟩ | ⟨x0, e⟩
    · simp only [px_K_some, pc86_25, pc86_27, pc86_29, pc86_32, pc86_34, pc86_37, pc86_39, pc86_42, pc86_43, pc86_45, pc86_46, px_op_some, px_kv_ap, px_ki_ap, px_kl_ap, px_kn_ap, px_kh_ap, px_op_none, px_K_some, px_K_none, px_K_thr, px_kill, ↓reduceIte, if_true, if_false, true_and, and_true, px_kill, Int32.lt_irrefl, not_true_eq_false]
      exact hQ _ (.inl ⟨i, by omega, rfl, e⟩)
    · simp only [px_K_some, pc86_25, pc86_27, pc86_29, pc86_47, pc86_50, px_op_some, px_kv_ap, px_ki_ap, px_kl_ap, px_kn_ap, px_kh_ap, px_op_none, px_K_some, px_K_none, px_K_thr, px_kill, ↓reduceIte, if_true, if_false, true_and, and_true, px_kill, x0, nI_p1]
      refine ih (i + 1) _ (by omega) (fun j hj' => ?_)
      by_cases ej : j = i
      · subst ej; exact e
      · exact hj j (by omega)
    · have x1 : ¬ x < 0 := fun z => Int32.lt_irrefl (Int32.lt_trans z x0)
      have x2 : ¬ x = 0 := fun z => by rw [z] at x0; exact Int32.lt_irrefl x0
      simp only [px_K_some, pc86_25, pc86_27, pc86_29, pc86_32, pc86_34, pc86_37, pc86_39, pc86_42, pc86_43, pc86_45, pc86_46, px_op_some, px_kv_ap, px_ki_ap, px_kl_ap, px_kn_ap, px_kh_ap, px_op_none, px_K_some, px_K_none, px_K_thr, px_kill, ↓reduceIte, if_true, if_false, true_and, and_true, px_kill, x1, x2, not_false_eq_true]
      refine hQ _ (.inr ⟨i, ⟨by omega, hj, fun j a b => ?_⟩, rfl⟩)
      by_cases ej : j = i
      · subst ej; exact e
      · exact plt_trans e (ok.2.2.2 i j (by omega) b)
set_option maxRecDepth 16384 in
theorem c_isearch (im : imC h I P m) (ok : imOK m) (w : rowAt h r N n f) (hB : txA f n B) (hq : ltr (patF B s c) c) (hc : s + c ≤ n)
    (hQ : ∀ x, ((∃ i, i < iS m ∧ x = nI i ∧ iN m i = patF B s c) ∨ ∃ g, gapN m (patF B s c) g ∧ x = -1 - nI g) → Q (.inl (some (.int x))) h) :
    px_Wp sx 86 0 [some (.ref I), some (.ref r), some (.int (nI s)), some (.int (nI (s + c))), none, none] [] h Q := by
  simp only [pc86_0, pc86_1, px_kill]
  exact c_isearch_l im ok w hB hq hc hQ (iS m) 0 _ (by omega) (fun j hj => absurd hj (Nat.not_lt_zero j))
end SETC
