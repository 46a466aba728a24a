/-! A PART OF A TREE MOVED, the reference's -/
def mvA (r : Nat) : Prop := r = 619 ∨ (637 ≤ r ∧ r ≤ 641) ∨ r = 647 ∨ r = 648
section MMOVE
variable {sx : Nat × (Nat → Int32)} {h : px_H} {n l l2 a b k e : Nat} {V : Nat → Int32} {T U W : Nat → aE} {p p2 : Nat → Nat} {x : aE} {Q : px_O → px_H → Prop}
set_option maxRecDepth 16384 in
theorem cut1_lt {i : Nat} (hi : i < e) : cutE U e (e + 1) i = U i := if_pos hi
set_option maxRecDepth 16384 in
theorem cut1_ge {i : Nat} (hi : e ≤ i) : cutE U e (e + 1) i = U (i + 1) := by
  unfold cutE
  rw [if_neg (by omega), show i + (e + 1 - e) = i + 1 by omega]
set_option maxRecDepth 16384 in
theorem cut1_in {i : Nat} (hi : i < n) (ne : i ≠ e) (he : e < n) : ∃ j, j < n - 1 ∧ cutE U e (e + 1) j = U i := by
  by_cases y : i < e
  · exact ⟨i, by omega, cut1_lt y⟩
  · exact ⟨i - 1, by omega, by rw [cut1_ge (by omega), show i - 1 + 1 = i by omega]⟩
set_option maxRecDepth 16384 in
theorem cut1_of {j : Nat} (hj : j < n - 1) : ∃ i, i < n ∧ i ≠ e ∧ cutE U e (e + 1) j = U i ∧ (i = j ∧ j < e ∨ i = j + 1 ∧ e ≤ j) := by
  by_cases y : j < e
  · exact ⟨j, by omega, by omega, cut1_lt y, .inl ⟨rfl, y⟩⟩
  · exact ⟨j + 1, by omega, by omega, cut1_ge (by omega), .inr ⟨rfl, by omega⟩⟩
set_option maxRecDepth 16384 in
theorem cut1_srt (s : srtE n U) : srtE (n - 1) (cutE U e (e + 1)) := fun i j hij hj => by
  obtain ⟨i', a1, a2, a3, a4⟩ := cut1_of (U := U) (e := e) (show i < n - 1 by omega)
  obtain ⟨j', b1, b2, b3, b4⟩ := cut1_of (U := U) (e := e) hj
  rw [a3, b3]
  exact s i' j' (by omega) b1
set_option maxRecDepth 16384 in
theorem ins_srt {g : Nat} {m : Nat} {y : aE} (s : srtE m U) (gp : gapE m U (eP y) g) : srtE (m + 1) (insE U g y) := fun i j hij hj => by
  unfold insE
  by_cases a1 : i < g
  · rw [if_pos a1]
    by_cases b1 : j < g
    · rw [if_pos b1]; exact s i j hij (by have := gp.1; omega)
    · rw [if_neg b1]
      by_cases b2 : j = g
      · rw [if_pos b2]; exact gp.2.1 i a1
      · rw [if_neg b2]; exact s i (j - 1) (by omega) (by omega)
  · rw [if_neg a1, if_neg (by omega : ¬ j < g), if_neg (by omega : ¬ j = g)]
    by_cases a2 : i = g
    · rw [if_pos a2]; exact gp.2.2 (j - 1) (by omega) (by omega)
    · rw [if_neg a2]; exact s (i - 1) (j - 1) (by omega) (by omega)
set_option maxRecDepth 16384 in
theorem arr_step {g : Nat} (h : tOK n T) (hp : pth p l) (hp2 : pth p2 l2) (no : ¬ inT n T p2) (ha : a < n) (ea : eP (T a) = p) (eb : endE n T a b) (hk : a ≤ k) (hkb : k < b) (ar : arr n (mvG T l p2 l2 a k) U) (he : e < n) (ue : U e = T k) (gp : gapE (n - 1) (cutE U e (e + 1)) (eP (renE l p2 l2 (T k))) g) : arr n (mvG T l p2 l2 a (k + 1)) (insE (cutE U e (e + 1)) g (renE l p2 l2 (T k))) := by
  have bn := eb.2.1
  have n1 : n - 1 + 1 = n := by omega
  have gn := gp.1
  have inj := fun {i j : Nat} (hi : i < n) (hj : j < n) => mvG_inj (k := k) h hp hp2 no ha ea eb (by omega) hi hj
  have Gk : mvG T l p2 l2 a k k = T k := mvG_out (by omega)
  have Gs : ∀ j, j ≠ k → mvG T l p2 l2 a (k + 1) j = mvG T l p2 l2 a k j := fun j hj => by
    by_cases y : a ≤ j ∧ j < k
    · rw [mvG_in y.1 y.2, mvG_in y.1 (by omega)]
    · rw [mvG_out (by omega), mvG_out (by omega)]
  have Gk1 : mvG T l p2 l2 a (k + 1) k = renE l p2 l2 (T k) := mvG_in hk (by omega)
  refine ⟨by have := ins_srt (cut1_srt (e := e) ar.1) gp; rw [n1] at this; exact this, fun i hi => ?_, fun j hj => ?_⟩
  · have cs : (i = g ∧ insE (cutE U e (e + 1)) g (renE l p2 l2 (T k)) i = renE l p2 l2 (T k)) ∨ ∃ i', i' < n - 1 ∧ insE (cutE U e (e + 1)) g (renE l p2 l2 (T k)) i = cutE U e (e + 1) i' := by
      unfold insE
      by_cases a1 : i < g
      · exact .inr ⟨i, by omega, if_pos a1⟩
      · by_cases a2 : i = g
        · exact .inl ⟨a2, by rw [if_neg a1, if_pos a2]⟩
        · exact .inr ⟨i - 1, by omega, by rw [if_neg a1, if_neg a2]⟩
    rcases cs with ⟨-, cs⟩ | ⟨i', c1, c2⟩
    · exact ⟨k, by omega, by rw [cs, Gk1]⟩
    · obtain ⟨i'', d1, d2, d3, -⟩ := cut1_of (U := U) (e := e) c1
      obtain ⟨j, j1, j2⟩ := ar.2.1 i'' d1
      refine ⟨j, j1, ?_⟩
      have jk : j ≠ k := fun z => by
        subst z
        rw [Gk, ← ue] at j2
        exact d2 (srt_u ar.1 d1 he (by rw [j2]))
      rw [c2, d3, j2, Gs j jk]
  · by_cases jk : j = k
    · subst jk
      refine ⟨g, by omega, ?_⟩
      rw [Gk1]
      unfold insE
      rw [if_neg (Nat.lt_irrefl _), if_pos rfl]
    · obtain ⟨i, i1, i2⟩ := ar.2.2 j hj
      have ie : i ≠ e := fun z => by
        subst z
        rw [ue, ← Gk] at i2
        exact jk (inj (by omega) hj (by rw [i2])).symm
      obtain ⟨i', c1, c2⟩ := cut1_in (U := U) i1 ie he
      rw [Gs j jk]
      by_cases y : i' < g
      · exact ⟨i', by omega, by unfold insE; rw [if_pos y, c2]; exact i2⟩
      · exact ⟨i' + 1, by omega, by unfold insE; rw [if_neg (by omega), if_neg (by omega), Nat.add_sub_cancel, c2]; exact i2⟩
/-! kind, size and bytes of the entry 81 go to the entry e -/
set_option maxRecDepth 16384 in
theorem m_setEntry {D : Nat → Prop} {l2' l3' : Int32} (h6 : h.2[619]? = some (.inl (11, modF V))) (w : mtE h D T) (he : D e) (h81 : D 81) (e8 : e < 81) (hl : eL (T e) = l) (hp : eP (T e) = p)
    (hQ : ∀ h', mtE h' D (px_up T e (l, p, eK (T 81), eN (T 81), eC (T 81))) → frm mEA h h' → (shape h → shape h') → ∀ l5, px_Wp sx 206 219 [some (.ref 619), some (.int (nI k)), some (.int l2'), some (.int l3'), some (.int (nI e)), some (.int l5)] [] h' Q) :
    px_Wp sx 206 145 [some (.ref 619), some (.int (nI k)), some (.int l2'), some (.int l3'), some (.int (nI e)), none] [] h Q := by
  obtain ⟨P, LN, K, Z, C, ⟨a1, a2, a3, a4, a5⟩, w2⟩ := w
  obtain ⟨e82, ok, r1, r2, r3, r4, r5⟩ := w2 e he
  obtain ⟨-, ok8, s1, s2, s3, s4, s5⟩ := w2 81 h81
  have n1000 := eN_le ok8
  have ie : px_in (nI e) 82 = true := px_inb e82 (by decide)
  have ce : (nI e).toNatClampNeg = e := nI_clamp (by omega)
  have i8 : px_in (81 : Int32) 82 = true := by decide
  have c8 : (81 : Int32).toNatClampNeg = 81 := by decide
  have L9 : 639 < h.2.length := (List.getElem?_eq_some_iff.mp a3).1
  have L10 : 640 < h.2.length := (List.getElem?_eq_some_iff.mp a4).1
  generalize hh1 : px_wr (px_wr h 639 (.inr (1, 82, .inl (px_up K e (nI (eK (T 81))))))) 640 (.inr (1, 82, .inl (px_up Z e (nI (eN (T 81)))))) = h1
  have ne1 : ∀ r, r ≠ 639 → r ≠ 640 → h1.2[r]? = h.2[r]? := fun r x y => by rw [← hh1, wr_at, if_neg (fun z => y z.symm), wr_at, if_neg (fun z => x z.symm)]
  have b3 : h1.2[639]? = some (.inr (1, 82, .inl (px_up K e (nI (eK (T 81)))))) := by rw [← hh1, wr_at, if_neg (by decide), wr_at, if_pos rfl, if_pos L9]
  have b4 : h1.2[640]? = some (.inr (1, 82, .inl (px_up Z e (nI (eN (T 81)))))) := by rw [← hh1, wr_at, if_pos rfl, if_pos (by rw [px_wr_len]; exact L10)]
  have b5 : h1.2[641]? = some (.inr (1, 82082, .inl C)) := (ne1 _ (by decide) (by decide)).trans a5
  have L11' : 641 < h1.2.length := (List.getElem?_eq_some_iff.mp b5).1
  have b6 : h1.2[619]? = some (.inl (11, modF V)) := (ne1 _ (by decide) (by decide)).trans h6
  have fr1 : frm mEA h h1 := by rw [← hh1]; exact frm_wr (frm_wr (frm_refl _ _) ⟨by decide, by decide⟩) ⟨by decide, by decide⟩
  have sh1 : shape h → shape h1 := fun z => by
    rw [← hh1]
    exact shape_ia (r := 640) (shape_ia z a3) (by rw [wr_at, if_neg (by decide)]; exact a4)
  have z7 : ∀ x : px_C, (px_wr h1 641 x).2[641]? = some x := fun x => by rw [wr_at, if_pos rfl, if_pos L11']
  have z6 : ∀ x : px_C, (px_wr h1 641 x).2[619]? = some (.inl (11, modF V)) := fun x => by rw [wr_at, if_neg (by decide)]; exact b6
  have z4 : ∀ x : px_C, (px_wr h1 641 x).2[640]? = some (.inr (1, 82, .inl (px_up Z e (nI (eN (T 81)))))) := fun x => by rw [wr_at, if_neg (by decide)]; exact b4
  have ze8 : px_up Z e (nI (eN (T 81))) 81 = nI (eN (T 81)) := by rw [up_ne (by omega)]; exact s3
  have lp : ∀ d t, t + d = eN (T 81) → ∀ Ck, (∀ j, j < t → Ck (1001 * e + j) = eC (T 81) j) → (∀ j, j < 1001 * e ∨ 1001 * e + t ≤ j → Ck j = C j) → px_Wp sx 206 176 [some (.ref 619), some (.int (nI k)), some (.int l2'), some (.int l3'), some (.int (nI e)), some (.int (nI t))] [] (px_wr h1 641 (.inr (1, 82082, .inl Ck))) Q := by
    intro d
    induction d with
    | zero =>
      intro t ht Ck q1 q2
      have ht : t = eN (T 81) := by omega
      subst ht
      have le : nI (eN (T 81)) ≤ nI (eN (T 81)) := Int32.le_refl _
      simp only [pc206_176, pc206_178, pc206_178n, pc206_179, pc206_182, pc206_184, pc206_185, px_op_some, px_kv_ap, px_ki_ap, px_kl_ap, px_kn_ap, px_kh_ap, px_op_none, px_K_some, px_K_none, px_K_thr, px_kill, ↓reduceIte, if_true, if_false, true_and, and_true, px_gf, px_ai, z6, mf_24, z4, i8, c8, ze8, le, tg_i1, and_self]
      refine hQ _ ⟨P, LN, px_up K e (nI (eK (T 81))), px_up Z e (nI (eN (T 81))), Ck, ⟨by rw [wr_at, if_neg (by decide), ne1 _ (by decide) (by decide)]; exact a1, by rw [wr_at, if_neg (by decide), ne1 _ (by decide) (by decide)]; exact a2, by rw [wr_at, if_neg (by decide)]; exact b3, z4 _, z7 _⟩, fun i hi => ?_⟩ (frm_wr fr1 ⟨by decide, by decide⟩) (fun z => shape_ia (sh1 z) b5) _
      obtain ⟨i82, oki, m1, m2, m3, m4, m5⟩ := w2 i hi
      by_cases x : i = e
      · subst x
        rw [up_same]
        refine ⟨i82, ⟨by rw [← hp, ← hl]; exact oki.1, ok8.2⟩, by rw [← hl]; exact m1, up_same _ _ _, up_same _ _ _, fun j hj => ?_, q1⟩
        rw [← hp]
        exact m4 j (by rw [hl]; exact hj)
      · rw [up_ne x]
        have ni := eN_le oki
        exact ⟨i82, oki, m1, by rw [up_ne x]; exact m2, by rw [up_ne x]; exact m3, m4, fun j hj => by rw [q2 _ (by omega)]; exact m5 j hj⟩
    | succ d ih =>
      intro t ht Ck q1 q2
      have ge : ¬ nI (eN (T 81)) ≤ nI t := nI_ge (by omega) (by omega)
      have it : px_in (nI (1001 * e + t)) 82082 = true := px_inb (by omega) (by decide)
      have ct : (nI (1001 * e + t)).toNatClampNeg = 1001 * e + t := nI_clamp (by omega)
      have e81 : (81081 : Int32) + nI t = nI (81081 + t) := nI_add 81081 t
      have is_ : px_in (nI (81081 + t)) 82082 = true := px_inb (by omega) (by decide)
      have cs : (nI (81081 + t)).toNatClampNeg = 81081 + t := nI_clamp (by omega)
      have ck : Ck (81081 + t) = eC (T 81) t := by rw [q2 _ (by omega)]; exact s5 t (by omega)
      rw [pc206_176]
      simp only [pc206_178, pc206_178n, pc206_179, pc206_182, pc206_184, pc206_185, pc206_188, pc206_188n, pc206_189, pc206_192, pc206_195, pc206_197, pc206_198, pc206_200, pc206_201, pc206_201n, pc206_202, pc206_205, pc206_208, pc206_210, pc206_211, pc206_212, pc206_213, pc206_216, px_op_some, px_kv_ap, px_ki_ap, px_kl_ap, px_kn_ap, px_kh_ap, px_op_none, px_K_some, px_K_none, px_K_thr, px_kill, ↓reduceIte, if_true, if_false, true_and, and_true, px_gf, px_ai, px_wi, z6, z7, z4, mf_24, mf_25, i8, c8, ze8, ge, mul_1001, nI_add, e81, it, ct, is_, cs, ck, nar1, tg_i1, and_self, px_wr_wr, px_kill, nI_p1]
      refine ih (t + 1) (by omega) _ (fun j hj => ?_) (fun j hj => ?_)
      · by_cases x : j = t
        · subst x; exact up_same _ _ _
        · rw [up_ne (by omega)]; exact q1 j (by omega)
      · rw [up_ne (by omega)]; exact q2 j (by omega)
  have y6 : (px_wr h 639 (.inr (1, 82, .inl (px_up K e (nI (eK (T 81))))))).2[619]? = some (.inl (11, modF V)) := by rw [wr_at, if_neg (by decide)]; exact h6
  have y4 : (px_wr h 639 (.inr (1, 82, .inl (px_up K e (nI (eK (T 81))))))).2[640]? = some (.inr (1, 82, .inl Z)) := by rw [wr_at, if_neg (by decide)]; exact a4
  simp only [pc206_145, pc206_145n, pc206_146, pc206_149, pc206_151, pc206_151n, pc206_152, pc206_155, pc206_157, pc206_158, pc206_159, pc206_159n, pc206_160, pc206_163, pc206_165, pc206_165n, pc206_166, pc206_169, pc206_171, pc206_172, pc206_173, pc206_174, px_op_some, px_kv_ap, px_ki_ap, px_kl_ap, px_kn_ap, px_kh_ap, px_op_none, px_K_some, px_K_none, px_K_thr, px_kill, ↓reduceIte, if_true, if_false, true_and, and_true, px_gf, px_ai, px_wi, h6, y6, mf_23, mf_24, a3, y4, ie, ce, i8, c8, s2, s3, nar1, tg_i1, and_self, px_kill, hh1]
  have e5 : px_wr h1 641 (.inr (1, 82082, .inl C)) = h1 := wr_id b5
  have := lp (eN (T 81)) 0 (by omega) C (fun j hj => absurd hj (Nat.not_lt_zero j)) (fun _ _ => rfl)
  rw [e5] at this
  exact this
end MMOVE
