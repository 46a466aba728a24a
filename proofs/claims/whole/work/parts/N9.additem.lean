/-! AN ITEM OF A LAYER WRITTEN -/
def itmM (k : Nat) (e : aE) : Nat := if k = 2 then eN e else 0
def itmN (k : Nat) (e : aE) : Nat := if k = 0 then 0 else 4 + eL e + itmM k e
def itmB (g : Nat → Int32) (a k : Nat) (e : aE) : Nat → Int32 := fun x => if k = 0 ∨ x < a then g x else if x = a then nI k else if x = a + 1 then nI (eL e) else if x < a + 2 + eL e then nI (eP e (x - (a + 2))) else if x = a + 2 + eL e then nI (itmM k e % 256) else if x = a + 3 + eL e then nI (itmM k e / 256) else eC e (x - (a + 4 + eL e))
def byE (e : aE) : Prop := ∀ k, k < eN e → eC e k &&& 255 = eC e k
set_option maxRecDepth 16384 in
theorem ishr_8 : ∀ m, m < 1001 → nI m >>> ((8 : Int32) &&& 31) = nI (m / 256) := by decide +kernel
section ITEM
variable {sx : Nat × (Nat → Int32)} {h : px_H} {a k O : Nat} {e : aE} {f g : Nat → Int32} {Q : px_O → px_H → Prop}
set_option maxRecDepth 16384 in
theorem itN_s (nk : k ≠ 0) : itmN k e = 4 + eL e + itmM k e := if_neg nk
set_option maxRecDepth 16384 in
theorem itB_lt {x : Nat} (hx : x < a) : itmB g a k e x = g x := if_pos (.inr hx)
set_option maxRecDepth 16384 in
theorem itB_0 (nk : k ≠ 0) : itmB g a k e a = nI k := by unfold itmB; rw [if_neg (by omega), if_pos rfl]
set_option maxRecDepth 16384 in
theorem itB_1 (nk : k ≠ 0) : itmB g a k e (a + 1) = nI (eL e) := by unfold itmB; rw [if_neg (by omega), if_neg (by omega), if_pos rfl]
set_option maxRecDepth 16384 in
theorem itB_p {t : Nat} (nk : k ≠ 0) (ht : t < eL e) : itmB g a k e (a + 2 + t) = nI (eP e t) := by
  unfold itmB; rw [if_neg (by omega), if_neg (by omega), if_neg (by omega), if_pos (by omega), show a + 2 + t - (a + 2) = t by omega]
set_option maxRecDepth 16384 in
theorem itB_m (nk : k ≠ 0) : itmB g a k e (a + 2 + eL e) = nI (itmM k e % 256) := by
  unfold itmB; rw [if_neg (by omega), if_neg (by omega), if_neg (by omega), if_neg (by omega), if_pos rfl]
set_option maxRecDepth 16384 in
theorem itB_n (nk : k ≠ 0) : itmB g a k e (a + 2 + eL e + 1) = nI (itmM k e / 256) := by
  unfold itmB; rw [if_neg (by omega), if_neg (by omega), if_neg (by omega), if_neg (by omega), if_neg (by omega), if_pos (by omega)]
set_option maxRecDepth 16384 in
theorem itB_c {t : Nat} (nk : k ≠ 0) : itmB g a k e (a + 2 + eL e + 2 + t) = eC e t := by
  unfold itmB; rw [if_neg (by omega), if_neg (by omega), if_neg (by omega), if_neg (by omega), if_neg (by omega), if_neg (by omega), show a + 2 + eL e + 2 + t - (a + 4 + eL e) = t by omega]
set_option maxRecDepth 16384 in
theorem c_wshort {r N m : Nat} (hm : m < 65536) (hl : r + 1 < h.2.length) (hN : N ≤ 40000) (ha : a + 2 ≤ N) (b : bytA f a g) (h0 : nI (m % 256) = g a) (h1 : nI (m / 256) = g (a + 1)) (hQ : ∀ f', bytA f' (a + 2) g → Q (.inl none) (rowH h r N (a + 2) f')) :
    px_Wp sx 38 0 [some (.ref r), some (.int (nI m))] [] (rowH h r N a f) Q := by
  have hcl : px_cls (rowH h r N a f) r = some 1 := by unfold px_cls; rw [rowH_r hl]
  simp only [pc38_0, pc38_0n, pc38_1, pc38_2, hcl, true_and]
  refine c_wadd hl (by omega) hN b ((nI_255 m).trans h0) (fun f1 b1 => ?_)
  have hcl : px_cls (rowH h r N (a + 1) f1) r = some 1 := by unfold px_cls; rw [rowH_r hl]
  simp only [px_K_none, pc38_5, pc38_5n, pc38_6, pc38_7, pc38_9, pc38_10, hcl, true_and, ushr_8 hm]
  refine c_wadd hl (by omega) hN b1 ((nI_small (by omega)).trans h1) (fun f2 b2 => ?_)
  simp only [px_K_none, pc38_13]
  exact hQ f2 b2
set_option maxRecDepth 16384 in
theorem c_addItem (hl : 86 < h.2.length) (w : entR h O e) (ok : eOK e) (hO : 87 ≤ O) (hk : k ≤ 4) (hke : k = 2 → eK e = 2) (ha : a + itmN k e ≤ 4120) (b : bytA f a g)
    (hQ : ∀ f', bytA f' (a + itmN k e) (itmB g a k e) → Q (.inl none) (rowH h 85 4120 (a + itmN k e) f')) :
    px_Wp sx 74 0 [some (.ref 85), some (.int (nI k)), some (.ref O), none] [] (rowH h 85 4120 a f) Q := by
  by_cases k0 : k = 0
  · subst k0
    have e0 : nI 0 = 0 := rfl
    simp only [pc74_0, pc74_1, pc74_4, e0, not_true_eq_false, if_false]
    exact hQ f (fun x hx => by unfold itmB; rw [if_pos (.inl rfl)]; exact b x hx)
  · have nk : ¬ nI k = 0 := fun z => k0 ((nI_eq (b := 0) (by omega) (by decide)).mp z)
    have l35 := ok.1.2.1
    have n1000 := eN_le ok
    have m1000 : itmM k e ≤ 1000 := by unfold itmM; split <;> omega
    rw [itN_s k0] at ha hQ
    obtain ⟨src, st, cn, gg, o1, o2, o3, o4⟩ := w
    unfold enF at o1
    have q : ∀ (n : Nat) (f' : Nat → Int32) r, r ≠ 85 → r ≠ 86 → (rowH h 85 4120 n f').2[r]? = h.2[r]? := fun n f' r h1 h2 => rowH_at (fun z => h1 z.symm) (fun z => h2 z.symm)
    have z0 : ∀ n f', (rowH h 85 4120 n f').2[O]? = some (.inl (2, [.ref (O + 1), .int (nI (eL e)), .int (nI (eK e)), src, .int st, .int cn])) := fun n f' => by rw [q n f' O (by omega) (by omega)]; exact o1
    have z1 : ∀ n f', (rowH h 85 4120 n f').2[O + 1]? = some (.inr (0, 35, .inl gg)) := fun n f' => by rw [q n f' _ (by omega) (by omega)]; exact o2
    have zc : ∀ n f', px_cls (rowH h 85 4120 n f') 85 = some 1 := fun n f' => by unfold px_cls; rw [rowH_r hl]
    have zO : ∀ n f', px_cls (rowH h 85 4120 n f') O = some 2 := fun n f' => by unfold px_cls; rw [z0]
    have hl' : 85 + 1 < h.2.length := hl
    have fin : ∀ f', bytA f' (a + 2 + eL e) (itmB g a k e) → ∀ l3, px_Wp sx 74 44 [some (.ref 85), some (.int (nI k)), some (.ref O), l3] [] (rowH h 85 4120 (a + 2 + eL e) f') Q := fun f1 b1 l3 => by
      by_cases k2 : k = 2
      · subst k2
        have e2 : nI 2 = 2 := rfl
        rcases o4 with ⟨k1, -⟩ | ⟨-, r, s, N, nr, F, q1, rfl, rfl, rfl, w, q2, q3⟩
        · have := hke rfl; omega
        · have mm : itmM 2 e = eN e := if_pos rfl
          have r1 : r ≠ 85 ∧ r + 1 ≠ 85 ∧ r ≠ 86 := by unfold srcT at q1; omega
          simp only [pc74_44, pc74_44n, pc74_45, pc74_46, pc74_47, pc74_50, pc74_50n, pc74_51, pc74_54, pc74_57, pc74_58, px_op_some, px_kv_ap, px_ki_ap, px_kl_ap, px_kn_ap, px_kh_ap, px_op_none, px_K_some, px_K_none, px_K_thr, px_kill, ↓reduceIte, if_true, if_false, true_and, and_true, px_gf, z0, e2, not_true_eq_false, List.getElem?_cons_zero, List.getElem?_cons_succ, zc]
          refine c_wshort (by omega) hl' (by decide) (by omega) b1 (by rw [itB_m k0, mm]) (by rw [itB_n k0, mm]) (fun f2 b2 => ?_)
          simp only [px_K_none, pc74_61, pc74_62, pc74_63, pc74_66, pc74_66n, pc74_67, pc74_67n, pc74_68, px_op_some, px_kv_ap, px_ki_ap, px_kl_ap, px_kn_ap, px_kh_ap, px_op_none, px_K_some, px_K_none, px_K_thr, px_kill, ↓reduceIte, if_true, if_false, true_and, and_true, zO, e2, not_true_eq_false, pc51_0, pc51_0n, pc51_1, pc51_4n, pc51_4, pc51_7, pc51_7n, pc51_8, pc51_8n, pc51_9, pc51_12, pc51_12n, pc51_13, pc51_16, pc51_16n, pc51_17, pc51_20, px_gf, z0, List.getElem?_cons_zero, List.getElem?_cons_succ, zc]
          refine c_wall hl' (by decide) (by omega) b2 w (fun z => r1.1 z.symm) (fun z => r1.2.2 z.symm) (fun z => r1.2.1 z.symm) (by omega) q2 (fun t ht => by rw [q3 t ht, itB_c k0]) (fun f3 b3 => ?_)
          simp only [px_K_none, pc51_23, pc74_71]
          have ee : a + 2 + eL e + 2 + eN e = a + (4 + eL e + itmM 2 e) := by omega
          rw [ee] at b3 ⊢
          exact hQ f3 b3
      · have n2 : ¬ nI k = 2 := fun z => k2 ((nI_eq (b := 2) (by omega) (by decide)).mp z)
        have mm : itmM k e = 0 := if_neg k2
        simp only [pc74_44, pc74_44n, pc74_45, pc74_46, pc74_47, pc74_50, pc74_50n, pc74_51, pc74_54, pc74_57, pc74_58, px_op_some, px_kv_ap, px_ki_ap, px_kl_ap, px_kn_ap, px_kh_ap, px_op_none, px_K_some, px_K_none, px_K_thr, px_kill, ↓reduceIte, if_true, if_false, true_and, and_true, n2, not_false_eq_true, zc]
        refine c_wshort (m := 0) (by omega) hl' (by decide) (by omega) b1 (by rw [itB_m k0, mm]) (by rw [itB_n k0, mm]) (fun f2 b2 => ?_)
        simp only [px_K_none, pc74_61, pc74_62, pc74_63, pc74_66, pc74_66n, pc74_67, pc74_67n, pc74_68, pc74_71, n2, not_false_eq_true, if_true]
        have ee : a + 2 + eL e + 2 = a + (4 + eL e + itmM k e) := by omega
        rw [ee] at b2 ⊢
        exact hQ f2 b2
    have lp : ∀ d t, t + d = eL e → ∀ f', bytA f' (a + 2 + t) (itmB g a k e) → px_Wp sx 74 20 [some (.ref 85), some (.int (nI k)), some (.ref O), some (.int (nI t))] [] (rowH h 85 4120 (a + 2 + t) f') Q := by
      intro d
      induction d with
      | zero =>
        intro t ht f' b'
        have ht : t = eL e := by omega
        subst ht
        have le : nI (eL e) ≤ nI (eL e) := Int32.le_refl _
        simp only [pc74_20, pc74_21, pc74_21n, pc74_22, pc74_25, px_op_some, px_kv_ap, px_ki_ap, px_kl_ap, px_kn_ap, px_kh_ap, px_op_none, px_K_some, px_K_none, px_K_thr, px_kill, ↓reduceIte, if_true, if_false, true_and, and_true, px_gf, z0, List.getElem?_cons_zero, List.getElem?_cons_succ, le]
        exact fin f' b' _
      | succ d ih =>
        intro t ht f' b'
        have ge : ¬ nI (eL e) ≤ nI t := nI_ge (by omega) (by omega)
        have it : px_in (nI t) 35 = true := px_inb (by omega) (by decide)
        have ct : (nI t).toNatClampNeg = t := nI_clamp (by omega)
        have pt := pth_pos ok.1 (show t < eL e by omega)
        have gt := o3 t (by omega)
        rw [pc74_20]
        simp only [pc74_21, pc74_21n, pc74_22, pc74_25, pc74_28, pc74_28n, pc74_29, pc74_29n, pc74_30, pc74_33, pc74_34, pc74_35, px_op_some, px_kv_ap, px_ki_ap, px_kl_ap, px_kn_ap, px_kh_ap, px_op_none, px_K_some, px_K_none, px_K_thr, px_kill, ↓reduceIte, if_true, if_false, true_and, and_true, px_gf, px_ai, z0, z1, List.getElem?_cons_zero, List.getElem?_cons_succ, ge, it, ct, gt, tg_b0, and_self, zc]
        refine c_wadd hl' (by omega) (by decide) b' (by rw [itB_p k0 (by omega)]; exact nI_small (by omega)) (fun f1 b1 => ?_)
        simp only [px_K_none, pc74_38, pc74_41, nI_p1, px_kill]
        exact ih (t + 1) (by omega) f1 b1
    have b0 : bytA f a (itmB g a k e) := fun x hx => by rw [itB_lt hx]; exact b x hx
    simp only [pc74_0, pc74_1, pc74_4, pc74_5, pc74_5n, pc74_6, pc74_7, px_op_some, px_kv_ap, px_ki_ap, px_kl_ap, px_kn_ap, px_kh_ap, px_op_none, px_K_some, px_K_none, px_K_thr, px_kill, ↓reduceIte, if_true, if_false, true_and, and_true, nk, not_false_eq_true, zc]
    refine c_wadd hl' (by omega) (by decide) b0 (by rw [itB_0 k0]; exact nI_small (by omega)) (fun f1 b1 => ?_)
    simp only [px_K_none, pc74_10, pc74_10n, pc74_11, pc74_11n, pc74_12, pc74_15, px_op_some, px_kv_ap, px_ki_ap, px_kl_ap, px_kn_ap, px_kh_ap, px_op_none, px_K_some, px_K_none, px_K_thr, px_kill, ↓reduceIte, if_true, if_false, true_and, and_true, px_gf, z0, List.getElem?_cons_zero, List.getElem?_cons_succ, zc]
    refine c_wadd hl' (by omega) (by decide) b1 (by rw [itB_1 k0]; exact nI_small (by omega)) (fun f2 b2 => ?_)
    simp only [px_K_none, pc74_18, pc74_19, px_kill]
    exact lp (eL e) 0 (by omega) f2 b2
/-! the reference: the path stands in the array A from at on; the bytes, if the item has any, are entry j's -/
set_option maxRecDepth 16384 in
theorem m_item {V row F : Nat → Int32} {A NA at_ n' : Nat} {y : Int32} {E : Nat → aE} (hl : 668 < h.2.length) (hA : h.2[A]? = some (.inr (1, NA, .inl F))) (hNA : NA ≤ 100000) (A1 : A ≠ 619) (A2 : A ≠ 636) (hat : at_ + eL e ≤ NA) (hF : ∀ j, j < eL e → F (at_ + j) = nI (eP e j))
    (we : mtE h (fun i => i < n') E) (ok : eOK e) (hk : k ≤ 4) (nk : k ≠ 0) (hk2 : k = 2 → ∃ j, j < n' ∧ E j = e ∧ y = nI j ∧ byE e) (ha : a + itmN k e ≤ 4120) (b : bytR row a g)
    (hQ : ∀ row', bytR row' (a + itmN k e) (itmB g a k e) → Q (.inl none) (outH h (px_up V 17 (nI (a + itmN k e))) row')) :
    px_Wp sx 212 0 [some (.ref 619), some (.int (nI k)), some (.ref A), some (.int (nI at_)), some (.int (nI (eL e))), some (.int y), none, none] [] (outH h (px_up V 17 (nI a)) row) Q := by
  have hl6 : 636 < h.2.length := by omega
  have l35 := ok.1.2.1
  have n1000 := eN_le ok
  have m1000 : itmM k e ≤ 1000 := by unfold itmM; split <;> omega
  rw [itN_s nk] at ha hQ
  obtain ⟨P, LN, K, Z, C, ⟨a1, a2, a3, a4, a5⟩, w2⟩ := we
  have q : ∀ (v ro : Nat → Int32) r, r ≠ 619 → r ≠ 636 → (outH h v ro).2[r]? = h.2[r]? := fun v ro r h1 h2 => outH_at (fun z => h2 z.symm) (fun z => h1 z.symm)
  have z6 : ∀ v ro : Nat → Int32, (outH h v ro).2[619]? = some (.inl (11, modF v)) := fun v ro => outH_o hl6
  have zc : ∀ v ro : Nat → Int32, px_cls (outH h v ro) 619 = some 11 := fun v ro => by unfold px_cls; rw [z6]
  have zA : ∀ v ro : Nat → Int32, (outH h v ro).2[A]? = some (.inr (1, NA, .inl F)) := fun v ro => by rw [q v ro A A1 A2]; exact hA
  have z40 : ∀ v ro : Nat → Int32, (outH h v ro).2[640]? = some (.inr (1, 82, .inl Z)) := fun v ro => by rw [q v ro _ (by decide) (by decide)]; exact a4
  have z41 : ∀ v ro : Nat → Int32, (outH h v ro).2[641]? = some (.inr (1, 82082, .inl C)) := fun v ro => by rw [q v ro _ (by decide) (by decide)]; exact a5
  have fin : ∀ ro, bytR ro (a + 2 + eL e) (itmB g a k e) → ∀ l6, px_Wp sx 212 37 [some (.ref 619), some (.int (nI k)), some (.ref A), some (.int (nI at_)), some (.int (nI (eL e))), some (.int y), l6, none] [] (outH h (px_up V 17 (nI (a + 2 + eL e))) ro) Q := fun ro b1 l6 => by
    by_cases k2 : k = 2
    · subst k2
      have e2 : nI 2 = 2 := rfl
      obtain ⟨j, j1, rfl, rfl, by_⟩ := hk2 rfl
      have mm : itmM 2 (E j) = eN (E j) := if_pos rfl
      obtain ⟨j82, okj, r1, r2, r3, r4, r5⟩ := w2 j j1
      have ij : px_in (nI j) 82 = true := px_inb j82 (by decide)
      have cj : (nI j).toNatClampNeg = j := nI_clamp (by omega)
      have lq : ∀ d t, t + d = eN (E j) → ∀ ro, bytR ro (a + 2 + eL (E j) + 2 + t) (itmB g a 2 (E j)) → px_Wp sx 212 73 [some (.ref 619), some (.int 2), some (.ref A), some (.int (nI at_)), some (.int (nI (eL (E j)))), some (.int (nI j)), some (.int (nI (eN (E j)))), some (.int (nI t))] [] (outH h (px_up V 17 (nI (a + 2 + eL (E j) + 2 + t))) ro) Q := by
        intro d
        induction d with
        | zero =>
          intro t ht ro b2
          have ht : t = eN (E j) := by omega
          subst ht
          have le : nI (eN (E j)) ≤ nI (eN (E j)) := Int32.le_refl _
          simp only [pc212_73, pc212_75, pc212_77, pc212_104, le, if_true]
          have ee : a + 2 + eL (E j) + 2 + eN (E j) = a + (4 + eL (E j) + itmM 2 (E j)) := by omega
          rw [ee] at b2 ⊢
          exact hQ ro b2
        | succ d ih =>
          intro t ht ro b2
          have ge : ¬ nI (eN (E j)) ≤ nI t := nI_ge (by omega) (by omega)
          have x1 : px_in (nI (1001 * j + t)) 82082 = true := px_inb (by omega) (by decide)
          have x2 : (nI (1001 * j + t)).toNatClampNeg = 1001 * j + t := nI_clamp (by omega)
          have r5t := r5 t (by omega)
          rw [pc212_73]
          simp only [pc212_75, pc212_77, pc212_80, pc212_80n, pc212_81, pc212_81n, pc212_82, pc212_85, pc212_88, pc212_90, pc212_91, pc212_93, pc212_94, pc212_95, px_op_some, px_kv_ap, px_ki_ap, px_kl_ap, px_kn_ap, px_kh_ap, px_op_none, px_K_some, px_K_none, px_K_thr, px_kill, ↓reduceIte, if_true, if_false, true_and, and_true, px_gf, px_ai, z6, mf_25, z41, ge, mul_1001, nI_add, x1, x2, r5t, tg_i1, and_self, zc]
          refine e_add hl6 (by omega) b2 (by rw [itB_c nk]; exact by_ t (by omega)) (fun ro' b3 => ?_)
          simp only [px_K_none, pc212_98, pc212_101, nI_p1, px_kill]
          exact ih (t + 1) (by omega) ro' b3
      simp only [pc212_37, pc212_38, pc212_39, pc212_42, pc212_42n, pc212_43, pc212_46, pc212_48, pc212_49, pc212_52, pc212_53, pc212_55, pc212_55n, pc212_56, pc212_58, px_op_some, px_kv_ap, px_ki_ap, px_kl_ap, px_kn_ap, px_kh_ap, px_op_none, px_K_some, px_K_none, px_K_thr, px_kill, ↓reduceIte, if_true, if_false, true_and, and_true, px_gf, px_ai, z6, mf_24, z40, ij, cj, r3, e2, not_true_eq_false, tg_i1, and_self, zc, px_kill]
      refine e_add hl6 (by omega) b1 (by rw [itB_m nk, mm]; exact nI_255 _) (fun ro1 b2 => ?_)
      simp only [px_K_none, pc212_61, pc212_61n, pc212_62, pc212_64, pc212_66, pc212_67, ishr_8 _ (show eN (E j) < 1001 by omega), zc, true_and]
      refine e_add hl6 (by omega) b2 (by rw [itB_n nk, mm]; exact nI_small (by omega)) (fun ro2 b3 => ?_)
      simp only [px_K_none, pc212_70, pc212_71, px_kill]
      exact lq (eN (E j)) 0 (by omega) ro2 b3
    · have n2 : ¬ nI k = 2 := fun z => k2 ((nI_eq (b := 2) (by omega) (by decide)).mp z)
      have mm : itmM k e = 0 := if_neg k2
      have le : (0 : Int32) ≤ 0 := by decide
      have i0 := ishr_8 0 (by decide)
      rw [show nI 0 = 0 from rfl] at i0
      simp only [pc212_37, pc212_38, pc212_39, pc212_42, pc212_42n, pc212_43, pc212_46, pc212_48, pc212_49, pc212_52, pc212_53, pc212_55, pc212_55n, pc212_56, pc212_58, px_op_some, px_kv_ap, px_ki_ap, px_kl_ap, px_kn_ap, px_kh_ap, px_op_none, px_K_some, px_K_none, px_K_thr, px_kill, ↓reduceIte, if_true, if_false, true_and, and_true, n2, not_false_eq_true, zc, px_kill]
      refine e_add hl6 (by omega) b1 (by rw [itB_m nk, mm]; rfl) (fun ro1 b2 => ?_)
      simp only [px_K_none, pc212_61, pc212_61n, pc212_62, pc212_64, pc212_66, pc212_67, i0, zc, true_and]
      refine e_add hl6 (by omega) b2 (by rw [itB_n nk, mm]; rfl) (fun ro2 b3 => ?_)
      simp only [px_K_none, pc212_70, pc212_71, pc212_73, pc212_75, pc212_77, pc212_104, le, if_true, px_kill]
      have ee : a + 2 + eL e + 1 + 1 = a + (4 + eL e + itmM k e) := by omega
      rw [ee] at b3 ⊢
      exact hQ ro2 b3
  have lp : ∀ d t, t + d = eL e → ∀ ro, bytR ro (a + 2 + t) (itmB g a k e) → px_Wp sx 212 14 [some (.ref 619), some (.int (nI k)), some (.ref A), some (.int (nI at_)), some (.int (nI (eL e))), some (.int y), some (.int (nI t)), none] [] (outH h (px_up V 17 (nI (a + 2 + t))) ro) Q := by
    intro d
    induction d with
    | zero =>
      intro t ht ro b'
      have ht : t = eL e := by omega
      subst ht
      have le : nI (eL e) ≤ nI (eL e) := Int32.le_refl _
      simp only [pc212_14, pc212_16, pc212_18, le, if_true]
      exact fin ro b' _
    | succ d ih =>
      intro t ht ro b'
      have ge : ¬ nI (eL e) ≤ nI t := nI_ge (by omega) (by omega)
      have it : px_in (nI (at_ + t)) NA = true := px_inb (by omega) (by omega)
      have ct : (nI (at_ + t)).toNatClampNeg = at_ + t := nI_clamp (by omega)
      have pt := pth_pos ok.1 (show t < eL e by omega)
      have gt := hF t (by omega)
      rw [pc212_14]
      simp only [pc212_16, pc212_18, pc212_21, pc212_21n, pc212_22, pc212_22n, pc212_23, pc212_24, pc212_26, pc212_27, pc212_28, px_op_some, px_kv_ap, px_ki_ap, px_kl_ap, px_kn_ap, px_kh_ap, px_op_none, px_K_some, px_K_none, px_K_thr, px_kill, ↓reduceIte, if_true, if_false, true_and, and_true, px_ai, zA, ge, nI_add, it, ct, gt, tg_i1, and_self, zc]
      refine e_add hl6 (by omega) b' (by rw [itB_p nk (by omega)]; exact nI_small (by omega)) (fun ro' b1 => ?_)
      simp only [px_K_none, pc212_31, pc212_34, nI_p1, px_kill]
      exact ih (t + 1) (by omega) ro' b1
  have b0 : bytR row a (itmB g a k e) := fun x hx => by rw [itB_lt hx]; exact b x hx
  simp only [pc212_0, pc212_0n, pc212_1, pc212_2, zc, true_and]
  refine e_add hl6 (by omega) b0 (by rw [itB_0 nk]; exact nI_small (by omega)) (fun ro1 b1 => ?_)
  simp only [px_K_none, pc212_5, pc212_5n, pc212_6, pc212_8, zc, true_and]
  refine e_add hl6 (by omega) b1 (by rw [itB_1 nk]; exact nI_small (by omega)) (fun ro2 b2 => ?_)
  simp only [px_K_none, pc212_11, pc212_12, px_kill]
  exact lp (eL e) 0 (by omega) ro2 b2
end ITEM
