/-! TWO PATHS, the reference's; join -/
def mpo (h : px_H) (p : Nat → Nat) (l : Nat) : Prop := ∃ g, h.2[648]? = some (.inr (1, 240, .inl g)) ∧ ∀ j, j < l → g j = nI (p j)
def swA (r : Nat) : Prop := r = 619 ∨ r = 647 ∨ r = 648
section SWAP
variable {sx : Nat × (Nat → Int32)} {h : px_H} {n l l2 : Nat} {T : Nat → aE} {p p2 : Nat → Nat} {V : Nat → Int32} {Q : px_O → px_H → Prop}
def swV (V : Nat → Int32) (l l2 : Nat) : Nat → Int32 := px_up (px_up V 32 (nI l2)) 34 (nI l)
set_option maxRecDepth 16384 in
theorem m_swap (h6 : h.2[619]? = some (.inl (11, modF V))) (hv : V 32 = nI l) (hv2 : V 34 = nI l2) (pt : mpt h p l) (po : mpo h p2 l2) (hl : l ≤ 240) (hl2 : l2 ≤ 240)
    (hQ : ∀ h1, h1.2[619]? = some (.inl (11, modF (swV V l l2))) → mpt h1 p2 l2 → mpo h1 p l → frm swA h h1 → (shape h → shape h1) → Q (.inl none) h1) :
    px_Wp sx 205 0 [some (.ref 619), none, none, none] [] h Q := by
  obtain ⟨A, a1, a2⟩ := pt
  obtain ⟨B, b1, b2⟩ := po
  have L6 : 619 < h.2.length := (List.getElem?_eq_some_iff.mp h6).1
  have lp : ∀ mx, l ≤ mx → l2 ≤ mx → mx ≤ 240 → ∀ d k, k + d = mx → ∀ h1 A1 B1 l3, frm swA h h1 → (shape h → shape h1) → h1.2[619]? = some (.inl (11, modF V)) → h1.2[647]? = some (.inr (1, 240, .inl A1)) → h1.2[648]? = some (.inr (1, 240, .inl B1)) → (∀ j, j < k → A1 j = B j ∧ B1 j = A j) → (∀ j, k ≤ j → A1 j = A j ∧ B1 j = B j) → px_Wp sx 205 25 [some (.ref 619), some (.int (nI mx)), some (.int (nI k)), l3] [] h1 Q := by
    intro mx m1 m2 m3 d
    induction d with
    | zero =>
      intro k hk h1 A1 B1 l3 fr sh c6 c7 c8 q1 q2
      have hk : k = mx := by omega
      subst hk
      have le : nI k ≤ nI k := Int32.le_refl _
      have L1 : 619 < h1.2.length := (List.getElem?_eq_some_iff.mp c6).1
      have w6 : ∀ X : Nat → Int32, (px_wr h1 619 (.inl (11, modF X))).2[619]? = some (.inl (11, modF X)) := fun X => by rw [wr_at, if_pos rfl, if_pos L1]
      have ww : ∀ X Y : Nat → Int32, px_wr (px_wr h1 619 (.inl (11, modF X))) 619 (.inl (11, modF Y)) = px_wr h1 619 (.inl (11, modF Y)) := fun X Y => px_wr_wr
      simp only [pc205_25, pc205_26, pc205_27, pc205_62, pc205_62n, pc205_63, pc205_66, pc205_67, pc205_67n, pc205_68, pc205_68n, pc205_69, pc205_72, pc205_75, pc205_75n, pc205_76, pc205_77, pc205_80, px_op_some, px_kv_ap, px_ki_ap, px_kl_ap, px_kn_ap, px_kh_ap, px_op_none, px_K_some, px_K_none, px_K_thr, px_kill, ↓reduceIte, if_true, if_false, true_and, and_true, px_gf, px_pf, c6, w6, ww, mf_32, mf_34, mfs_32, mfs_34, mf_len, hv, hv2, le, Nat.reduceLT, px_fit, and_self, px_kill]
      exact hQ _ (w6 _) ⟨A1, by rw [wr_at, if_neg (by decide)]; exact c7, fun j hj => by rw [(q1 j (by omega)).1]; exact b2 j hj⟩ ⟨B1, by rw [wr_at, if_neg (by decide)]; exact c8, fun j hj => by rw [(q1 j (by omega)).2]; exact a2 j hj⟩ (frm_wr fr (.inl rfl)) (fun z => shape_mod (sh z))
    | succ d ih =>
      intro k hk h1 A1 B1 l3 fr sh c6 c7 c8 q1 q2
      have ge : ¬ nI mx ≤ nI k := nI_ge (by omega) (by omega)
      have ik : px_in (nI k) 240 = true := px_inb (by omega) (by decide)
      have ck : (nI k).toNatClampNeg = k := nI_clamp (by omega)
      have L7 : 647 < h1.2.length := (List.getElem?_eq_some_iff.mp c7).1
      have L8 : 648 < h1.2.length := (List.getElem?_eq_some_iff.mp c8).1
      obtain ⟨e1, e2⟩ := q2 k (Nat.le_refl _)
      have y6 : (px_wr h1 647 (.inr (1, 240, .inl (px_up A1 k (B k))))).2[619]? = some (.inl (11, modF V)) := by rw [wr_at, if_neg (by decide)]; exact c6
      have y8 : (px_wr h1 647 (.inr (1, 240, .inl (px_up A1 k (B k))))).2[648]? = some (.inr (1, 240, .inl B1)) := by rw [wr_at, if_neg (by decide)]; exact c8
      rw [pc205_25]
      simp only [pc205_26, pc205_27, pc205_30, pc205_30n, pc205_31, pc205_34, pc205_35, pc205_36, pc205_37, pc205_37n, pc205_38, pc205_41, pc205_42, pc205_42n, pc205_43, pc205_46, pc205_47, pc205_48, pc205_49, pc205_49n, pc205_50, pc205_53, pc205_54, pc205_55, pc205_56, pc205_59, px_op_some, px_kv_ap, px_ki_ap, px_kl_ap, px_kn_ap, px_kh_ap, px_op_none, px_K_some, px_K_none, px_K_thr, px_kill, ↓reduceIte, if_true, if_false, true_and, and_true, px_gf, px_ai, px_wi, c6, y6, c7, c8, y8, mf_33, mf_35, ge, ik, ck, e1, e2, nar1, tg_i1, and_self, px_kill, nI_p1]
      refine ih (k + 1) (by omega) _ (px_up A1 k (B k)) (px_up B1 k (A k)) _ (frm_wr (frm_wr fr (.inr (.inl rfl))) (.inr (.inr rfl))) (fun z => shape_ia (r := 648) (shape_ia (sh z) c7) y8) (by rw [wr_at, if_neg (by decide)]; exact y6) (by rw [wr_at, if_neg (by decide), wr_at, if_pos rfl, if_pos L7]) (by rw [wr_at, if_pos rfl, if_pos (by rw [px_wr_len]; exact L8)]) (fun j hj => ?_) (fun j hj => ?_)
      · by_cases x : j = k
        · subst x; exact ⟨up_same _ _ _, up_same _ _ _⟩
        · rw [up_ne x, up_ne x]; exact q1 j (by omega)
      · rw [up_ne (by omega), up_ne (by omega)]; exact q2 j (by omega)
  have q0 : ∀ j, j < 0 → A j = B j ∧ B j = A j := fun j hj => absurd hj (Nat.not_lt_zero j)
  by_cases x : l ≤ l2
  · have le : nI l ≤ nI l2 := nI_le x (by omega)
    simp only [pc205_0, pc205_0n, pc205_1, pc205_4, pc205_4n, pc205_5, pc205_8, pc205_18, pc205_18n, pc205_19, pc205_22, pc205_23, pc205_24, px_op_some, px_kv_ap, px_ki_ap, px_kl_ap, px_kn_ap, px_kh_ap, px_op_none, px_K_some, px_K_none, px_K_thr, px_kill, ↓reduceIte, if_true, if_false, true_and, and_true, px_gf, h6, mf_32, mf_34, hv, hv2, le, px_kill]
    exact lp l2 x (Nat.le_refl _) hl2 l2 0 (by omega) h A B _ (frm_refl _ _) (fun z => z) h6 a1 b1 q0 (fun j _ => ⟨rfl, rfl⟩)
  · have le : ¬ nI l ≤ nI l2 := nI_ge (by omega) (by omega)
    simp only [pc205_0, pc205_0n, pc205_1, pc205_4, pc205_4n, pc205_5, pc205_8, pc205_11, pc205_11n, pc205_12, pc205_15, pc205_22, pc205_23, pc205_24, px_op_some, px_kv_ap, px_ki_ap, px_kl_ap, px_kn_ap, px_kh_ap, px_op_none, px_K_some, px_K_none, px_K_thr, px_kill, ↓reduceIte, if_true, if_false, true_and, and_true, px_gf, h6, mf_32, mf_34, hv, hv2, le, px_kill]
    exact lp l (Nat.le_refl _) (by omega) hl l 0 (by omega) h A B _ (frm_refl _ _) (fun z => z) h6 a1 b1 q0 (fun j _ => ⟨rfl, rfl⟩)
set_option maxRecDepth 16384 in
theorem swV_2 (hv : V 32 = nI l) (hv2 : V 34 = nI l2) : swV (swV V l l2) l2 l = V := by
  unfold swV
  funext j
  unfold px_up
  by_cases x : j = 34
  · subst x; simp only [if_true]; exact hv2.symm
  · rw [if_neg x]
    by_cases y : j = 32
    · subst y; simp only [if_true]; exact hv.symm
    · rw [if_neg y, if_neg x, if_neg y]
end SWAP
