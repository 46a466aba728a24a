/-! FIND -/
set_option maxRecDepth 16384 in
theorem lgc_0 (x y : Int64) : (lg_cmp x y = 0) = (x = y) := by
  apply propext
  unfold lg_cmp
  by_cases e : x = y
  · subst e; simp
  · by_cases g : x > y
    · simp [e, g]
    · simp [e, g]
/-- v says where p holds first below B -/
def fstM (p : Nat → Prop) (B : Nat) (v : Int32) : Prop := (v = -1 ∧ ∀ j, j < B → ¬ p j) ∨ ∃ j, j < B ∧ v = nI j ∧ p j ∧ ∀ i, i < j → ¬ p i
/-- v says where p holds last below B -/
def lstM (p : Nat → Prop) (B : Nat) (v : Int32) : Prop := (v = -1 ∧ ∀ j, j < B → ¬ p j) ∨ ∃ j, j < B ∧ v = nI j ∧ p j ∧ ∀ i, j < i → i < B → ¬ p i
set_option maxRecDepth 16384 in
theorem c_find_l {sx : Nat × (Nat → Int32)} {h : px_H} {Y B : Nat} {a c : Int32} {d : Int64} {f : Nat → Int64} {Q : px_O → px_H → Prop} (hB : B ≤ 60) (hY : h.2[Y]? = some (.inl (7, yrdF Y a (nI B) c))) (hD : h.2[Y + 3]? = some (.inr (2, 60, .inr (.inl f))))
    (hQ : ∀ v, fstM (fun j => f j = d) B v → Q (.inl (some (.int v))) h) :
    ∀ m k, k + m = B → (∀ i, i < k → ¬ f i = d) → px_Wp sx 90 2 [some (.ref Y), some (.long d), none, some (.int (nI k))] [] h Q := by
  unfold yrdF at hY
  intro m
  induction m with
  | zero =>
    intro k hk hn
    have hk : k = B := by omega
    subst hk
    simp only [pc90_2, pc90_3, pc90_3n, pc90_4, pc90_7, pc90_29, pc90_30, px_gf, hY, if_true, List.getElem?_cons_zero, List.getElem?_cons_succ, px_op_some, px_kv_ap, px_ki_ap, px_kl_ap, px_kn_ap, px_kh_ap, if_pos (Int32.le_refl (nI k))]
    exact hQ (-1) (.inl ⟨rfl, hn⟩)
  | succ m ih =>
    intro k hk hn
    have hge : ¬ nI B ≤ nI k := nI_ge (by omega) (by omega)
    have hin : px_in (nI k) 60 = true := px_inb (by omega) (by decide)
    have hcl : (nI k).toNatClampNeg = k := nI_clamp (by omega)
    rw [pc90_2]
    by_cases e : f k = d
    · simp only [pc90_3, pc90_3n, pc90_4, pc90_7, pc90_10, pc90_10n, pc90_11, pc90_14, pc90_15, pc90_16, pc90_17, pc90_18, pc90_21, pc90_22, pc90_23, pc90_26, pc90_29, pc90_30, px_gf, px_aj, hY, hD, if_true, List.getElem?_cons_zero, List.getElem?_cons_succ, px_op_some, px_kv_ap, px_ki_ap, px_kl_ap, px_kn_ap, px_kh_ap, if_neg hge, hin, hcl, and_self, lgc_0, e, not_true_eq_false, if_false]
      exact hQ (nI k) (.inr ⟨k, by omega, rfl, e, hn⟩)
    · simp only [pc90_3, pc90_3n, pc90_4, pc90_7, pc90_10, pc90_10n, pc90_11, pc90_14, pc90_15, pc90_16, pc90_17, pc90_18, pc90_21, pc90_22, pc90_23, pc90_26, pc90_29, pc90_30, px_gf, px_aj, hY, hD, if_true, List.getElem?_cons_zero, List.getElem?_cons_succ, px_op_some, px_kv_ap, px_ki_ap, px_kl_ap, px_kn_ap, px_kh_ap, if_neg hge, hin, hcl, and_self, lgc_0, e, not_false_eq_true, px_kill, nI_1]
      exact ih (k + 1) (by omega) (fun i hi => by
        by_cases q : i = k
        · rw [q]; exact e
        · exact hn i (by omega))
set_option maxRecDepth 16384 in
theorem c_find {sx : Nat × (Nat → Int32)} {h : px_H} {Y B : Nat} {a c : Int32} {d : Int64} {f : Nat → Int64} {Q : px_O → px_H → Prop} (hB : B ≤ 60) (hY : h.2[Y]? = some (.inl (7, yrdF Y a (nI B) c))) (hD : h.2[Y + 3]? = some (.inr (2, 60, .inr (.inl f))))
    (hQ : ∀ v, fstM (fun j => f j = d) B v → Q (.inl (some (.int v))) h) : px_Wp sx 90 0 [some (.ref Y), some (.long d), none, none] [] h Q := by
  simp only [pc90_0, pc90_1, px_kill]
  exact c_find_l hB hY hD hQ B 0 (by omega) (fun i hi => absurd hi (by omega))
set_option maxRecDepth 16384 in
theorem m_find_l {sx : Nat × (Nat → Int32)} {h : px_H} {q B : Nat} {d : Int64} {v : Nat → Int32} {fb : Nat → Int32} {f : Nat → Int64} {Q : px_O → px_H → Prop} (hq : q < 2) (hB : B ≤ 60) (hb : fb q = nI B) (h619 : h.2[619]? = some (.inl (11, modF v))) (h621 : h.2[621]? = some (.inr (1, 2, .inl fb))) (h622 : h.2[622]? = some (.inr (2, 122, .inr (.inl f))))
    (hQ : ∀ v, lstM (fun j => f (61 * q + j) = d) B v → Q (.inl (some (.int v))) h) :
    ∀ m k, k + m = B → ∀ z, lstM (fun j => f (61 * q + j) = d) k z → px_Wp sx 155 6 [some (.ref 619), some (.int (nI q)), some (.long d), none, some (.int z), some (.int (nI k))] [] h Q := by
  have iq : px_in (nI q) 2 = true := px_inb hq (by decide)
  have cq : (nI q).toNatClampNeg = q := nI_clamp (by omega)
  have m61 : 61 * nI q = nI (61 * q) := by
    match q, hq with
    | 0, _ => rfl
    | 1, _ => rfl
  intro m
  induction m with
  | zero =>
    intro k hk z hz
    have hk : k = B := by omega
    subst hk
    simp only [pc155_6, pc155_8, pc155_8n, pc155_9, pc155_12, pc155_13, pc155_14, pc155_49, pc155_51, px_gf, px_ai, h619, h621, mf_3, if_true, px_op_some, px_kv_ap, px_ki_ap, px_kl_ap, px_kn_ap, px_kh_ap, tg_i1, iq, cq, hb, and_self, if_pos (Int32.le_refl (nI k))]
    exact hQ z hz
  | succ m ih =>
    intro k hk z hz
    have hge : ¬ nI B ≤ nI k := nI_ge (by omega) (by omega)
    have hin : px_in (nI (61 * q + k)) 122 = true := px_inb (by omega) (by decide)
    have hcl : (nI (61 * q + k)).toNatClampNeg = 61 * q + k := nI_clamp (by omega)
    rw [pc155_6]
    by_cases e : f (61 * q + k) = d
    · simp only [pc155_8, pc155_8n, pc155_9, pc155_12, pc155_13, pc155_14, pc155_17, pc155_17n, pc155_18, pc155_21, pc155_23, pc155_24, pc155_25, pc155_27, pc155_28, pc155_29, pc155_30, pc155_31, pc155_34, pc155_36, pc155_39, pc155_41, pc155_43, pc155_46, pc155_49, pc155_51, px_gf, px_ai, px_aj, h619, h621, h622, mf_3, mf_4, if_true, px_op_some, px_kv_ap, px_ki_ap, px_kl_ap, px_kn_ap, px_kh_ap, tg_i1, iq, cq, hb, and_self, if_neg hge, m61, nI_add, hin, hcl, lgc_0, e, not_true_eq_false, if_false, px_kill, nI_1]
      exact ih (k + 1) (by omega) (nI k) (.inr ⟨k, by omega, rfl, e, fun i h1 h2 => absurd h1 (by omega)⟩)
    · simp only [pc155_8, pc155_8n, pc155_9, pc155_12, pc155_13, pc155_14, pc155_17, pc155_17n, pc155_18, pc155_21, pc155_23, pc155_24, pc155_25, pc155_27, pc155_28, pc155_29, pc155_30, pc155_31, pc155_34, pc155_36, pc155_39, pc155_41, pc155_43, pc155_46, pc155_49, pc155_51, px_gf, px_ai, px_aj, h619, h621, h622, mf_3, mf_4, if_true, px_op_some, px_kv_ap, px_ki_ap, px_kl_ap, px_kn_ap, px_kh_ap, tg_i1, iq, cq, hb, and_self, if_neg hge, m61, nI_add, hin, hcl, lgc_0, e, not_false_eq_true, if_false, px_kill, nI_1]
      refine ih (k + 1) (by omega) z ?_
      rcases hz with ⟨z1, hz⟩ | ⟨j, hj, z1, hp, hz⟩
      · exact .inl ⟨z1, fun j hj => by
          by_cases w : j = k
          · rw [w]; exact e
          · exact hz j (by omega)⟩
      · exact .inr ⟨j, by omega, z1, hp, fun i h1 h2 => by
          by_cases w : i = k
          · rw [w]; exact e
          · exact hz i h1 (by omega)⟩
set_option maxRecDepth 16384 in
theorem m_find {sx : Nat × (Nat → Int32)} {h : px_H} {q B : Nat} {d : Int64} {v : Nat → Int32} {fb : Nat → Int32} {f : Nat → Int64} {Q : px_O → px_H → Prop} (hq : q < 2) (hB : B ≤ 60) (hb : fb q = nI B) (h619 : h.2[619]? = some (.inl (11, modF v))) (h621 : h.2[621]? = some (.inr (1, 2, .inl fb))) (h622 : h.2[622]? = some (.inr (2, 122, .inr (.inl f))))
    (hQ : ∀ v, lstM (fun j => f (61 * q + j) = d) B v → Q (.inl (some (.int v))) h) : px_Wp sx 155 0 [some (.ref 619), some (.int (nI q)), some (.long d), none, none, none] [] h Q := by
  simp only [pc155_0, pc155_1, pc155_3, pc155_4, px_kill]
  exact m_find_l hq hB hb h619 h621 h622 hQ B 0 (by omega) (-1) (.inl ⟨rfl, fun j hj => absurd hj (by omega)⟩)
/-! where what is sought stands once at most, first and last are the same -/
set_option maxRecDepth 16384 in
theorem fst_lst {f g : Nat → Int64} {B : Nat} {d : Int64} {v v' : Int32} (hfg : ∀ j, j < B → f j = g j) (hd : ∀ i j, i < B → j < B → f i = f j → i = j) (h1 : fstM (fun j => f j = d) B v) (h2 : lstM (fun j => g j = d) B v') : v' = v := by
  rcases h1 with ⟨e1, n1⟩ | ⟨j, hj, e1, p1, _⟩
  · rcases h2 with ⟨e2, _⟩ | ⟨j, hj, _, p2, _⟩
    · rw [e1, e2]
    · exact absurd ((hfg j hj).trans p2) (n1 j hj)
  · rcases h2 with ⟨_, n2⟩ | ⟨j', hj', e2, p2, _⟩
    · exact absurd ((hfg j hj).symm.trans p1) (n2 j hj)
    · rw [e1, e2, hd j' j hj' hj (((hfg j' hj').trans p2).trans p1.symm)]
