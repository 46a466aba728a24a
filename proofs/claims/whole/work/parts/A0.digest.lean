/-! DIGESTS -/
def dgF (bb : Nat → Int32) : Nat → Int64
  | 0 => -7046029254386353131
  | k + 1 => (dgF bb k ^^^ (bb k).toInt64) * 1099511628211
def dgL (h : Int64) (n : Int32) : Int64 := (h ^^^ n.toInt64) * -2960836687156293229 ^^^ (((h ^^^ n.toInt64) * -2960836687156293229).toUInt64 >>> ((32 : Int32).toInt64.toUInt64 &&& Int64.toUInt64 63)).toInt64
/-- the digest of the first n of bb -/
def dig (bb : Nat → Int32) (n : Nat) : Int64 := dgL (dgF bb n) (nI n)
set_option maxRecDepth 16384 in
theorem dgF_congr {b b' : Nat → Int32} : ∀ n, (∀ k, k < n → b k = b' k) → dgF b n = dgF b' n
  | 0, _ => rfl
  | n + 1, h => by
    show (dgF b n ^^^ (b n).toInt64) * 1099511628211 = (dgF b' n ^^^ (b' n).toInt64) * 1099511628211
    rw [dgF_congr n (fun k hk => h k (by omega)), h n (by omega)]
set_option maxRecDepth 16384 in
theorem dig_congr {b b' : Nat → Int32} {n : Nat} (h : ∀ k, k < n → b k = b' k) : dig b n = dig b' n := by unfold dig; rw [dgF_congr n h]
section DIG
variable {sx : Nat × (Nat → Int32)} {h : px_H} {r N n s c : Nat} {f bb : Nat → Int32} {Q : px_O → px_H → Prop}
set_option maxRecDepth 16384 in
theorem c_dig_l (w : rowAt h r N n f) (hs : s + c ≤ n) (hf : ∀ k, k < c → f (s + k) &&& 255 = bb k) (hQ : Q (.inl (some (.long (dig bb c)))) h) :
    ∀ m k, k + m = c → px_Wp sx 36 7 [some (.ref r), some (.int (nI s)), some (.int (nI c)), some (.long (dgF bb k)), none, some (.int (nI k))] [] h Q := by
  have hn := w.2.2
  have hc : px_cls h r = some 1 := by unfold px_cls; rw [w.1]
  intro m
  induction m with
  | zero =>
    intro k hk
    have hk : k = c := by omega
    subst hk
    simp only [pc36_7, pc36_9, pc36_10, pc36_39, pc36_40, pc36_41, pc36_42, pc36_43, pc36_46, pc36_47, pc36_48, pc36_49, pc36_50, pc36_52, pc36_53, pc36_54, if_pos (Int32.le_refl (nI k)), px_kill]
    exact hQ
  | succ m ih =>
    intro k hk
    have hge : ¬ nI c ≤ nI k := nI_ge (by omega) (by omega)
    have h0 : ¬ nI (s + k) < 0 := nI_pos (by omega)
    have h1 : ¬ nI n ≤ nI (s + k) := nI_ge (by omega) (by omega)
    have ck : (nI (s + k)).toNatClampNeg = s + k := nI_clamp (by omega)
    have e : f (s + k) &&& 255 &&& 255 = bb k := by rw [Int32.and_assoc, Int32.and_self, hf k (by omega)]
    rw [pc36_7]
    simp only [pc36_9, pc36_10, pc36_13, pc36_14, pc36_14n, pc36_15, pc36_16, pc36_18, pc36_19, if_neg hge, nI_add, hc, true_and]
    rw [r_at w]
    simp only [px_K_some, pc36_22, pc36_25, pc36_26, pc36_27, pc36_28, pc36_31, pc36_32, pc36_33, pc36_36, px_kill, if_neg h0, if_neg h1, ck, e, nI_1]
    exact ih (k + 1) (by omega)
set_option maxRecDepth 16384 in
theorem c_digest (w : rowAt h r N n f) (hs : s + c ≤ n) (hf : ∀ k, k < c → f (s + k) &&& 255 = bb k) (hQ : Q (.inl (some (.long (dig bb c)))) h) :
    px_Wp sx 36 0 [some (.ref r), some (.int (nI s)), some (.int (nI c)), none, none, none] [] h Q := by
  simp only [pc36_0, pc36_3, pc36_4, pc36_5, px_kill]
  exact c_dig_l w hs hf hQ c 0 (by omega)
set_option maxRecDepth 16384 in
theorem m_dig_l {v : Nat → Int32} (h6 : h.2[619]? = some (.inl (11, modF v))) (hr : h.2[636]? = some (.inr (1, 40100, .inl f))) (hv : v 17 = nI c) (hc : c ≤ 40000) (hQ : Q (.inl (some (.long (dig f c)))) h) :
    ∀ m k, k + m = c → px_Wp sx 170 6 [some (.ref 619), some (.long (dgF f k)), none, some (.int (nI k))] [] h Q := by
  intro m
  induction m with
  | zero =>
    intro k hk
    have hk : k = c := by omega
    subst hk
    simp only [pc170_6, pc170_7, pc170_7n, pc170_8, pc170_11, pc170_31, pc170_32, pc170_32n, pc170_33, pc170_36, pc170_39, px_gf, h6, mf_17, hv, if_true, px_op_some, px_kv_ap, px_ki_ap, px_kl_ap, px_kn_ap, px_kh_ap, if_pos (Int32.le_refl (nI k)), pc172_0, pc172_1, pc172_2, pc172_3, pc172_4, pc172_7, pc172_8, pc172_9, pc172_10, pc172_11, pc172_13, pc172_14, pc172_15, px_kill, px_K_some]
    exact hQ
  | succ m ih =>
    intro k hk
    have hge : ¬ nI c ≤ nI k := nI_ge (by omega) (by omega)
    have ik : px_in (nI k) 40100 = true := px_inb (by omega) (by decide)
    have ck : (nI k).toNatClampNeg = k := nI_clamp (by omega)
    rw [pc170_6]
    simp only [pc170_7, pc170_7n, pc170_8, pc170_11, pc170_14, pc170_15, pc170_15n, pc170_16, pc170_19, pc170_20, pc170_21, pc170_24, pc170_25, pc170_28, px_op_some, px_kv_ap, px_ki_ap, px_kl_ap, px_kn_ap, px_kh_ap, px_op_none, px_K_some, px_K_none, px_K_thr, px_kill, ↓reduceIte, if_true, if_false, true_and, and_true, px_gf, px_pf, px_ai, px_aj, px_aa, px_wi, px_wj, px_wa, px_an, px_cls, h6, hr, mf_17, mf_19, hv, if_neg hge, tg_i1, ik, ck, and_self, pc171_0, pc171_1, pc171_2, pc171_3, pc171_4, pc171_7, pc171_8, nI_1]
    exact ih (k + 1) (by omega)
set_option maxRecDepth 16384 in
theorem m_digest {v : Nat → Int32} (h6 : h.2[619]? = some (.inl (11, modF v))) (hr : h.2[636]? = some (.inr (1, 40100, .inl f))) (hv : v 17 = nI c) (hc : c ≤ 40000) (hQ : Q (.inl (some (.long (dig f c)))) h) :
    px_Wp sx 170 0 [some (.ref 619), none, none, none] [] h Q := by
  simp only [pc170_0, pc170_3, pc170_4, pc170_5, px_kill]
  exact m_dig_l h6 hr hv hc hQ c 0 (by omega)
/-! two stretches of rows are the same -/
set_option maxRecDepth 16384 in
theorem c_same_l {r' N' n' s' : Nat} {f' b' : Nat → Int32} (w : rowAt h r N n f) (w' : rowAt h r' N' n' f') (hs : s + c ≤ n) (hs' : s' + c ≤ n') (hf : ∀ k, k < c → f (s + k) &&& 255 = bb k) (hf' : ∀ k, k < c → f' (s' + k) &&& 255 = b' k)
    (hQ1 : (∀ k, k < c → bb k = b' k) → Q (.inl (some (.int 1))) h) (hQ0 : (∃ k, k < c ∧ ¬ bb k = b' k) → Q (.inl (some (.int 0))) h) :
    ∀ m k, k + m = c → (∀ j, j < k → bb j = b' j) → px_Wp sx 39 3 [some (.ref r), some (.int (nI s)), some (.ref r'), some (.int (nI s')), some (.int (nI c)), some (.int (nI k))] [] h Q := by
  have hn := w.2.2
  have hn' := w'.2.2
  have hc : px_cls h r = some 1 := by unfold px_cls; rw [w.1]
  have hc' : px_cls h r' = some 1 := by unfold px_cls; rw [w'.1]
  intro m
  induction m with
  | zero =>
    intro k hk hp
    have hk : k = c := by omega
    subst hk
    simp only [pc39_3, pc39_5, pc39_7, pc39_37, pc39_38, if_pos (Int32.le_refl (nI k)), nar_1]
    exact hQ1 hp
  | succ m ih =>
    intro k hk hp
    have hge : ¬ nI c ≤ nI k := nI_ge (by omega) (by omega)
    have h0 : ¬ nI (s + k) < 0 := nI_pos (by omega)
    have h1 : ¬ nI n ≤ nI (s + k) := nI_ge (by omega) (by omega)
    have ck : (nI (s + k)).toNatClampNeg = s + k := nI_clamp (by omega)
    have h0' : ¬ nI (s' + k) < 0 := nI_pos (by omega)
    have h1' : ¬ nI n' ≤ nI (s' + k) := nI_ge (by omega) (by omega)
    have ck' : (nI (s' + k)).toNatClampNeg = s' + k := nI_clamp (by omega)
    rw [pc39_3]
    simp only [pc39_5, pc39_7, pc39_10, pc39_10n, pc39_11, pc39_12, pc39_14, pc39_15, if_neg hge, nI_add, hc, true_and]
    rw [r_at w]
    simp only [px_K_some, pc39_18, pc39_18n, pc39_19, pc39_20, pc39_22, pc39_23, if_neg h0, if_neg h1, ck, hf k (by omega), nI_add, hc', true_and]
    rw [r_at w']
    by_cases e : bb k = b' k
    · simp only [px_K_some, pc39_26, pc39_29, pc39_30, pc39_31, pc39_34, if_neg h0', if_neg h1', ck', hf' k (by omega), e, if_true, px_kill, nI_1]
      refine ih (k + 1) (by omega) (fun j hj => ?_)
      by_cases q : j = k
      · rw [q]; exact e
      · exact hp j (by omega)
    · simp only [px_K_some, pc39_26, pc39_29, pc39_30, if_neg h0', if_neg h1', ck', hf' k (by omega), e, if_false, nar_0]
      exact hQ0 ⟨k, by omega, e⟩
set_option maxRecDepth 16384 in
theorem c_isSame {r' N' n' s' : Nat} {f' b' : Nat → Int32} (w : rowAt h r N n f) (w' : rowAt h r' N' n' f') (hs : s + c ≤ n) (hs' : s' + c ≤ n') (hf : ∀ k, k < c → f (s + k) &&& 255 = bb k) (hf' : ∀ k, k < c → f' (s' + k) &&& 255 = b' k)
    (hQ1 : (∀ k, k < c → bb k = b' k) → Q (.inl (some (.int 1))) h) (hQ0 : (∃ k, k < c ∧ ¬ bb k = b' k) → Q (.inl (some (.int 0))) h) :
    px_Wp sx 39 0 [some (.ref r), some (.int (nI s)), some (.ref r'), some (.int (nI s')), some (.int (nI c)), none] [] h Q := by
  simp only [pc39_0, pc39_1, px_kill]
  exact c_same_l w w' hs hs' hf hf' hQ1 hQ0 c 0 (by omega) (fun j hj => absurd hj (by omega))
end DIG
