/-! AN IMAGE OUT OF ITS BYTES, the reference's -/
def mtA (r : Nat) : Prop := r = 619 ∨ 649 ≤ r ∧ r ≤ 653
def mtS (h h' : px_H) (v : Nat → Int32) (L : Nat → Int64) (NM NS VL VS : Nat → Int32) : Prop := frm mtA h h' ∧ (shape h → shape h') ∧ h'.2[619]? = some (.inl (11, modF v)) ∧ h'.2[649]? = some (.inr (2, 13, .inr (.inl L))) ∧ h'.2[650]? = some (.inr (1, 56, .inl NM)) ∧ h'.2[651]? = some (.inr (1, 7, .inl NS)) ∧ h'.2[652]? = some (.inr (1, 84, .inl VL)) ∧ h'.2[653]? = some (.inr (1, 7, .inl VS))
section MTAKE
variable {sx : Nat × (Nat → Int32)} {h h' : px_H} {v : Nat → Int32} {L : Nat → Int64} {NM NS VL VS bb : Nat → Int32} {Q : px_O → px_H → Prop}
set_option maxRecDepth 16384 in
theorem mtS_L {X : Nat → Int64} (w : mtS h h' v L NM NS VL VS) : mtS h (px_wr h' 649 (.inr (2, 13, .inr (.inl X)))) v X NM NS VL VS := by
  obtain ⟨a1, a2, a3, bL, bNM, bNS, bVL, bVS⟩ := w
  have hl : 649 < h'.2.length := (List.getElem?_eq_some_iff.mp bL).1
  refine ⟨frm_wr a1 (.inr ⟨by decide, by decide⟩), fun s => shape_la (a2 s) bL, by rw [wr_at, if_neg (by decide)]; exact a3, by rw [wr_at, if_pos rfl, if_pos hl], by rw [wr_at, if_neg (by decide)]; exact bNM, by rw [wr_at, if_neg (by decide)]; exact bNS, by rw [wr_at, if_neg (by decide)]; exact bVL, by rw [wr_at, if_neg (by decide)]; exact bVS⟩
set_option maxRecDepth 16384 in
theorem mtS_NM {X : Nat → Int32} (w : mtS h h' v L NM NS VL VS) : mtS h (px_wr h' 650 (.inr (1, 56, .inl X))) v L X NS VL VS := by
  obtain ⟨a1, a2, a3, bL, bNM, bNS, bVL, bVS⟩ := w
  have hl : 650 < h'.2.length := (List.getElem?_eq_some_iff.mp bNM).1
  refine ⟨frm_wr a1 (.inr ⟨by decide, by decide⟩), fun s => shape_ia (a2 s) bNM, by rw [wr_at, if_neg (by decide)]; exact a3, by rw [wr_at, if_neg (by decide)]; exact bL, by rw [wr_at, if_pos rfl, if_pos hl], by rw [wr_at, if_neg (by decide)]; exact bNS, by rw [wr_at, if_neg (by decide)]; exact bVL, by rw [wr_at, if_neg (by decide)]; exact bVS⟩
set_option maxRecDepth 16384 in
theorem mtS_NS {X : Nat → Int32} (w : mtS h h' v L NM NS VL VS) : mtS h (px_wr h' 651 (.inr (1, 7, .inl X))) v L NM X VL VS := by
  obtain ⟨a1, a2, a3, bL, bNM, bNS, bVL, bVS⟩ := w
  have hl : 651 < h'.2.length := (List.getElem?_eq_some_iff.mp bNS).1
  refine ⟨frm_wr a1 (.inr ⟨by decide, by decide⟩), fun s => shape_ia (a2 s) bNS, by rw [wr_at, if_neg (by decide)]; exact a3, by rw [wr_at, if_neg (by decide)]; exact bL, by rw [wr_at, if_neg (by decide)]; exact bNM, by rw [wr_at, if_pos rfl, if_pos hl], by rw [wr_at, if_neg (by decide)]; exact bVL, by rw [wr_at, if_neg (by decide)]; exact bVS⟩
set_option maxRecDepth 16384 in
theorem mtS_VL {X : Nat → Int32} (w : mtS h h' v L NM NS VL VS) : mtS h (px_wr h' 652 (.inr (1, 84, .inl X))) v L NM NS X VS := by
  obtain ⟨a1, a2, a3, bL, bNM, bNS, bVL, bVS⟩ := w
  have hl : 652 < h'.2.length := (List.getElem?_eq_some_iff.mp bVL).1
  refine ⟨frm_wr a1 (.inr ⟨by decide, by decide⟩), fun s => shape_ia (a2 s) bVL, by rw [wr_at, if_neg (by decide)]; exact a3, by rw [wr_at, if_neg (by decide)]; exact bL, by rw [wr_at, if_neg (by decide)]; exact bNM, by rw [wr_at, if_neg (by decide)]; exact bNS, by rw [wr_at, if_pos rfl, if_pos hl], by rw [wr_at, if_neg (by decide)]; exact bVS⟩
set_option maxRecDepth 16384 in
theorem mtS_VS {X : Nat → Int32} (w : mtS h h' v L NM NS VL VS) : mtS h (px_wr h' 653 (.inr (1, 7, .inl X))) v L NM NS VL X := by
  obtain ⟨a1, a2, a3, bL, bNM, bNS, bVL, bVS⟩ := w
  have hl : 653 < h'.2.length := (List.getElem?_eq_some_iff.mp bVS).1
  refine ⟨frm_wr a1 (.inr ⟨by decide, by decide⟩), fun s => shape_ia (a2 s) bVS, by rw [wr_at, if_neg (by decide)]; exact a3, by rw [wr_at, if_neg (by decide)]; exact bL, by rw [wr_at, if_neg (by decide)]; exact bNM, by rw [wr_at, if_neg (by decide)]; exact bNS, by rw [wr_at, if_neg (by decide)]; exact bVL, by rw [wr_at, if_pos rfl, if_pos hl]⟩
set_option maxRecDepth 16384 in
theorem mtS_36 {x : Int32} (w : mtS h h' v L NM NS VL VS) : mtS h (px_wr h' 619 (.inl (11, modF (px_up v 36 x)))) (px_up v 36 x) L NM NS VL VS := by
  obtain ⟨a1, a2, a3, bL, bNM, bNS, bVL, bVS⟩ := w
  have hl : 619 < h'.2.length := (List.getElem?_eq_some_iff.mp a3).1
  refine ⟨frm_wr a1 (.inl rfl), fun s => shape_int (k := 36) (a2 s) a3 rfl, by rw [wr_at, if_pos rfl, if_pos hl], by rw [wr_at, if_neg (by decide)]; exact bL, by rw [wr_at, if_neg (by decide)]; exact bNM, by rw [wr_at, if_neg (by decide)]; exact bNS, by rw [wr_at, if_neg (by decide)]; exact bVL, by rw [wr_at, if_neg (by decide)]; exact bVS⟩
set_option maxRecDepth 16384 in
theorem mtS_38 {x : Int32} (w : mtS h h' v L NM NS VL VS) : mtS h (px_wr h' 619 (.inl (11, modF (px_up v 38 x)))) (px_up v 38 x) L NM NS VL VS := by
  obtain ⟨a1, a2, a3, bL, bNM, bNS, bVL, bVS⟩ := w
  have hl : 619 < h'.2.length := (List.getElem?_eq_some_iff.mp a3).1
  refine ⟨frm_wr a1 (.inl rfl), fun s => shape_int (k := 38) (a2 s) a3 rfl, by rw [wr_at, if_pos rfl, if_pos hl], by rw [wr_at, if_neg (by decide)]; exact bL, by rw [wr_at, if_neg (by decide)]; exact bNM, by rw [wr_at, if_neg (by decide)]; exact bNS, by rw [wr_at, if_neg (by decide)]; exact bVL, by rw [wr_at, if_neg (by decide)]; exact bVS⟩
set_option maxRecDepth 16384 in
theorem m_tk_l1 {nl : Nat} {A NA p : Nat} {d : Nat → Int32} (hA : h.2[A]? = some (.inr (1, NA, .inl d))) (hAn : ¬ mtA A) (hN : NA ≤ 100000) (hnl : nl ≤ 12) (hd : ∀ j, j < 2 + 8 * nl → d (p + j) = bb j) (hp : p + (2 + 8 * nl) ≤ NA) (hv : v 36 = nI nl) {l5 : Option Value}
    (hQ : ∀ h' L, mtS h h' v L NM NS VL VS → (∀ i, i < nl → L i = layB bb i) → px_Wp sx 156 48 [some (.ref 619), some (.ref A), some (.int (nI p)), some (.int (nI (p + (2 + 8 * nl)))), some (.int (nI nl)), l5] [] h' Q) :
    ∀ m k, k + m = nl → ∀ h' L, mtS h h' v L NM NS VL VS → (∀ i, i < k → L i = layB bb i) → px_Wp sx 156 16 [some (.ref 619), some (.ref A), some (.int (nI p)), some (.int (nI (p + (2 + 8 * k)))), some (.int (nI k)), l5] [] h' Q := by
  intro m
  induction m with
  | zero =>
    intro k hk h' L w hL
    have hk : k = nl := by omega
    subst hk
    have a3 := w.2.2.1
    simp only [pc156_16, pc156_18, pc156_18n, pc156_19, pc156_22, px_gf, a3, mf_36, hv, if_true, px_op_some, px_kv_ap, px_ki_ap, px_kl_ap, px_kn_ap, px_kh_ap, if_pos (Int32.le_refl (nI k))]
    exact hQ h' L w hL
  | succ m ih =>
    intro k hk h' L w hL
    have hge : ¬ nI nl ≤ nI k := nI_ge (by omega) (by omega)
    have ik : px_in (nI k) 13 = true := px_inb (by omega) (by decide)
    have ck : (nI k).toNatClampNeg = k := nI_clamp (by omega)
    have hA' := frm_at w.1 hAn hA
    have w' := w
    obtain ⟨a1, a2, a3, bL, -⟩ := w'
    rw [pc156_16]
    simp only [pc156_18, pc156_18n, pc156_19, pc156_22, pc156_25, pc156_25n, pc156_26, pc156_29, pc156_31, pc156_31n, pc156_32, pc156_33, px_gf, a3, mf_36, mf_37, hv, if_true, px_op_some, px_kv_ap, px_ki_ap, px_kl_ap, px_kn_ap, px_kh_ap, if_neg hge]
    refine m_longIn (g := fun i => bb (2 + 8 * k + i)) hA' hN (by omega) (fun i hi => ?_) ?_
    · rw [← hd (2 + 8 * k + i) (by omega)]; congr 1; omega
    have e8 : nI (p + (2 + 8 * k)) + 8 = nI (p + (2 + 8 * (k + 1))) := by rw [show (8 : Int32) = nI 8 from rfl, nI_add]; exact congrArg nI (by omega)
    simp only [px_K_some, pc156_36, pc156_37, pc156_38, pc156_40, pc156_41, pc156_42, pc156_45, px_op_some, px_kv_ap, px_ki_ap, px_kl_ap, px_kn_ap, px_kh_ap, px_op_none, px_K_some, px_K_none, px_K_thr, px_kill, ↓reduceIte, if_true, if_false, true_and, and_true, px_wj, bL, ik, ck, and_self, e8, nI_1]
    refine ih (k + 1) (by omega) _ _ (mtS_L w) (fun i hi => ?_)
    by_cases e : i = k
    · subst e; rw [up_same]; rfl
    · rw [up_ne e]; exact hL i (by omega)
set_option maxRecDepth 16384 in
theorem m_tk_name {t e b : Nat} {A NA p : Nat} {d : Nat → Int32} (hA : h.2[A]? = some (.inr (1, NA, .inl d))) (hAn : ¬ mtA A) (hN : NA ≤ 100000) (ht : t < 6) (hb : b ≤ 8) (hsz : NS t = nI b) (hp : p + e + 1 + b ≤ NA) (hd : ∀ k, k < b → d (p + (e + 1 + k)) = bb (e + 1 + k)) {l2 : Option Value}
    (hQ : ∀ h' X, mtS h h' v L X NS VL VS → (∀ k, k < b → X (8 * t + k) = bb (e + 1 + k)) → (∀ j, ¬ (8 * t ≤ j ∧ j < 8 * t + b) → X j = NM j) → px_Wp sx 156 122 [some (.ref 619), some (.ref A), l2, some (.int (nI (p + e))), some (.int (nI t)), some (.int (nI b))] [] h' Q) :
    ∀ m k, k + m = b → ∀ h' X, mtS h h' v L X NS VL VS → (∀ j, j < k → X (8 * t + j) = bb (e + 1 + j)) → (∀ j, ¬ (8 * t ≤ j ∧ j < 8 * t + b) → X j = NM j) → px_Wp sx 156 83 [some (.ref 619), some (.ref A), l2, some (.int (nI (p + e))), some (.int (nI t)), some (.int (nI k))] [] h' Q := by
  have it : px_in (nI t) 7 = true := px_inb (by omega) (by decide)
  have ct : (nI t).toNatClampNeg = t := nI_clamp (by omega)
  have mt : 8 * nI t = nI (8 * t) := by
    have : t = 0 ∨ t = 1 ∨ t = 2 ∨ t = 3 ∨ t = 4 ∨ t = 5 := by omega
    rcases this with rfl | rfl | rfl | rfl | rfl | rfl <;> rfl
  intro m
  induction m with
  | zero =>
    intro k hk h' X w h1 h2
    have hk : k = b := by omega
    subst hk
    have w' := w
    obtain ⟨a1, a2, a3, bL, bNM, bNS, bVL, bVS⟩ := w'
    simp only [pc156_83, pc156_85, pc156_85n, pc156_86, pc156_89, pc156_91, pc156_92, px_gf, px_ai, tg_i1, a3, bNS, mf_40, it, ct, hsz, if_true, px_op_some, px_kv_ap, px_ki_ap, px_kl_ap, px_kn_ap, px_kh_ap, and_self, if_pos (Int32.le_refl (nI k))]
    exact hQ h' X w h1 h2
  | succ m ih =>
    intro k hk h' X w h1 h2
    have hge : ¬ nI b ≤ nI k := nI_ge (by omega) (by omega)
    have hA' := frm_at w.1 hAn hA
    have w' := w
    obtain ⟨a1, a2, a3, bL, bNM, bNS, bVL, bVS⟩ := w'
    have ij : px_in (nI (8 * t + k)) 56 = true := px_inb (by omega) (by decide)
    have cj : (nI (8 * t + k)).toNatClampNeg = 8 * t + k := nI_clamp (by omega)
    have iA : px_in (nI (p + (e + 1 + k))) NA = true := px_inb (by omega) (by omega)
    have cA : (nI (p + (e + 1 + k))).toNatClampNeg = p + (e + 1 + k) := nI_clamp (by omega)
    have ee : nI (p + e + 1 + k) = nI (p + (e + 1 + k)) := by congr 1; omega
    have n1 : ∀ x : Int32, px_nar 1 x = x := fun _ => rfl
    rw [pc156_83]
    simp only [pc156_85, pc156_85n, pc156_86, pc156_89, pc156_91, pc156_92, pc156_95, pc156_95n, pc156_96, pc156_99, pc156_101, pc156_103, pc156_104, pc156_106, pc156_107, pc156_107n, pc156_108, pc156_109, pc156_110, pc156_111, pc156_113, pc156_114, pc156_115, pc156_116, pc156_119, px_op_some, px_kv_ap, px_ki_ap, px_kl_ap, px_kn_ap, px_kh_ap, px_op_none, px_K_some, px_K_none, px_K_thr, px_kill, ↓reduceIte, if_true, if_false, true_and, and_true, px_gf, px_pf, px_ai, px_aj, px_aa, px_wi, px_wj, px_wa, px_an, px_cls, tg_i1, a3, bNS, bNM, hA', mf_40, mf_39, it, ct, hsz, and_self, if_neg hge, mt, nI_add, nI_1, ee, ij, cj, iA, cA, n1]
    refine ih (k + 1) (by omega) _ _ (mtS_NM w) (fun j hj => ?_) (fun j hj => ?_)
    · by_cases q : j = k
      · subst q; rw [up_same]; exact hd j (by omega)
      · rw [up_ne (by omega)]; exact h1 j (by omega)
    · rw [up_ne (fun q => hj ⟨by omega, by omega⟩)]; exact h2 j hj
set_option maxRecDepth 16384 in
theorem m_tk_value {t e b : Nat} {A NA p : Nat} {d : Nat → Int32} (hA : h.2[A]? = some (.inr (1, NA, .inl d))) (hAn : ¬ mtA A) (hN : NA ≤ 100000) (ht : t < 6) (hb : b ≤ 12) (hsz : VS t = nI b) (hp : p + e + 1 + b ≤ NA) (hd : ∀ k, k < b → d (p + (e + 1 + k)) = bb (e + 1 + k)) {l2 : Option Value}
    (hQ : ∀ h' X, mtS h h' v L NM NS X VS → (∀ k, k < b → X (12 * t + k) = bb (e + 1 + k)) → (∀ j, ¬ (12 * t ≤ j ∧ j < 12 * t + b) → X j = VL j) → px_Wp sx 156 186 [some (.ref 619), some (.ref A), l2, some (.int (nI (p + e))), some (.int (nI t)), some (.int (nI b))] [] h' Q) :
    ∀ m k, k + m = b → ∀ h' X, mtS h h' v L NM NS X VS → (∀ j, j < k → X (12 * t + j) = bb (e + 1 + j)) → (∀ j, ¬ (12 * t ≤ j ∧ j < 12 * t + b) → X j = VL j) → px_Wp sx 156 147 [some (.ref 619), some (.ref A), l2, some (.int (nI (p + e))), some (.int (nI t)), some (.int (nI k))] [] h' Q := by
  have it : px_in (nI t) 7 = true := px_inb (by omega) (by decide)
  have ct : (nI t).toNatClampNeg = t := nI_clamp (by omega)
  have mt : 12 * nI t = nI (12 * t) := by
    have : t = 0 ∨ t = 1 ∨ t = 2 ∨ t = 3 ∨ t = 4 ∨ t = 5 := by omega
    rcases this with rfl | rfl | rfl | rfl | rfl | rfl <;> rfl
  intro m
  induction m with
  | zero =>
    intro k hk h' X w h1 h2
    have hk : k = b := by omega
    subst hk
    have w' := w
    obtain ⟨a1, a2, a3, bL, bNM, bNS, bVL, bVS⟩ := w'
    simp only [pc156_147, pc156_149, pc156_149n, pc156_150, pc156_153, pc156_155, pc156_156, px_gf, px_ai, tg_i1, a3, bVS, mf_42, it, ct, hsz, if_true, px_op_some, px_kv_ap, px_ki_ap, px_kl_ap, px_kn_ap, px_kh_ap, and_self, if_pos (Int32.le_refl (nI k))]
    exact hQ h' X w h1 h2
  | succ m ih =>
    intro k hk h' X w h1 h2
    have hge : ¬ nI b ≤ nI k := nI_ge (by omega) (by omega)
    have hA' := frm_at w.1 hAn hA
    have w' := w
    obtain ⟨a1, a2, a3, bL, bNM, bNS, bVL, bVS⟩ := w'
    have ij : px_in (nI (12 * t + k)) 84 = true := px_inb (by omega) (by decide)
    have cj : (nI (12 * t + k)).toNatClampNeg = 12 * t + k := nI_clamp (by omega)
    have iA : px_in (nI (p + (e + 1 + k))) NA = true := px_inb (by omega) (by omega)
    have cA : (nI (p + (e + 1 + k))).toNatClampNeg = p + (e + 1 + k) := nI_clamp (by omega)
    have ee : nI (p + e + 1 + k) = nI (p + (e + 1 + k)) := by congr 1; omega
    have n1 : ∀ x : Int32, px_nar 1 x = x := fun _ => rfl
    rw [pc156_147]
    simp only [pc156_149, pc156_149n, pc156_150, pc156_153, pc156_155, pc156_156, pc156_159, pc156_159n, pc156_160, pc156_163, pc156_165, pc156_167, pc156_168, pc156_170, pc156_171, pc156_171n, pc156_172, pc156_173, pc156_174, pc156_175, pc156_177, pc156_178, pc156_179, pc156_180, pc156_183, px_op_some, px_kv_ap, px_ki_ap, px_kl_ap, px_kn_ap, px_kh_ap, px_op_none, px_K_some, px_K_none, px_K_thr, px_kill, ↓reduceIte, if_true, if_false, true_and, and_true, px_gf, px_pf, px_ai, px_aj, px_aa, px_wi, px_wj, px_wa, px_an, px_cls, tg_i1, a3, bVS, bVL, hA', mf_42, mf_41, it, ct, hsz, and_self, if_neg hge, mt, nI_add, nI_1, ee, ij, cj, iA, cA, n1]
    refine ih (k + 1) (by omega) _ _ (mtS_VL w) (fun j hj => ?_) (fun j hj => ?_)
    · by_cases q : j = k
      · subst q; rw [up_same]; exact hd j (by omega)
      · rw [up_ne (by omega)]; exact h1 j (by omega)
    · rw [up_ne (fun q => hj ⟨by omega, by omega⟩)]; exact h2 j hj
/-- what the reference holds when t settings are taken -/
def mtk (h h' : px_H) (v : Nat → Int32) (nl t : Nat) (bb : Nat → Int32) (pos na nv : Nat → Nat) : Prop := ∃ L NM NS VL VS, mtS h h' v L NM NS VL VS ∧ (∀ i, i < nl → L i = layB bb i) ∧ ∀ s, s < t → NS s = nI (na s) ∧ VS s = nI (nv s) ∧ (∀ k, k < na s → NM (8 * s + k) = bb (pos s + 1 + k)) ∧ ∀ k, k < nv s → VL (12 * s + k) = bb (pos s + 2 + na s + k)
set_option maxRecDepth 16384 in
theorem m_tk_l2 {nl ns l : Nat} {pos na nv : Nat → Nat} {A NA p : Nat} {d : Nat → Int32} (hA : h.2[A]? = some (.inr (1, NA, .inl d))) (hAn : ¬ mtA A) (hN : NA ≤ 100000) (ok : imgOK bb l nl ns pos na nv) (hd : ∀ j, j < l → d (p + j) = bb j) (hp : p + l ≤ NA) (hv : v 38 = nI ns)
    (hQ : ∀ h', mtk h h' v nl ns bb pos na nv → Q (.inl none) h') :
    ∀ m t, t + m = ns → ∀ h' l5, mtk h h' v nl t bb pos na nv → px_Wp sx 156 61 [some (.ref 619), some (.ref A), some (.int (nI p)), some (.int (nI (p + pos t))), some (.int (nI t)), l5] [] h' Q := by
  have hlp := img_pos ok
  obtain ⟨k1, k2, -, k3, k4, k5, k6, k7⟩ := ok
  intro m
  induction m with
  | zero =>
    intro t ht h' l5 u
    have ht : t = ns := by omega
    subst ht
    obtain ⟨L, NM, NS, VL, VS, w, u2, u3⟩ := u
    have a3 := w.2.2.1
    simp only [pc156_61, pc156_63, pc156_63n, pc156_64, pc156_67, pc156_204, px_gf, a3, mf_38, hv, if_true, px_op_some, px_kv_ap, px_ki_ap, px_kl_ap, px_kn_ap, px_kh_ap, if_pos (Int32.le_refl (nI t))]
    exact hQ h' ⟨L, NM, NS, VL, VS, w, u2, u3⟩
  | succ m ih =>
    intro t ht h' l5 u
    obtain ⟨L, NM, NS, VL, VS, w, u2, u3⟩ := u
    obtain ⟨⟨b1, b2, b3, b4⟩, b5, b6, b7⟩ := k6 t (by omega)
    have b8 := hlp m (t + 1) (by omega)
    have hge : ¬ nI ns ≤ nI t := nI_ge (by omega) (by omega)
    have it : px_in (nI t) 7 = true := px_inb (by omega) (by decide)
    have ct : (nI t).toNatClampNeg = t := nI_clamp (by omega)
    have n1 : ∀ x : Int32, px_nar 1 x = x := fun _ => rfl
    have w' := w
    obtain ⟨a1, a2, a3, bL, bNM, bNS, bVL, bVS⟩ := w'
    have hA' := frm_at a1 hAn hA
    have iA : px_in (nI (p + pos t)) NA = true := px_inb (by omega) (by omega)
    have cA : (nI (p + pos t)).toNatClampNeg = p + pos t := nI_clamp (by omega)
    have e1 : d (p + pos t) = nI (na t) := by rw [hd _ (by omega), b5]
    rw [pc156_61]
    simp only [pc156_63, pc156_63n, pc156_64, pc156_67, pc156_70, pc156_70n, pc156_71, pc156_74, pc156_76, pc156_76n, pc156_77, pc156_78, pc156_79, pc156_80, pc156_81, px_op_some, px_kv_ap, px_ki_ap, px_kl_ap, px_kn_ap, px_kh_ap, px_op_none, px_K_some, px_K_none, px_K_thr, px_kill, ↓reduceIte, if_true, if_false, true_and, and_true, px_gf, px_pf, px_ai, px_aj, px_aa, px_wi, px_wj, px_wa, px_an, px_cls, tg_i1, a3, bNS, hA', mf_38, mf_40, hv, it, ct, and_self, if_neg hge, iA, cA, e1, n1]
    refine m_tk_name (e := pos t) (b := na t) (v := v) (NM := NM) (NS := px_up NS t (nI (na t))) hA hAn hN (by omega) b2 (up_same _ _ _) (by omega) (fun k hk => hd _ (by omega)) (fun h1 X w1 x1 x2 => ?_) (na t) 0 (by omega) _ NM (mtS_NS w) (fun j hj => absurd hj (by omega)) (fun _ _ => rfl)
    have w1' := w1
    obtain ⟨a11, a21, a31, bL1, bNM1, bNS1, bVL1, bVS1⟩ := w1'
    have hA1 := frm_at a11 hAn hA
    have e2 : nI (p + pos t) + 1 + nI (na t) = nI (p + (pos t + 1 + na t)) := by rw [nI_1, nI_add]; exact congrArg nI (by omega)
    have iA2 : px_in (nI (p + (pos t + 1 + na t))) NA = true := px_inb (by omega) (by omega)
    have cA2 : (nI (p + (pos t + 1 + na t))).toNatClampNeg = p + (pos t + 1 + na t) := nI_clamp (by omega)
    have e3 : d (p + (pos t + 1 + na t)) = nI (nv t) := by rw [hd _ (by omega), b6]
    simp only [pc156_122, pc156_123, pc156_124, pc156_125, pc156_125n, pc156_126, pc156_129, pc156_131, pc156_132, pc156_133, pc156_134, pc156_134n, pc156_135, pc156_138, pc156_140, pc156_140n, pc156_141, pc156_142, pc156_143, pc156_144, pc156_145, px_op_some, px_kv_ap, px_ki_ap, px_kl_ap, px_kn_ap, px_kh_ap, px_op_none, px_K_some, px_K_none, px_K_thr, px_kill, ↓reduceIte, if_true, if_false, true_and, and_true, px_gf, px_pf, px_ai, px_aj, px_aa, px_wi, px_wj, px_wa, px_an, px_cls, tg_i1, a31, bNS1, bVS1, hA1, mf_40, mf_42, it, ct, up_same, and_self, e2, iA2, cA2, e3, n1]
    refine m_tk_value (e := pos t + 1 + na t) (b := nv t) (v := v) (VL := VL) (VS := px_up VS t (nI (nv t))) hA hAn hN (by omega) b4 (up_same _ _ _) (by omega) (fun k hk => hd _ (by omega)) (fun h2 Y w2 y1 y2 => ?_) (nv t) 0 (by omega) _ VL (mtS_VS w1) (fun j hj => absurd hj (by omega)) (fun _ _ => rfl)
    have w2' := w2
    obtain ⟨a12, a22, a32, bL2, bNM2, bNS2, bVL2, bVS2⟩ := w2'
    have e4 : nI (p + (pos t + 1 + na t) + 1) + nI (nv t) = nI (p + pos (t + 1)) := by rw [nI_add, b7]; exact congrArg nI (by omega)
    simp only [pc156_186, pc156_187, pc156_188, pc156_189, pc156_189n, pc156_190, pc156_193, pc156_195, pc156_196, pc156_197, pc156_198, pc156_201, px_op_some, px_kv_ap, px_ki_ap, px_kl_ap, px_kn_ap, px_kh_ap, px_op_none, px_K_some, px_K_none, px_K_thr, px_kill, ↓reduceIte, if_true, if_false, true_and, and_true, px_gf, px_pf, px_ai, px_aj, px_aa, px_wi, px_wj, px_wa, px_an, px_cls, tg_i1, a32, bVS2, mf_42, it, ct, up_same, and_self, e4, nI_1]
    refine ih (t + 1) (by omega) h2 _ ⟨L, X, px_up NS t (nI (na t)), Y, px_up VS t (nI (nv t)), w2, u2, fun s hs => ?_⟩
    by_cases q : s = t
    · subst q
      refine ⟨up_same _ _ _, up_same _ _ _, fun k hk => x1 k hk, fun k hk => ?_⟩
      rw [y1 k hk]; exact congrArg bb (by omega)
    · obtain ⟨z1, z2, z3, z4⟩ := u3 s (by omega)
      obtain ⟨⟨-, c2, -, c4⟩, -⟩ := k6 s (by omega)
      refine ⟨by rw [up_ne q]; exact z1, by rw [up_ne q]; exact z2, fun k hk => ?_, fun k hk => ?_⟩
      · rw [x2 _ (by omega)]; exact z3 k hk
      · rw [y2 _ (by omega)]; exact z4 k hk
set_option maxRecDepth 16384 in
theorem m_takeImage {nl ns l : Nat} {pos na nv : Nat → Nat} {L : Nat → Int64} {NM NS VL VS : Nat → Int32} {A NA p : Nat} {d : Nat → Int32} (hA : h.2[A]? = some (.inr (1, NA, .inl d))) (hAn : ¬ mtA A) (hN : NA ≤ 100000) (ok : imgOK bb l nl ns pos na nv) (hd : ∀ j, j < l → d (p + j) = bb j) (hp : p + l ≤ NA) (h6 : h.2[619]? = some (.inl (11, modF v))) (hL : h.2[649]? = some (.inr (2, 13, .inr (.inl L)))) (hNM : h.2[650]? = some (.inr (1, 56, .inl NM))) (hNS : h.2[651]? = some (.inr (1, 7, .inl NS))) (hVL : h.2[652]? = some (.inr (1, 84, .inl VL))) (hVS : h.2[653]? = some (.inr (1, 7, .inl VS)))
    (hQ : ∀ h', mtk h h' (px_up (px_up v 36 (nI nl)) 38 (nI ns)) nl ns bb pos na nv → Q (.inl none) h') :
    px_Wp sx 156 0 [some (.ref 619), some (.ref A), some (.int (nI p)), none, none, none] [] h Q := by
  have hlp := img_pos ok ns 0 (by omega)
  have ok' := ok
  obtain ⟨k1, k2, -, k3, k4, k5, k6, k7⟩ := ok
  have w0 : mtS h h v L NM NS VL VS := ⟨frm_refl _ _, fun s => s, h6, hL, hNM, hNS, hVL, hVS⟩
  have iA : px_in (nI (p + 1)) NA = true := px_inb (by omega) (by omega)
  have cA : (nI (p + 1)).toNatClampNeg = p + 1 := nI_clamp (by omega)
  have e1 : d (p + 1) = nI nl := by rw [hd _ (by omega), k3]
  have e2 : nI p + 2 = nI (p + (2 + 8 * 0)) := nI_add p 2
  simp only [pc156_0, pc156_0n, pc156_1, pc156_1n, pc156_2, pc156_3, pc156_4, pc156_5, pc156_6, pc156_9, pc156_10, pc156_11, pc156_12, pc156_13, pc156_14, px_op_some, px_kv_ap, px_ki_ap, px_kl_ap, px_kn_ap, px_kh_ap, px_op_none, px_K_some, px_K_none, px_K_thr, px_kill, ↓reduceIte, if_true, if_false, true_and, and_true, px_gf, px_pf, px_ai, px_aj, px_aa, px_wi, px_wj, px_wa, px_an, px_cls, tg_i1, hA, h6, mf_len, mfs_36, nI_1, iA, cA, e1, and_self, px_fit, Nat.reduceLT, e2]
  refine m_tk_l1 (bb := bb) (NM := NM) (NS := NS) (VL := VL) (VS := VS) hA hAn hN k1 (fun j hj => hd j (by omega)) (by omega) (up_same _ _ _) (fun h1 L1 w1 x1 => ?_) nl 0 (by omega) _ L (mtS_36 w0) (fun i hi => absurd hi (by omega))
  have w1' := w1
  obtain ⟨a1, a2, a3, bL, -⟩ := w1'
  have hA1 := frm_at a1 hAn hA
  have iA2 : px_in (nI (p + (2 + 8 * nl))) NA = true := px_inb (by omega) (by omega)
  have cA2 : (nI (p + (2 + 8 * nl))).toNatClampNeg = p + (2 + 8 * nl) := nI_clamp (by omega)
  have e3 : d (p + (2 + 8 * nl)) = nI ns := by rw [hd _ (by omega), k4]
  have e4 : nI (p + (2 + 8 * nl)) + 1 = nI (p + pos 0) := by rw [nI_1, k5]; exact congrArg nI (by omega)
  simp only [pc156_48, pc156_48n, pc156_49, pc156_49n, pc156_50, pc156_51, pc156_52, pc156_55, pc156_58, pc156_59, px_op_some, px_kv_ap, px_ki_ap, px_kl_ap, px_kn_ap, px_kh_ap, px_op_none, px_K_some, px_K_none, px_K_thr, px_kill, ↓reduceIte, if_true, if_false, true_and, and_true, px_gf, px_pf, px_ai, px_aj, px_aa, px_wi, px_wj, px_wa, px_an, px_cls, tg_i1, hA1, a3, mf_len, mfs_38, iA2, cA2, e3, and_self, px_fit, Nat.reduceLT, e4]
  exact m_tk_l2 hA hAn hN ok' hd hp (up_same _ _ _) hQ ns 0 (by omega) _ _ ⟨L1, NM, NS, VL, VS, mtS_38 w1, x1, fun s hs => absurd hs (by omega)⟩
end MTAKE
