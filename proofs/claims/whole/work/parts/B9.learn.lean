/-! A RECORD LEARNT, the class's -/
set_option maxRecDepth 16384 in
theorem b255_nat (x : Int32) : ∃ b, b < 256 ∧ x &&& 255 = nI b := by
  refine ⟨(x &&& 255).toBitVec.toNat, ?_, ?_⟩
  · rw [Int32.toBitVec_and, BitVec.toNat_and]
    exact Nat.lt_of_le_of_lt Nat.and_le_right (by decide)
  · apply Int32.toBitVec_inj.mp
    show _ = BitVec.ofNat 32 _
    rw [BitVec.ofNat_toNat, BitVec.setWidth_eq]
/-- a row's byte as a number -/
def bvF (f : Nat → Int32) (j : Nat) : Nat := (f j &&& 255).toNatClampNeg
set_option maxRecDepth 16384 in
theorem bvF_ok (f : Nat → Int32) (j : Nat) : f j &&& 255 = nI (bvF f j) ∧ bvF f j < 256 := by
  obtain ⟨b, hb, e⟩ := b255_nat (f j)
  unfold bvF
  rw [e, nI_clamp (by omega)]
  exact ⟨rfl, hb⟩
set_option maxRecDepth 16384 in
theorem bvF_is {f : Nat → Int32} {j b : Nat} (e : f j &&& 255 = nI b) (hb : b < 256) : bvF f j = b := by unfold bvF; rw [e, nI_clamp (by omega)]
/-- the class's yard but for its row -/
def CYb (h : px_H) (Y : Nat) (s : Int32) (S : yS) : Prop :=
  h.2[Y]? = some (.inl (7, yrdF Y s (nI (yB S)) (nI (yK S)))) ∧
  (∃ D, h.2[Y + 3]? = some (.inr (2, 60, .inr (.inl D))) ∧ ∀ k, k < yB S → D k = yD S k) ∧ (∃ st, h.2[Y + 4]? = some (.inr (1, 60, .inl st)) ∧ ∀ k, k < yB S → st k = nI (yP S k)) ∧ (∃ ln, h.2[Y + 5]? = some (.inr (1, 60, .inl ln)) ∧ ∀ k, k < yB S → ln k = nI (yL S k)) ∧ (∃ mk, h.2[Y + 6]? = some (.inr (3, 60, .inl mk))) ∧
  (∃ ky, h.2[Y + 7]? = some (.inr (2, 60, .inr (.inl ky))) ∧ ∀ k, k < yK S → ky k = yX S k) ∧ (∃ kl, h.2[Y + 8]? = some (.inr (2, 60, .inr (.inl kl))) ∧ ∀ k, k < yK S → kl k = yE S k) ∧
  (∃ G, h.2[Y + 9]? = some (.inr (2, 8, .inr (.inl G))) ∧ ∀ j, j < 8 → yT S j = true → G j = yG S j) ∧ ∃ T, h.2[Y + 10]? = some (.inr (3, 8, .inl T)) ∧ ∀ j, j < 8 → T j = if yT S j = true then 1 else 0
set_option maxRecDepth 16384 in
theorem CY_b {h : px_H} {Y : Nat} {S : yS} : CY h Y S ↔ (∃ f, rowAt h (Y + 1) 40000 (yR S) f ∧ ∀ j, j < yR S → f j &&& 255 = yJ S j) ∧ CYb h Y (nI (yC S)) S := Iff.rfl
def cbA (Y r : Nat) : Prop := r = Y ∨ Y + 3 ≤ r ∧ r ≤ Y + 10
section LEARN
variable {sx : Nat × (Nat → Int32)} {h : px_H} {Y n p : Nat} {s : Int32} {S : yS} {f : Nat → Int32} {Q : px_O → px_H → Prop}
set_option maxRecDepth 16384 in
theorem c_learn_keep {bb : Nat → Int32} {c : Nat} (cb : CYb h Y s S) (w : rowAt h (Y + 1) 40000 n f) (hp : p = yR S) (hn : p + (6 + c) ≤ n) (hB : yB S < 60) (hf : ∀ k, k < 6 + c → f (p + k) &&& 255 = recB 1 c bb k)
    (hQ : ∀ h', CYb h' Y s (yKeep S bb c) → frm (cbA Y) h h' → (shape h → shape h') → Q (.inl none) h') :
    px_Wp sx 105 0 [some (.ref Y), some (.int (nI p)), none] [] h Q := by
  have hn4 := w.2.2
  obtain ⟨b0, ⟨D, c1, c2⟩, ⟨st, d1, d2⟩, ⟨ln, e1, e2⟩, ⟨mk, f1⟩, ⟨ky, g1, g2⟩, ⟨kl, h1, h2⟩, ⟨G, i1, i2⟩, T, j1, j2⟩ := cb
  have hl10 : Y + 10 < h.2.length := (List.getElem?_eq_some_iff.mp j1).1
  have b0' := b0
  unfold yrdF at b0'
  have hcR : px_cls h (Y + 1) = some 1 := by unfold px_cls; rw [w.1]
  have hcY : px_cls h Y = some 7 := by unfold px_cls; rw [b0]
  have e5 : nI p + 5 = nI (p + 5) := nI_add p 5
  have kd : f p &&& 255 = 1 := by have := hf 0 (by omega); rw [Nat.add_zero] at this; exact this
  have k1 : f (p + 1) &&& 255 = nI (c % 256) := (hf 1 (by omega)).trans rec_1
  have k2 : f (p + 2) &&& 255 = nI (c / 256) := (hf 2 (by omega)).trans rec_2
  have sv1 : svB n (bvF f) (p + 1) = c % 256 := by unfold svB; rw [if_pos (by omega), bvF_is k1 (by omega)]
  have sv2 : svB n (bvF f) (p + 1 + 1) = c / 256 := by unfold svB; rw [if_pos (by omega)]; exact bvF_is k2 (by omega)
  simp only [pc105_0, pc105_1, pc105_2, pc105_3, pc105_4, pc105_4n, pc105_5, pc105_8, pc105_9, px_gf, b0', if_true, List.getElem?_cons_zero, px_op_some, px_kv_ap, px_ki_ap, px_kl_ap, px_kn_ap, px_kh_ap, px_kill, e5, hcR, true_and]
  rw [r_at w, if_neg (nI_pos (by omega)), if_neg (nI_ge (by omega) (by omega)), nI_clamp (by omega), kd]
  simp only [px_K_some, pc105_12, pc105_44, pc105_44n, pc105_45, pc105_46, pc105_46n, pc105_47, pc105_50, pc105_51, pc105_52, pc105_53, if_true, px_gf, b0', List.getElem?_cons_zero, px_op_some, px_kv_ap, px_ki_ap, px_kl_ap, px_kn_ap, px_kh_ap, nI_1, hcR, true_and]
  refine c_shortAt w (fun j _ => bvF_ok f j) (by omega) ?_
  rw [sv1, sv2, show c % 256 + 256 * (c / 256) = c by omega]
  simp only [px_K_some, pc105_56, hcY, true_and]
  refine c_learnBlob (bb := bb) b0 w c1 d1 e1 hB (by omega) (fun k hk => by rw [Nat.add_assoc, hf (5 + k) (by omega), rec_d hk]) ?_
  simp only [px_K_none, pc105_59, pc105_131]
  have z : ∀ {r : Nat} {x : px_C}, h.2[r]? = some x → Y ≠ r → Y + 3 ≠ r → Y + 4 ≠ r → Y + 5 ≠ r → (bloH h Y s (nI (yK S)) (yB S + 1) (px_up D (yB S) (dig bb c)) (px_up st (yB S) (nI (p + 5))) (px_up ln (yB S) (nI c))).2[r]? = some x := fun ee p3 p4 p5 p6 => by
    unfold bloH; rw [wr_at, if_neg p3, wr_at, if_neg p6, wr_at, if_neg p5, wr_at, if_neg p4]; exact ee
  refine hQ _ ⟨?_, ⟨px_up D (yB S) (dig bb c), ?_, fun k hk => ?_⟩, ⟨px_up st (yB S) (nI (p + 5)), ?_, fun k hk => ?_⟩, ⟨px_up ln (yB S) (nI c), ?_, fun k hk => ?_⟩, ⟨mk, z f1 (by omega) (by omega) (by omega) (by omega)⟩, ⟨ky, z g1 (by omega) (by omega) (by omega) (by omega), g2⟩, ⟨kl, z h1 (by omega) (by omega) (by omega) (by omega), h2⟩, ⟨G, z i1 (by omega) (by omega) (by omega) (by omega), i2⟩, T, z j1 (by omega) (by omega) (by omega) (by omega), j2⟩ ?_ (fun hs => ?_)
  · unfold bloH; rw [wr_at, if_pos rfl, if_pos (by simp only [px_wr_len]; omega)]; rfl
  · unfold bloH; rw [wr_at, if_neg (by omega), wr_at, if_neg (by omega), wr_at, if_neg (by omega), wr_at, if_pos rfl, if_pos (by omega)]
  · show px_up D (yB S) (dig bb c) k = px_up (yD S) (yB S) (dig bb c) k
    by_cases e : k = yB S
    · rw [e, up_same, up_same]
    · rw [up_ne e, up_ne e]; exact c2 k (by have : k < yB S + 1 := hk; omega)
  · unfold bloH; rw [wr_at, if_neg (by omega), wr_at, if_neg (by omega), wr_at, if_pos rfl, if_pos (by simp only [px_wr_len]; omega)]
  · show px_up st (yB S) (nI (p + 5)) k = nI (px_up (yP S) (yB S) (yR S + 5) k)
    by_cases e : k = yB S
    · rw [e, up_same, up_same, hp]
    · rw [up_ne e, up_ne e]; exact d2 k (by have : k < yB S + 1 := hk; omega)
  · unfold bloH; rw [wr_at, if_neg (by omega), wr_at, if_pos rfl, if_pos (by simp only [px_wr_len]; omega)]
  · show px_up ln (yB S) (nI c) k = nI (px_up (yL S) (yB S) c k)
    by_cases e : k = yB S
    · rw [e, up_same, up_same]
    · rw [up_ne e, up_ne e]; exact e2 k (by have : k < yB S + 1 := hk; omega)
  · exact frm_wr (frm_wr (frm_wr (frm_wr (frm_refl _ _) (.inr ⟨by omega, by omega⟩)) (.inr ⟨by omega, by omega⟩)) (.inr ⟨by omega, by omega⟩)) (.inl rfl)
  · unfold bloH
    have s2 := shape_la (g := px_up D (yB S) (dig bb c)) hs c1
    have s3 := shape_ia (g := px_up st (yB S) (nI (p + 5))) s2 (r := Y + 4) (by rw [wr_at, if_neg (by omega)]; exact d1)
    have s4 := shape_ia (g := px_up ln (yB S) (nI c)) s3 (r := Y + 5) (by rw [wr_at, if_neg (by omega), wr_at, if_neg (by omega)]; exact e1)
    exact shape_int (k := 6) (y := nI (yB S + 1)) s4 (r := Y) (c := 7) (fs := yrdF Y s (nI (yB S)) (nI (yK S))) (by rw [wr_at, if_neg (by omega), wr_at, if_neg (by omega), wr_at, if_neg (by omega)]; exact b0) rfl
set_option maxRecDepth 16384 in
theorem cb_tag {T : Nat → Int32} {G : Nat → Int64} {b : Int32} {bt : Bool} {v : Int64} {j : Nat} {S' : yS} (cb : CYb h Y s S) (hT0 : h.2[Y + 10]? = some (.inr (3, 8, .inl T))) (hG0 : h.2[Y + 9]? = some (.inr (2, 8, .inr (.inl G)))) (hT : ∀ i, i < 8 → T i = if yT S i = true then 1 else 0) (hG : ∀ i, i < 8 → yT S i = true → G i = yG S i) (hb : b = if bt = true then 1 else 0) (e1 : S'.2.1 = S.2.1) (e2 : S'.2.2.1 = S.2.2.1) (e3 : yT S' = px_up (yT S) j bt) (hv : bt = true → v = yG S' j) (hg' : ∀ i, i ≠ j → yG S' i = yG S i) :
    CYb (tagH h Y (px_up T j b) (px_up G j v)) Y s S' ∧ frm (cbA Y) h (tagH h Y (px_up T j b) (px_up G j v)) ∧ (shape h → shape (tagH h Y (px_up T j b) (px_up G j v))) := by
  obtain ⟨b0, ⟨D, c1, c2⟩, ⟨st, d1, d2⟩, ⟨ln, l1, l2⟩, ⟨mk, f1⟩, ⟨ky, g1, g2⟩, ⟨kl, h1, h2⟩, -, -⟩ := cb
  have hl10 : Y + 10 < h.2.length := (List.getElem?_eq_some_iff.mp hT0).1
  have z : ∀ {r : Nat} {x : px_C}, h.2[r]? = some x → Y + 10 ≠ r → Y + 9 ≠ r → (tagH h Y (px_up T j b) (px_up G j v)).2[r]? = some x := fun ee p1 p2 => by rw [tagH_at p1 p2]; exact ee
  have eB : yB S' = yB S := by show S'.2.1.1 = S.2.1.1; rw [e1]
  have eD : yD S' = yD S := by show S'.2.1.2.1 = S.2.1.2.1; rw [e1]
  have eP : yP S' = yP S := by show S'.2.1.2.2.1 = S.2.1.2.2.1; rw [e1]
  have eL : yL S' = yL S := by show S'.2.1.2.2.2 = S.2.1.2.2.2; rw [e1]
  have eK : yK S' = yK S := by show S'.2.2.1.1 = S.2.2.1.1; rw [e2]
  have eX : yX S' = yX S := by show S'.2.2.1.2.1 = S.2.2.1.2.1; rw [e2]
  have eE : yE S' = yE S := by show S'.2.2.1.2.2 = S.2.2.1.2.2; rw [e2]
  refine ⟨⟨?_, ⟨D, z c1 (by omega) (by omega), by rw [eB, eD]; exact c2⟩, ⟨st, z d1 (by omega) (by omega), by rw [eB, eP]; exact d2⟩, ⟨ln, z l1 (by omega) (by omega), by rw [eB, eL]; exact l2⟩, ⟨mk, z f1 (by omega) (by omega)⟩, ⟨ky, z g1 (by omega) (by omega), by rw [eK, eX]; exact g2⟩, ⟨kl, z h1 (by omega) (by omega), by rw [eK, eE]; exact h2⟩, ⟨px_up G j v, ?_, fun i hi ht => ?_⟩, px_up T j b, ?_, fun i hi => ?_⟩, ?_, fun hs => ?_⟩
  · rw [eB, eK]; exact z b0 (by omega) (by omega)
  · unfold tagH; rw [wr_at, if_pos rfl, if_pos (by rw [px_wr_len]; omega)]
  · rw [e3] at ht
    by_cases e : i = j
    · subst e
      rw [up_same] at ht
      rw [up_same]; exact hv ht
    · rw [up_ne e] at ht
      rw [up_ne e, hG i hi ht]; exact (hg' i e).symm
  · unfold tagH; rw [wr_at, if_neg (by omega), wr_at, if_pos rfl, if_pos (by omega)]
  · rw [e3]
    by_cases e : i = j
    · subst e; rw [up_same, up_same]; exact hb
    · rw [up_ne e, up_ne e]; exact hT i hi
  · exact frm_wr (frm_wr (frm_refl _ _) (.inr ⟨by omega, by omega⟩)) (.inr ⟨by omega, by omega⟩)
  · unfold tagH
    have s2 := shape_ia (g := px_up T j b) hs hT0
    exact shape_la (g := px_up G j v) s2 (f := G) (by rw [wr_at, if_neg (by omega)]; exact hG0)
set_option maxRecDepth 16384 in
theorem c_learn_tell {j : Nat} {v : Int64} (hj : j < 8) (cb : CYb h Y s S) (w : rowAt h (Y + 1) 40000 n f) (hp : p = yR S) (hn : p + 15 ≤ n) (hf : ∀ k, k < 15 → f (p + k) &&& 255 = recB 2 9 (tagB j v) k)
    (hQ : ∀ h', CYb h' Y s (yTell S j v) → frm (cbA Y) h h' → (shape h → shape h') → Q (.inl none) h') :
    px_Wp sx 105 0 [some (.ref Y), some (.int (nI p)), none] [] h Q := by
  have hn4 := w.2.2
  have cb' := cb
  obtain ⟨b0, -, -, -, -, -, -, ⟨G, i1, i2⟩, T, j1, j2⟩ := cb
  have b0' := b0
  unfold yrdF at b0'
  have hcR : px_cls h (Y + 1) = some 1 := by unfold px_cls; rw [w.1]
  have hcY : px_cls h Y = some 7 := by unfold px_cls; rw [b0]
  have e5 : nI p + 5 = nI (p + 5) := nI_add p 5
  have kd : f p &&& 255 = 2 := by have := hf 0 (by omega); rw [Nat.add_zero] at this; exact this
  have kt : f (p + 5) &&& 255 = nI j := (hf 5 (by omega)).trans (rec_d (kd := 2) (m := 9) (k := 0) (d := tagB j v) (by decide))
  have n21 : ((2 : Int32) = 1) = False := by decide
  simp only [pc105_0, pc105_1, pc105_2, pc105_3, pc105_4, pc105_4n, pc105_5, pc105_8, pc105_9, px_gf, b0', if_true, List.getElem?_cons_zero, px_op_some, px_kv_ap, px_ki_ap, px_kl_ap, px_kn_ap, px_kh_ap, px_kill, e5, hcR, true_and]
  rw [r_at w, if_neg (nI_pos (by omega)), if_neg (nI_ge (by omega) (by omega)), nI_clamp (by omega), kd]
  simp only [px_K_some, pc105_12, pc105_62, pc105_62n, pc105_63, pc105_63n, pc105_64, pc105_67, pc105_68, n21, if_true, if_false, px_gf, b0', List.getElem?_cons_zero, px_op_some, px_kv_ap, px_ki_ap, px_kl_ap, px_kn_ap, px_kh_ap, hcR, true_and]
  rw [r_at w, if_neg (nI_pos (by omega)), if_neg (nI_ge (by omega) (by omega)), nI_clamp (by omega), kt]
  simp only [px_K_some, pc105_71, pc105_72, pc105_72n, pc105_73, pc105_76, pc105_77, pc105_78, pc105_79, if_true, px_gf, b0', List.getElem?_cons_zero, px_op_some, px_kv_ap, px_ki_ap, px_kl_ap, px_kn_ap, px_kh_ap, nI_1, hcR, true_and]
  refine c_longAt (g := fun k => lb v (nI (8 * k)) &&& 255) w (by omega) (fun k hk => ?_) ?_
  · rw [show p + 5 + 1 + k = p + (5 + (1 + k)) by omega, hf (5 + (1 + k)) (by omega), rec_d (by omega), tagB_s]
  rw [lgA_lb]
  simp only [px_K_some, pc105_82, hcY, true_and]
  have t := cb_tag (b := 1) (bt := true) (v := v) (j := j) (S' := yTell S j v) cb' j1 i1 j2 i2 rfl rfl rfl rfl (fun _ => (up_same _ _ _).symm) (fun i e => up_ne e)
  refine c_learnTag (.inr rfl) b0 j1 i1 hj ?_
  simp only [px_K_none, pc105_85, pc105_131]
  exact hQ _ t.1 t.2.1 t.2.2
set_option maxRecDepth 16384 in
theorem c_learn_unt {j : Nat} (hj : j < 8) (cb : CYb h Y s S) (w : rowAt h (Y + 1) 40000 n f) (hp : p = yR S) (hn : p + 7 ≤ n) (hf : ∀ k, k < 7 → f (p + k) &&& 255 = recB 3 1 (fun _ => nI j) k)
    (hQ : ∀ h', CYb h' Y s (yUnt S j) → frm (cbA Y) h h' → (shape h → shape h') → Q (.inl none) h') :
    px_Wp sx 105 0 [some (.ref Y), some (.int (nI p)), none] [] h Q := by
  have hn4 := w.2.2
  have cb' := cb
  obtain ⟨b0, -, -, -, -, -, -, ⟨G, i1, i2⟩, T, j1, j2⟩ := cb
  have b0' := b0
  unfold yrdF at b0'
  have hcR : px_cls h (Y + 1) = some 1 := by unfold px_cls; rw [w.1]
  have hcY : px_cls h Y = some 7 := by unfold px_cls; rw [b0]
  have e5 : nI p + 5 = nI (p + 5) := nI_add p 5
  have kd : f p &&& 255 = 3 := by have := hf 0 (by omega); rw [Nat.add_zero] at this; exact this
  have kt : f (p + 5) &&& 255 = nI j := (hf 5 (by omega)).trans (rec_d (kd := 3) (m := 1) (k := 0) (d := fun _ => nI j) (by decide))
  have n31 : ((3 : Int32) = 1) = False := by decide
  have n32 : ((3 : Int32) = 2) = False := by decide
  simp only [pc105_0, pc105_1, pc105_2, pc105_3, pc105_4, pc105_4n, pc105_5, pc105_8, pc105_9, px_gf, b0', if_true, List.getElem?_cons_zero, px_op_some, px_kv_ap, px_ki_ap, px_kl_ap, px_kn_ap, px_kh_ap, px_kill, e5, hcR, true_and]
  rw [r_at w, if_neg (nI_pos (by omega)), if_neg (nI_ge (by omega) (by omega)), nI_clamp (by omega), kd]
  simp only [px_K_some, pc105_12, pc105_88, pc105_88n, pc105_89, pc105_89n, pc105_90, pc105_93, pc105_94, n31, n32, if_true, if_false, px_gf, b0', List.getElem?_cons_zero, px_op_some, px_kv_ap, px_ki_ap, px_kl_ap, px_kn_ap, px_kh_ap, hcR, true_and]
  rw [r_at w, if_neg (nI_pos (by omega)), if_neg (nI_ge (by omega) (by omega)), nI_clamp (by omega), kt]
  simp only [px_K_some, pc105_97, pc105_98, pc105_99, hcY, true_and]
  have t := cb_tag (b := 0) (bt := false) (v := 0) (j := j) (S' := yUnt S j) cb' j1 i1 j2 i2 rfl rfl rfl rfl (fun z => by cases z) (fun i e => rfl)
  refine c_learnTag (.inl rfl) b0 j1 i1 hj ?_
  simp only [px_K_none, pc105_102, pc105_131]
  exact hQ _ t.1 t.2.1 t.2.2
end LEARN
