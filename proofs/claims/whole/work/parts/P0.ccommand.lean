/-! A COMMAND, the class's -/
def cdA (r : Nat) : Prop := tpA r ∨ trA 249 r ∨ r = 415 ∨ r = 416
set_option maxRecDepth 16384 in
theorem row_f {h h' : px_H} {r N n : Nat} {f : Nat → Int32} (w : rowAt h r N n f) (e0 : h'.2[r]? = h.2[r]?) (e1 : h'.2[r + 1]? = h.2[r + 1]?) : rowAt h' r N n f := ⟨e0.trans w.1, e1.trans w.2.1, w.2.2⟩
set_option maxRecDepth 16384 in
theorem dn_all {P : aE → Prop} {B : Nat → Nat} {s e k : Nat} {t t' : aT} (h : ∀ i, i < t.1 → P (t.2 i)) (h0 : P (dirE (cLn B s e k) (cPt B s e k))) (h2 : P (cLn B s e k, cPt B s e k, 2, cLm B s e k, cTx B s e k)) (h3 : ∀ i, i < t.1 → P (ctE (t.2 i) (cLm B s e k) (cTx B s e k))) (h5 : ∀ i j, i < t.1 → j < t.1 → P (ctE (t.2 i) (eN (t.2 j)) (eC (t.2 j)))) (h4 : ∀ i, i < t.1 → P (renE (cLn B s e k) (cPq B s e k) (cLm B s e k) (t.2 i))) (d : dnR B s e k t t') : t'.1 ≤ t.1 + 1 ∧ ∀ i, i < t'.1 → P (t'.2 i) := by
  have up : ∀ (i : Nat) (y : aE), P y → ∀ j, j < t.1 → P (px_up t.2 i y j) := fun i y hy j hj => by
    by_cases x : j = i
    · subst x; rw [up_same]; exact hy
    · rw [up_ne x]; exact h j hj
  have ins : ∀ (g : Nat) (y : aE), g ≤ t.1 → P y → ∀ j, j < t.1 + 1 → P (insE t.2 g y j) := fun g y hg hy j hj => by
    unfold insE
    by_cases x : j < g
    · rw [if_pos x]; exact h j (by omega)
    · rw [if_neg x]
      by_cases z : j = g
      · rw [if_pos z]; exact hy
      · rw [if_neg z]; exact h _ (by omega)
  rcases d with ⟨a0, a1, a2, gg, a3, rfl⟩ | ⟨a0, i, b, a1, a2, a3, rfl⟩ | ⟨a0, a1, a2⟩ | ⟨a0, i, a1, a2, a3, rfl⟩ | ⟨a0, a1, a2, a3⟩ | ⟨a0, i, j, a1, a2, a3, a4, a5, a6, rfl⟩
  · exact ⟨Nat.le_refl _, ins gg _ a3.1 h0⟩
  · refine ⟨by show t.1 - (b - i) ≤ t.1 + 1; omega, fun j hj => ?_⟩
    have hj' : j < t.1 - (b - i) := hj
    show P (cutE t.2 i b j)
    unfold cutE
    by_cases x : j < i
    · rw [if_pos x]; exact h j (by omega)
    · rw [if_neg x]; exact h _ (by omega)
  · rcases a2 with ⟨i, x1, x2, x3, rfl⟩ | ⟨x1, gg, x2, rfl⟩
    · exact ⟨Nat.le_succ _, up i _ h2⟩
    · exact ⟨Nat.le_refl _, ins gg _ x2.1 h2⟩
  · exact ⟨Nat.le_succ _, up i _ (h3 i a1)⟩
  · refine ⟨by omega, fun j hj => ?_⟩
    obtain ⟨aa, bb, c1, c2, c3, c4, -⟩ := a3
    obtain ⟨q, q1, q2⟩ := c4.2.1 j (by omega)
    rw [q2]
    unfold mvG
    split
    · exact h4 q q1
    · exact h q q1
  · exact ⟨Nat.le_succ _, up i _ (h5 i j a1 a4)⟩
section CCOM
variable {sx : Nat × (Nat → Int32)} {h : px_H} {nl s e k M : Nat} {f fm : Nat → Int32} {B : Nat → Nat} {t : aT} {Q : px_O → px_H → Prop}
set_option maxRecDepth 16384 in
theorem c_command {xk : Int32} (hS : shape h) (w : rowAt h 83 200 nl f) (hB : txA f nl B) (hs : s ≤ e) (he : e ≤ nl) (hk : k < 6 ∧ xk = nI k ∨ k = 6 ∧ xk = -1) (hw : k = 3 ∨ k = 5 → wrd B s (fnd B 32 s (e - s)) (wd k)) (tr : trR h 249 t.1 t.2) (sh : tSH t.1 t.2) (md : k ≠ 2 → rowAt h 415 26000 M fm) (hM : k ≠ 2 → M ≤ 24500) (hM2 : k ≠ 2 → s + 7 ≤ e → M ≤ 24000)
    (hQ : ∀ h', tre h' 249 → (cdX B s e k t = 0 → trR h' 249 (dnF B s e k t).1 (dnF B s e k t).2 ∧ (rowAt h 415 26000 M fm → ∃ M' f', rowAt h' 415 26000 M' f' ∧ (M' ≤ M ∨ s + 7 ≤ e ∧ M' ≤ M + 1000))) → frm cdA h h' → shape h' → Q (.inl (some (.int (nI (cdX B s e k t))))) h') :
    px_Wp sx 121 0 [some (.ref 414), some (.int xk), some (.ref 83), some (.int (nI s)), some (.int (nI e)), some (.ref 249), none] [] h Q := by
  have hc4 : px_cls h 414 = some 9 := by unfold px_cls; rw [at_414 hS]
  have n200 := w.2.2.1
  have ok := sh.1
  rcases hk with ⟨hk, rfl⟩ | ⟨rfl, rfl⟩
  rotate_left
  · simp only [pc121_0, pc121_0n, pc121_1, pc121_2, pc121_2n, pc121_3, pc121_4, pc121_6, hc4, true_and]
    refine c_takeParts_no hS w hB hs he (fun h1 fr sh1 => ?_)
    have x1 : cdX B s e 6 t = 1 := cdX_1 (fun z => by omega)
    simp only [px_K_some, pc121_9, pc121_12, pc121_13, not_true_eq_false, if_false]
    have := hQ h1 (tre_frm (tre_of tr) (fr.2.2 250 (by unfold tpA; omega))) (fun z => by omega) (frm_mono fr (fun r hr => .inl hr)) sh1
    rw [x1] at this
    exact this
  simp only [pc121_0, pc121_0n, pc121_1, pc121_2, pc121_2n, pc121_3, pc121_4, pc121_6, hc4, true_and]
  refine c_takeParts hS w hB hs he hk (fun h1 g s4 en1 en2 fr hS1 => ?_) (fun h1 ng fr hS1 => ?_)
  rotate_left
  · have x1 : cdX B s e k t = 1 := cdX_1 (fun z => ng z.2)
    simp only [px_K_some, pc121_9, pc121_12, pc121_13, not_true_eq_false, if_false]
    have := hQ h1 (tre_frm (tre_of tr) (fr.2.2 250 (by unfold tpA; omega))) (fun z => by omega) (frm_mono fr (fun r hr => .inl hr)) hS1
    rw [x1] at this
    exact this
  have ne : ∀ r, ¬ tpA r → h1.2[r]? = h.2[r]? := fr.2.2
  have row1 : rowAt h1 83 200 nl f := row_f w (ne 83 (by unfold tpA; omega)) (ne 84 (by unfold tpA; omega))
  have md1 : rowAt h 415 26000 M fm → rowAt h1 415 26000 M fm := fun m => row_f m (ne 415 (by unfold tpA; omega)) (ne 416 (by unfold tpA; omega))
  have tr1 : trR h1 249 t.1 t.2 := tr_frm tr ok.1 (fun r hr => ne r (by unfold trA at hr; unfold tpA; omega)) (fun r hr => by unfold srcOK at hr; exact ⟨ne r (by unfold tpA; omega), ne (r + 1) (by unfold tpA; omega)⟩)
  have frc : frm cdA h h1 := frm_mono fr (fun r hr => .inl hr)
  obtain ⟨hp, pp⟩ := ptG_p g
  have re := pE_rng (B := B) (k := k) hs
  have rT : pT B s e k ≤ e := by unfold pT; omega
  have m200 : cLm B s e k ≤ 200 := by unfold cLm; omega
  have kg : k < 6 ∧ ptG B s e k := ⟨hk, g⟩
  have n40 := sh.2.2.1
  have hc41 : px_cls h1 414 = some 9 := by unfold px_cls; rw [s4]
  have frT : ∀ {h2 : px_H}, frm (trA 249) h1 h2 → frm cdA h h2 := fun f2 => frm_trans frc (frm_mono f2 (fun r hr => .inr (.inl hr)))
  have frM : ∀ {h2 : px_H}, frm (mdA 249) h1 h2 → frm cdA h h2 := fun f2 => frm_trans frc (frm_mono f2 (fun r hr => by
    rcases hr with hr | hr | hr
    · exact .inr (.inl hr)
    · exact .inr (.inr (.inl hr))
    · exact .inr (.inr (.inr hr))))
  have mdT : ∀ {h2 : px_H}, frm (trA 249) h1 h2 → rowAt h 415 26000 M fm → rowAt h2 415 26000 M fm := fun f2 m => row_f (md1 m) (f2.2.2 415 (by unfold trA; omega)) (f2.2.2 416 (by unfold trA; omega))
  have fin : ∀ h2 (t' : aT), dnR B s e k t t' → trR h2 249 t'.1 t'.2 → (¬ tooB t'.1 t'.2 → rowAt h 415 26000 M fm → ∃ M' f', rowAt h2 415 26000 M' f' ∧ (M' ≤ M ∨ s + 7 ≤ e ∧ M' ≤ M + 1000)) → frm cdA h h2 → shape h2 → px_Wp sx 121 139 [some (.ref 414), some (.int (nI k)), some (.ref 83), some (.int (nI s)), some (.int (nI e)), some (.ref 249), some (.int 1)] [] h2 Q := fun h2 t' d tr2 made fr2 hS2 => by
    have hcT : px_cls h2 249 = some 3 := by unfold px_cls; rw [tr2.1]
    have pre := dn_all (P := fun x => (eK x = 1 → eN x = 0) ∧ eN x ≤ 3000) (fun i hi => ⟨fun z => by rcases (ok.2.1 i hi).2 with q | q <;> omega, by have := eN_le (ok.2.1 i hi); omega⟩) ⟨fun _ => rfl, by show 0 ≤ 3000; omega⟩ ⟨fun z => by have z : 2 = 1 := z; omega, by show cLm B s e k ≤ 3000; omega⟩ (fun i hi => ⟨fun z => by have z : 2 = 1 := z; omega, by have := eN_le (ok.2.1 i hi); show eN (t.2 i) + cLm B s e k ≤ 3000; omega⟩) (fun i j hi hj => ⟨fun z => by have z : 2 = 1 := z; omega, by have := eN_le (ok.2.1 i hi); have := eN_le (ok.2.1 j hj); show eN (t.2 i) + eN (t.2 j) ≤ 3000; omega⟩) (fun i hi => ⟨fun z => by rcases (ok.2.1 i hi).2 with q | q; exact q.2; have z : eK (t.2 i) = 1 := z; omega, by have := eN_le (ok.2.1 i hi); show eN (t.2 i) ≤ 3000; omega⟩) d
    simp only [pc121_139, pc121_141, pc121_144, pc121_145, pc121_146, pc121_146n, pc121_148, ne_1_0, not_false_eq_true, if_true, hcT, true_and]
    refine c_tooGreat tr2 (by omega) (fun i hi => (pre.2 i hi).1) (fun i hi => (pre.2 i hi).2) (fun x hx => ?_)
    rcases hx with ⟨rfl, hx⟩ | ⟨rfl, hx⟩
    · have x4 : cdX B s e k t = 4 := cdX_4 ok kg d hx
      simp only [px_K_some, pc121_151, pc121_154, pc121_155, pc121_158, pc121_159, ne_1_0, if_false]
      have := hQ h2 (tre_of tr2) (fun z => by omega) fr2 hS2
      rw [x4] at this
      exact this
    · have x0 : cdX B s e k t = 0 := cdX_0 ok kg d hx
      obtain ⟨e1, e2⟩ := dnF_e ok d
      simp only [px_K_some, pc121_151, pc121_154, pc121_155, pc121_158, pc121_159, if_true]
      have := hQ h2 (tre_of tr2) (fun _ => ⟨by rw [e1]; exact tr_congr tr2 (fun i hi => by rw [← e2 i hi]; exact ⟨rfl, rfl, rfl, rfl, fun _ _ => rfl⟩), made hx⟩) fr2 hS2
      rw [x0] at this
      exact this
  have bad : (¬ ∃ t', dnR B s e k t t') → ∀ h2, tre h2 249 → frm cdA h h2 → shape h2 → px_Wp sx 121 139 [some (.ref 414), some (.int (nI k)), some (.ref 83), some (.int (nI s)), some (.int (nI e)), some (.ref 249), some (.int 0)] [] h2 Q := fun no h2 te fr2 hS2 => by
    have x3 : cdX B s e k t = 3 := cdX_3 kg no
    simp only [pc121_139, pc121_141, pc121_144, pc121_145, not_true_eq_false, if_false]
    have := hQ h2 te (fun z => by omega) fr2 hS2
    rw [x3] at this
    exact this
  have sb : nI e - nI (pT B s e k) = nI (cLm B s e k) := nI_sub rT
  have hT := treT_249
  have TD : ¬ trA 249 417 ∧ ¬ trA 249 418 := ⟨by unfold trA; omega, by unfold trA; omega⟩
  have hf : ∀ j, j < cLm B s e k → f (pT B s e k + j) &&& 255 = cTx B s e k j := fun j hj => (hB _ (by unfold cLm at hj; omega)).1
  have hnl : pT B s e k + cLm B s e k ≤ nl := by unfold cLm; omega
  have kk : k = 0 ∨ k = 1 ∨ k = 2 ∨ k = 3 ∨ k = 4 ∨ k = 5 := by omega
  rcases kk with rfl | rfl | rfl | rfl | rfl | rfl
  · have ek : nI 0 = 0 := rfl
    simp only [px_K_some, pc121_9, pc121_14, pc121_15, pc121_17, pc121_18, pc121_52, pc121_52n, pc121_53, pc121_53n, pc121_55, px_op_some, px_kv_ap, px_ki_ap, px_kl_ap, px_kn_ap, px_kh_ap, px_op_none, px_K_some, px_K_none, px_K_thr, px_kill, ↓reduceIte, if_true, if_false, true_and, and_true, yr_0, yr_1, tr_0, tr_1, tr_2, tr_3, px_rf, of_2, of_4, in_02, in_12, in_04, in_14, in_24, in_34, Nat.reduceLeDiff, in_01, lgc_self, Int32.reduceToNatClampNeg, wr_at, al_at, px_wr_len, px_al_len, px_wr_1, px_al_1, tg_0, tg_1, tg_2, tg_3, tg_12, tg_15, tg_17, tg_18, tg_i1, tg_b0, tg_b3, px_fit, Nat.reduceEqDiff, Nat.reduceLT, Nat.reduceAdd, Option.some.injEq, up_at, px_wr_wr, i32_le, Int32.reduceLE, Int32.reduceLT, mf_len, nar_0, nar_1, px_KH_some, px_KH_none, px_KH_thr, List.length_cons, List.length_nil, List.getElem?_cons_zero, List.getElem?_cons_succ, List.set_cons_zero, List.set_cons_succ, ↓reduceIte, Nat.lt_irrefl, ne_0_1, ne_0_2, ne_0_3, ne_0_4, ne_0_5, ne_1_0, ne_1_2, ne_1_3, ne_1_4, ne_1_5, ne_2_0, ne_2_1, ne_2_3, ne_2_4, ne_2_5, ne_3_0, ne_3_1, ne_3_2, ne_3_4, ne_3_5, ne_4_0, ne_4_1, ne_4_2, ne_4_3, ne_4_5, ne_5_0, ne_5_1, ne_5_2, ne_5_3, ne_5_4, hd_256_12, hd_256_16, hd_257_12, hd_258_12, hd_259_12, hd_260_12, hd_261_12, hd_261_13, hd_261_16, hd_262_12, hd_262_13, hd_262_16, hd_263_12, hd_263_13, hd_264_12, hd_264_13, hd_264_14, hd_265_12, hd_265_13, hd_265_14, hd_266_12, hd_267_12, hd_267_13, hd_267_14, hd_268_12, hd_269_12, hd_269_14, hd_270_12, hd_271_12, hd_272_12, hd_273_12, hd_273_13, hd_273_15, hd_274_12, hd_274_15, hd_275_12, hd_275_15, hd_276_12, nI_p1, nI_p2, nI_p3, nI_p4, nI_p5, not_true_eq_false, not_false_eq_true, and_self, mf_0, mf_1, mf_2, mf_3, mf_4, mf_5, mf_6, mf_7, mf_8, mf_9, mf_10, mf_11, mf_12, mf_13, mf_14, mf_15, mf_16, mf_17, mf_18, mf_19, mf_20, mf_21, mf_22, mf_23, mf_24, mf_25, mf_26, mf_27, mf_28, mf_29, mf_30, mf_31, mf_32, mf_33, mf_34, mf_35, mf_36, mf_37, mf_38, mf_39, mf_40, mf_41, mf_42, mf_43, mf_44, mf_45, mf_46, mf_47, mf_48, mf_49, mf_50, mf_51, mf_52, mf_53, mf_54, mf_55, mf_56, mf_57, mf_58, mf_59, mf_60, mf_61, mfs_0, mfs_2, mfs_17, mfs_20, mfs_26, mfs_32, mfs_34, mfs_36, mfs_38, mfs_43, mfs_44, mfs_45, mfs_46, mfs_47, iy_0, iy_1, iy_2, iy_3, iy_4, iy_5, iy_6, ek, hc41, px_kill]
    refine c_mkdir s4 en1 hp tr1 ok hT (by omega) TD (fun gg h2 a1 a2 a3 tr2 f2 s2 => ?_) (fun no => ?_)
    · simp only [px_K_some, pc121_58, pc121_60, px_kill]
      exact fin h2 (t.1 + 1, insE t.2 gg (dirE (cLn B s e 0) (cPt B s e 0))) (.inl ⟨rfl, a1, a2, gg, a3, rfl⟩) tr2 (fun _ m => ⟨M, fm, mdT f2 m, .inl (Nat.le_refl _)⟩) (frT f2) (s2 hS1)
    · simp only [px_K_some, pc121_58, pc121_60, px_kill]
      refine bad (fun ⟨t', d⟩ => ?_) h1 (tre_of tr1) frc hS1
      rcases d with ⟨-, a1, a2, -⟩ | ⟨a0, -⟩ | ⟨a0, -⟩ | ⟨a0, -⟩ | ⟨a0, -⟩ | ⟨a0, -⟩
      · exact no.elim a1 (fun z => z a2)
      all_goals omega
  · have ek : nI 1 = 1 := rfl
    simp only [px_K_some, pc121_9, pc121_14, pc121_15, pc121_17, pc121_18, pc121_63, pc121_63n, pc121_64, pc121_64n, pc121_66, px_op_some, px_kv_ap, px_ki_ap, px_kl_ap, px_kn_ap, px_kh_ap, px_op_none, px_K_some, px_K_none, px_K_thr, px_kill, ↓reduceIte, if_true, if_false, true_and, and_true, yr_0, yr_1, tr_0, tr_1, tr_2, tr_3, px_rf, of_2, of_4, in_02, in_12, in_04, in_14, in_24, in_34, Nat.reduceLeDiff, in_01, lgc_self, Int32.reduceToNatClampNeg, wr_at, al_at, px_wr_len, px_al_len, px_wr_1, px_al_1, tg_0, tg_1, tg_2, tg_3, tg_12, tg_15, tg_17, tg_18, tg_i1, tg_b0, tg_b3, px_fit, Nat.reduceEqDiff, Nat.reduceLT, Nat.reduceAdd, Option.some.injEq, up_at, px_wr_wr, i32_le, Int32.reduceLE, Int32.reduceLT, mf_len, nar_0, nar_1, px_KH_some, px_KH_none, px_KH_thr, List.length_cons, List.length_nil, List.getElem?_cons_zero, List.getElem?_cons_succ, List.set_cons_zero, List.set_cons_succ, ↓reduceIte, Nat.lt_irrefl, ne_0_1, ne_0_2, ne_0_3, ne_0_4, ne_0_5, ne_1_0, ne_1_2, ne_1_3, ne_1_4, ne_1_5, ne_2_0, ne_2_1, ne_2_3, ne_2_4, ne_2_5, ne_3_0, ne_3_1, ne_3_2, ne_3_4, ne_3_5, ne_4_0, ne_4_1, ne_4_2, ne_4_3, ne_4_5, ne_5_0, ne_5_1, ne_5_2, ne_5_3, ne_5_4, hd_256_12, hd_256_16, hd_257_12, hd_258_12, hd_259_12, hd_260_12, hd_261_12, hd_261_13, hd_261_16, hd_262_12, hd_262_13, hd_262_16, hd_263_12, hd_263_13, hd_264_12, hd_264_13, hd_264_14, hd_265_12, hd_265_13, hd_265_14, hd_266_12, hd_267_12, hd_267_13, hd_267_14, hd_268_12, hd_269_12, hd_269_14, hd_270_12, hd_271_12, hd_272_12, hd_273_12, hd_273_13, hd_273_15, hd_274_12, hd_274_15, hd_275_12, hd_275_15, hd_276_12, nI_p1, nI_p2, nI_p3, nI_p4, nI_p5, not_true_eq_false, not_false_eq_true, and_self, mf_0, mf_1, mf_2, mf_3, mf_4, mf_5, mf_6, mf_7, mf_8, mf_9, mf_10, mf_11, mf_12, mf_13, mf_14, mf_15, mf_16, mf_17, mf_18, mf_19, mf_20, mf_21, mf_22, mf_23, mf_24, mf_25, mf_26, mf_27, mf_28, mf_29, mf_30, mf_31, mf_32, mf_33, mf_34, mf_35, mf_36, mf_37, mf_38, mf_39, mf_40, mf_41, mf_42, mf_43, mf_44, mf_45, mf_46, mf_47, mf_48, mf_49, mf_50, mf_51, mf_52, mf_53, mf_54, mf_55, mf_56, mf_57, mf_58, mf_59, mf_60, mf_61, mfs_0, mfs_2, mfs_17, mfs_20, mfs_26, mfs_32, mfs_34, mfs_36, mfs_38, mfs_43, mfs_44, mfs_45, mfs_46, mfs_47, iy_0, iy_1, iy_2, iy_3, iy_4, iy_5, iy_6, ek, hc41, px_kill]
    refine c_rm s4 en1 hp tr1 ok hT (fun i b h2 a1 a2 a3 tr2 f2 s2 => ?_) (fun no => ?_)
    · simp only [px_K_some, pc121_69, pc121_71, px_kill]
      exact fin h2 (t.1 - (b - i), cutE t.2 i b) (.inr (.inl ⟨rfl, i, b, a1, a2, a3, rfl⟩)) tr2 (fun _ m => ⟨M, fm, mdT f2 m, .inl (Nat.le_refl _)⟩) (frT f2) (s2 hS1)
    · simp only [px_K_some, pc121_69, pc121_71, px_kill]
      refine bad (fun ⟨t', d⟩ => ?_) h1 (tre_of tr1) frc hS1
      rcases d with ⟨a0, -⟩ | ⟨-, i, b, a1, a2, -⟩ | ⟨a0, -⟩ | ⟨a0, -⟩ | ⟨a0, -⟩ | ⟨a0, -⟩
      · omega
      · exact no ⟨i, a1, a2⟩
      all_goals omega
  · have ek : nI 2 = 2 := rfl
    simp only [px_K_some, pc121_9, pc121_14, pc121_15, pc121_17, pc121_18, pc121_74, pc121_74n, pc121_75, pc121_75n, pc121_77, pc121_77n, pc121_78, pc121_78n, pc121_79, pc121_82, pc121_84, pc121_84n, pc121_85, pc121_88, pc121_89, px_op_some, px_kv_ap, px_ki_ap, px_kl_ap, px_kn_ap, px_kh_ap, px_op_none, px_K_some, px_K_none, px_K_thr, px_kill, ↓reduceIte, if_true, if_false, true_and, and_true, yr_0, yr_1, tr_0, tr_1, tr_2, tr_3, px_rf, of_2, of_4, in_02, in_12, in_04, in_14, in_24, in_34, Nat.reduceLeDiff, in_01, lgc_self, Int32.reduceToNatClampNeg, wr_at, al_at, px_wr_len, px_al_len, px_wr_1, px_al_1, tg_0, tg_1, tg_2, tg_3, tg_12, tg_15, tg_17, tg_18, tg_i1, tg_b0, tg_b3, px_fit, Nat.reduceEqDiff, Nat.reduceLT, Nat.reduceAdd, Option.some.injEq, up_at, px_wr_wr, i32_le, Int32.reduceLE, Int32.reduceLT, mf_len, nar_0, nar_1, px_KH_some, px_KH_none, px_KH_thr, List.length_cons, List.length_nil, List.getElem?_cons_zero, List.getElem?_cons_succ, List.set_cons_zero, List.set_cons_succ, ↓reduceIte, Nat.lt_irrefl, ne_0_1, ne_0_2, ne_0_3, ne_0_4, ne_0_5, ne_1_0, ne_1_2, ne_1_3, ne_1_4, ne_1_5, ne_2_0, ne_2_1, ne_2_3, ne_2_4, ne_2_5, ne_3_0, ne_3_1, ne_3_2, ne_3_4, ne_3_5, ne_4_0, ne_4_1, ne_4_2, ne_4_3, ne_4_5, ne_5_0, ne_5_1, ne_5_2, ne_5_3, ne_5_4, hd_256_12, hd_256_16, hd_257_12, hd_258_12, hd_259_12, hd_260_12, hd_261_12, hd_261_13, hd_261_16, hd_262_12, hd_262_13, hd_262_16, hd_263_12, hd_263_13, hd_264_12, hd_264_13, hd_264_14, hd_265_12, hd_265_13, hd_265_14, hd_266_12, hd_267_12, hd_267_13, hd_267_14, hd_268_12, hd_269_12, hd_269_14, hd_270_12, hd_271_12, hd_272_12, hd_273_12, hd_273_13, hd_273_15, hd_274_12, hd_274_15, hd_275_12, hd_275_15, hd_276_12, nI_p1, nI_p2, nI_p3, nI_p4, nI_p5, not_true_eq_false, not_false_eq_true, and_self, mf_0, mf_1, mf_2, mf_3, mf_4, mf_5, mf_6, mf_7, mf_8, mf_9, mf_10, mf_11, mf_12, mf_13, mf_14, mf_15, mf_16, mf_17, mf_18, mf_19, mf_20, mf_21, mf_22, mf_23, mf_24, mf_25, mf_26, mf_27, mf_28, mf_29, mf_30, mf_31, mf_32, mf_33, mf_34, mf_35, mf_36, mf_37, mf_38, mf_39, mf_40, mf_41, mf_42, mf_43, mf_44, mf_45, mf_46, mf_47, mf_48, mf_49, mf_50, mf_51, mf_52, mf_53, mf_54, mf_55, mf_56, mf_57, mf_58, mf_59, mf_60, mf_61, mfs_0, mfs_2, mfs_17, mfs_20, mfs_26, mfs_32, mfs_34, mfs_36, mfs_38, mfs_43, mfs_44, mfs_45, mfs_46, mfs_47, iy_0, iy_1, iy_2, iy_3, iy_4, iy_5, iy_6, px_gf, s4, sb, ek, hc41, px_kill]
    refine c_put (c := cTx B s e 2) s4 en1 hp tr1 ok hT (by omega) TD (by decide) row1 hnl hf (fun i h2 a1 a2 a3 a4 tr2 f2 s2 => ?_) (fun gg h2 a1 a2 a3 tr2 f2 s2 => ?_) (fun no => ?_)
    · simp only [px_K_some, pc121_92, pc121_94, px_kill]
      have k2 : eK (t.2 i) = 2 := by rcases (ok.2.1 i a1).2 with z | z; exact absurd z.1 a3; exact z.1
      exact fin h2 (t.1, px_up t.2 i (cLn B s e 2, cPt B s e 2, 2, cLm B s e 2, cTx B s e 2)) (.inr (.inr (.inl ⟨rfl, a4, .inl ⟨i, a1, a2, k2, rfl⟩⟩))) tr2 (fun _ m => ⟨M, fm, mdT f2 m, .inl (Nat.le_refl _)⟩) (frT f2) (s2 hS1)
    · simp only [px_K_some, pc121_92, pc121_94, px_kill]
      exact fin h2 (t.1 + 1, insE t.2 gg (cLn B s e 2, cPt B s e 2, 2, cLm B s e 2, cTx B s e 2)) (.inr (.inr (.inl ⟨rfl, a2, .inr ⟨a1, gg, a3, rfl⟩⟩))) tr2 (fun _ m => ⟨M, fm, mdT f2 m, .inl (Nat.le_refl _)⟩) (frT f2) (s2 hS1)
    · simp only [px_K_some, pc121_92, pc121_94, px_kill]
      refine bad (fun ⟨t', d⟩ => ?_) h1 (tre_of tr1) frc hS1
      rcases d with ⟨a0, -⟩ | ⟨a0, -⟩ | ⟨-, a1, a2⟩ | ⟨a0, -⟩ | ⟨a0, -⟩ | ⟨a0, -⟩
      · omega
      · omega
      · rcases no with ⟨j, j1, j2, j3⟩ | no
        · rcases a2 with ⟨i, x1, x2, x3, -⟩ | ⟨x1, -⟩
          · rw [srt_uniq ok x1 j1 (x2.trans j2.symm)] at x3; omega
          · exact x1 ⟨j, j1, j2⟩
        · exact no a1
      all_goals omega
  · have ek : nI 3 = 3 := rfl
    simp only [px_K_some, pc121_9, pc121_14, pc121_15, pc121_17, pc121_18, pc121_97, pc121_97n, pc121_98, pc121_98n, pc121_100, pc121_100n, pc121_101, pc121_101n, pc121_102, pc121_105, pc121_107, pc121_107n, pc121_108, pc121_111, pc121_112, px_op_some, px_kv_ap, px_ki_ap, px_kl_ap, px_kn_ap, px_kh_ap, px_op_none, px_K_some, px_K_none, px_K_thr, px_kill, ↓reduceIte, if_true, if_false, true_and, and_true, yr_0, yr_1, tr_0, tr_1, tr_2, tr_3, px_rf, of_2, of_4, in_02, in_12, in_04, in_14, in_24, in_34, Nat.reduceLeDiff, in_01, lgc_self, Int32.reduceToNatClampNeg, wr_at, al_at, px_wr_len, px_al_len, px_wr_1, px_al_1, tg_0, tg_1, tg_2, tg_3, tg_12, tg_15, tg_17, tg_18, tg_i1, tg_b0, tg_b3, px_fit, Nat.reduceEqDiff, Nat.reduceLT, Nat.reduceAdd, Option.some.injEq, up_at, px_wr_wr, i32_le, Int32.reduceLE, Int32.reduceLT, mf_len, nar_0, nar_1, px_KH_some, px_KH_none, px_KH_thr, List.length_cons, List.length_nil, List.getElem?_cons_zero, List.getElem?_cons_succ, List.set_cons_zero, List.set_cons_succ, ↓reduceIte, Nat.lt_irrefl, ne_0_1, ne_0_2, ne_0_3, ne_0_4, ne_0_5, ne_1_0, ne_1_2, ne_1_3, ne_1_4, ne_1_5, ne_2_0, ne_2_1, ne_2_3, ne_2_4, ne_2_5, ne_3_0, ne_3_1, ne_3_2, ne_3_4, ne_3_5, ne_4_0, ne_4_1, ne_4_2, ne_4_3, ne_4_5, ne_5_0, ne_5_1, ne_5_2, ne_5_3, ne_5_4, hd_256_12, hd_256_16, hd_257_12, hd_258_12, hd_259_12, hd_260_12, hd_261_12, hd_261_13, hd_261_16, hd_262_12, hd_262_13, hd_262_16, hd_263_12, hd_263_13, hd_264_12, hd_264_13, hd_264_14, hd_265_12, hd_265_13, hd_265_14, hd_266_12, hd_267_12, hd_267_13, hd_267_14, hd_268_12, hd_269_12, hd_269_14, hd_270_12, hd_271_12, hd_272_12, hd_273_12, hd_273_13, hd_273_15, hd_274_12, hd_274_15, hd_275_12, hd_275_15, hd_276_12, nI_p1, nI_p2, nI_p3, nI_p4, nI_p5, not_true_eq_false, not_false_eq_true, and_self, mf_0, mf_1, mf_2, mf_3, mf_4, mf_5, mf_6, mf_7, mf_8, mf_9, mf_10, mf_11, mf_12, mf_13, mf_14, mf_15, mf_16, mf_17, mf_18, mf_19, mf_20, mf_21, mf_22, mf_23, mf_24, mf_25, mf_26, mf_27, mf_28, mf_29, mf_30, mf_31, mf_32, mf_33, mf_34, mf_35, mf_36, mf_37, mf_38, mf_39, mf_40, mf_41, mf_42, mf_43, mf_44, mf_45, mf_46, mf_47, mf_48, mf_49, mf_50, mf_51, mf_52, mf_53, mf_54, mf_55, mf_56, mf_57, mf_58, mf_59, mf_60, mf_61, mfs_0, mfs_2, mfs_17, mfs_20, mfs_26, mfs_32, mfs_34, mfs_36, mfs_38, mfs_43, mfs_44, mfs_45, mfs_46, mfs_47, iy_0, iy_1, iy_2, iy_3, iy_4, iy_5, iy_6, px_gf, s4, sb, ek, hc41, px_kill]
    refine c_lengthen (c := cTx B s e 3) s4 en1 hp tr1 ok hT (by decide) rfl (md1 (md (by decide))) (by have := hM (by decide); omega) (.inl (by decide)) row1 hnl hf (fun i h2 M' f' a1 a2 a3 tr2 md2 hM' f2 s2 => ?_) (fun no => ?_)
    · simp only [px_K_some, pc121_115, pc121_117, px_kill]
      refine fin h2 (t.1, px_up t.2 i (ctE (t.2 i) (cLm B s e 3) (cTx B s e 3))) (.inr (.inr (.inr (.inl ⟨rfl, i, a1, a2, a3, rfl⟩)))) tr2 (fun nb _ => ⟨M', f', md2, ?_⟩) (frM f2) (s2 hS1)
      by_cases z : cLm B s e 3 = 0
      · rw [if_pos z] at hM'; exact .inl hM'
      · rw [if_neg z] at hM'
        refine .inr ⟨add_7 hs (hw (.inl rfl)) (.inl rfl) g (.inr z), ?_⟩
        have := eN_tot (E := px_up t.2 i (ctE (t.2 i) (cLm B s e 3) (cTx B s e 3))) t.1 i a1
        rw [up_same] at this
        have e1 : eN (ctE (t.2 i) (cLm B s e 3) (cTx B s e 3)) = eN (t.2 i) + cLm B s e 3 := rfl
        unfold tooB at nb
        have nb2 : ¬ 1000 < totN (px_up t.2 i (ctE (t.2 i) (cLm B s e 3) (cTx B s e 3))) t.1 := fun z => nb (.inr z)
        omega
    · simp only [px_K_some, pc121_115, pc121_117, px_kill]
      refine bad (fun ⟨t', d⟩ => ?_) h1 (tre_of tr1) frc hS1
      rcases d with ⟨a0, -⟩ | ⟨a0, -⟩ | ⟨a0, -⟩ | ⟨-, i, a1, a2, a3, -⟩ | ⟨a0, -⟩ | ⟨a0, -⟩
      · omega
      · omega
      · omega
      · exact no ⟨i, a1, a2, a3⟩
      all_goals omega
  · have ek : nI 4 = 4 := rfl
    obtain ⟨hq, qq⟩ := ptG_q g (.inl rfl)
    simp only [px_K_some, pc121_9, pc121_14, pc121_15, pc121_17, pc121_18, pc121_120, pc121_120n, pc121_121, pc121_121n, pc121_123, px_op_some, px_kv_ap, px_ki_ap, px_kl_ap, px_kn_ap, px_kh_ap, px_op_none, px_K_some, px_K_none, px_K_thr, px_kill, ↓reduceIte, if_true, if_false, true_and, and_true, yr_0, yr_1, tr_0, tr_1, tr_2, tr_3, px_rf, of_2, of_4, in_02, in_12, in_04, in_14, in_24, in_34, Nat.reduceLeDiff, in_01, lgc_self, Int32.reduceToNatClampNeg, wr_at, al_at, px_wr_len, px_al_len, px_wr_1, px_al_1, tg_0, tg_1, tg_2, tg_3, tg_12, tg_15, tg_17, tg_18, tg_i1, tg_b0, tg_b3, px_fit, Nat.reduceEqDiff, Nat.reduceLT, Nat.reduceAdd, Option.some.injEq, up_at, px_wr_wr, i32_le, Int32.reduceLE, Int32.reduceLT, mf_len, nar_0, nar_1, px_KH_some, px_KH_none, px_KH_thr, List.length_cons, List.length_nil, List.getElem?_cons_zero, List.getElem?_cons_succ, List.set_cons_zero, List.set_cons_succ, ↓reduceIte, Nat.lt_irrefl, ne_0_1, ne_0_2, ne_0_3, ne_0_4, ne_0_5, ne_1_0, ne_1_2, ne_1_3, ne_1_4, ne_1_5, ne_2_0, ne_2_1, ne_2_3, ne_2_4, ne_2_5, ne_3_0, ne_3_1, ne_3_2, ne_3_4, ne_3_5, ne_4_0, ne_4_1, ne_4_2, ne_4_3, ne_4_5, ne_5_0, ne_5_1, ne_5_2, ne_5_3, ne_5_4, hd_256_12, hd_256_16, hd_257_12, hd_258_12, hd_259_12, hd_260_12, hd_261_12, hd_261_13, hd_261_16, hd_262_12, hd_262_13, hd_262_16, hd_263_12, hd_263_13, hd_264_12, hd_264_13, hd_264_14, hd_265_12, hd_265_13, hd_265_14, hd_266_12, hd_267_12, hd_267_13, hd_267_14, hd_268_12, hd_269_12, hd_269_14, hd_270_12, hd_271_12, hd_272_12, hd_273_12, hd_273_13, hd_273_15, hd_274_12, hd_274_15, hd_275_12, hd_275_15, hd_276_12, nI_p1, nI_p2, nI_p3, nI_p4, nI_p5, not_true_eq_false, not_false_eq_true, and_self, mf_0, mf_1, mf_2, mf_3, mf_4, mf_5, mf_6, mf_7, mf_8, mf_9, mf_10, mf_11, mf_12, mf_13, mf_14, mf_15, mf_16, mf_17, mf_18, mf_19, mf_20, mf_21, mf_22, mf_23, mf_24, mf_25, mf_26, mf_27, mf_28, mf_29, mf_30, mf_31, mf_32, mf_33, mf_34, mf_35, mf_36, mf_37, mf_38, mf_39, mf_40, mf_41, mf_42, mf_43, mf_44, mf_45, mf_46, mf_47, mf_48, mf_49, mf_50, mf_51, mf_52, mf_53, mf_54, mf_55, mf_56, mf_57, mf_58, mf_59, mf_60, mf_61, mfs_0, mfs_2, mfs_17, mfs_20, mfs_26, mfs_32, mfs_34, mfs_36, mfs_38, mfs_43, mfs_44, mfs_45, mfs_46, mfs_47, iy_0, iy_1, iy_2, iy_3, iy_4, iy_5, iy_6, ek, hc41, px_kill]
    refine c_mvSh s4 en1 hp (en2 (.inl rfl)) hq qq tr1 ok sh.2.1 hT (by decide) (fun h2 E' a1 a2 tr2 f2 s2 => ?_) (fun no => ?_)
    · simp only [px_K_some, pc121_126, pc121_128, px_kill]
      exact fin h2 (t.1, E') (.inr (.inr (.inr (.inr (.inl ⟨rfl, a1, rfl, a2⟩))))) tr2 (fun _ m => ⟨M, fm, mdT f2 m, .inl (Nat.le_refl _)⟩) (frT f2) (s2 hS1)
    · simp only [px_K_some, pc121_126, pc121_128, px_kill]
      refine bad (fun ⟨t', d⟩ => ?_) h1 (tre_of tr1) frc hS1
      rcases d with ⟨a0, -⟩ | ⟨a0, -⟩ | ⟨a0, -⟩ | ⟨a0, -⟩ | ⟨-, a1, -⟩ | ⟨a0, -⟩
      · omega
      · omega
      · omega
      · omega
      · exact no a1
      · omega
  · have ek : nI 5 = 5 := rfl
    obtain ⟨hq, qq⟩ := ptG_q g (.inr rfl)
    have s7 := add_7 hs (hw (.inr rfl)) (.inr rfl) g (.inl rfl)
    have M24 := hM2 (by decide) s7
    simp only [px_K_some, pc121_9, pc121_14, pc121_15, pc121_17, pc121_18, pc121_131, pc121_131n, pc121_132, pc121_132n, pc121_134, px_op_some, px_kv_ap, px_ki_ap, px_kl_ap, px_kn_ap, px_kh_ap, px_op_none, px_K_some, px_K_none, px_K_thr, px_kill, ↓reduceIte, if_true, if_false, true_and, and_true, yr_0, yr_1, tr_0, tr_1, tr_2, tr_3, px_rf, of_2, of_4, in_02, in_12, in_04, in_14, in_24, in_34, Nat.reduceLeDiff, in_01, lgc_self, Int32.reduceToNatClampNeg, wr_at, al_at, px_wr_len, px_al_len, px_wr_1, px_al_1, tg_0, tg_1, tg_2, tg_3, tg_12, tg_15, tg_17, tg_18, tg_i1, tg_b0, tg_b3, px_fit, Nat.reduceEqDiff, Nat.reduceLT, Nat.reduceAdd, Option.some.injEq, up_at, px_wr_wr, i32_le, Int32.reduceLE, Int32.reduceLT, mf_len, nar_0, nar_1, px_KH_some, px_KH_none, px_KH_thr, List.length_cons, List.length_nil, List.getElem?_cons_zero, List.getElem?_cons_succ, List.set_cons_zero, List.set_cons_succ, ↓reduceIte, Nat.lt_irrefl, ne_0_1, ne_0_2, ne_0_3, ne_0_4, ne_0_5, ne_1_0, ne_1_2, ne_1_3, ne_1_4, ne_1_5, ne_2_0, ne_2_1, ne_2_3, ne_2_4, ne_2_5, ne_3_0, ne_3_1, ne_3_2, ne_3_4, ne_3_5, ne_4_0, ne_4_1, ne_4_2, ne_4_3, ne_4_5, ne_5_0, ne_5_1, ne_5_2, ne_5_3, ne_5_4, hd_256_12, hd_256_16, hd_257_12, hd_258_12, hd_259_12, hd_260_12, hd_261_12, hd_261_13, hd_261_16, hd_262_12, hd_262_13, hd_262_16, hd_263_12, hd_263_13, hd_264_12, hd_264_13, hd_264_14, hd_265_12, hd_265_13, hd_265_14, hd_266_12, hd_267_12, hd_267_13, hd_267_14, hd_268_12, hd_269_12, hd_269_14, hd_270_12, hd_271_12, hd_272_12, hd_273_12, hd_273_13, hd_273_15, hd_274_12, hd_274_15, hd_275_12, hd_275_15, hd_276_12, nI_p1, nI_p2, nI_p3, nI_p4, nI_p5, not_true_eq_false, not_false_eq_true, and_self, mf_0, mf_1, mf_2, mf_3, mf_4, mf_5, mf_6, mf_7, mf_8, mf_9, mf_10, mf_11, mf_12, mf_13, mf_14, mf_15, mf_16, mf_17, mf_18, mf_19, mf_20, mf_21, mf_22, mf_23, mf_24, mf_25, mf_26, mf_27, mf_28, mf_29, mf_30, mf_31, mf_32, mf_33, mf_34, mf_35, mf_36, mf_37, mf_38, mf_39, mf_40, mf_41, mf_42, mf_43, mf_44, mf_45, mf_46, mf_47, mf_48, mf_49, mf_50, mf_51, mf_52, mf_53, mf_54, mf_55, mf_56, mf_57, mf_58, mf_59, mf_60, mf_61, mfs_0, mfs_2, mfs_17, mfs_20, mfs_26, mfs_32, mfs_34, mfs_36, mfs_38, mfs_43, mfs_44, mfs_45, mfs_46, mfs_47, iy_0, iy_1, iy_2, iy_3, iy_4, iy_5, iy_6, ek, hc41, px_kill]
    refine c_join s4 en1 hp (en2 (.inr rfl)) hq tr1 ok hT (by decide) rfl (md1 (md (by decide))) (by omega) (fun i j h2 M' f' a1 a2 a3 a4 a5 a6 tr2 md2 hM' f2 s2 => ?_) (fun no => ?_)
    · simp only [px_K_some, pc121_137, px_kill]
      refine fin h2 (t.1, px_up t.2 i (ctE (t.2 i) (eN (t.2 j)) (eC (t.2 j)))) (.inr (.inr (.inr (.inr (.inr ⟨rfl, i, j, a1, a2, a3, a4, a5, a6, rfl⟩))))) tr2 (fun nb _ => ⟨M', f', md2, ?_⟩) (frM f2) (s2 hS1)
      by_cases z : eN (t.2 j) = 0
      · rw [if_pos z] at hM'; exact .inl hM'
      · rw [if_neg z] at hM'
        refine .inr ⟨s7, ?_⟩
        have := eN_tot (E := px_up t.2 i (ctE (t.2 i) (eN (t.2 j)) (eC (t.2 j)))) t.1 i a1
        rw [up_same] at this
        have e1 : eN (ctE (t.2 i) (eN (t.2 j)) (eC (t.2 j))) = eN (t.2 i) + eN (t.2 j) := rfl
        unfold tooB at nb
        have nb2 : ¬ 1000 < totN (px_up t.2 i (ctE (t.2 i) (eN (t.2 j)) (eC (t.2 j)))) t.1 := fun z => nb (.inr z)
        omega
    · simp only [px_K_some, pc121_137, px_kill]
      refine bad (fun ⟨t', d⟩ => ?_) h1 (tre_of tr1) frc hS1
      rcases d with ⟨a0, -⟩ | ⟨a0, -⟩ | ⟨a0, -⟩ | ⟨a0, -⟩ | ⟨a0, -⟩ | ⟨-, i, j, a1, a2, a3, a4, a5, a6, -⟩
      · omega
      · omega
      · omega
      · omega
      · omega
      · exact no ⟨⟨i, a1, a2, a3⟩, ⟨j, a4, a5, a6⟩⟩
end CCOM
