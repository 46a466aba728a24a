/-! DELIVER: a blob arrives -/
set_option maxRecDepth 16384 in
theorem mn_trans {h h2 h' : px_H} {q : Nat} {S1 S' : yS} {V V2 o m e o' m' e' : Nat → Int32} {w w' : Nat → Int64} (u : mnP h h2 q S1 V o m e w) (hV : ∀ k, k = 0 ∨ k = 2 ∨ k = 44 ∨ k = 45 ∨ k = 46 → V2 k = V k) (u' : mnP h2 h' q S' V2 o' m' e' w') : mnP h h' q S' V o' m' e' w' := by
  obtain ⟨a1, a2, a3, a4, a5, a6⟩ := u
  obtain ⟨b1, b2, b3, b4, ⟨V', b5, b5'⟩, b6⟩ := u'
  exact ⟨frm_trans a1 b1, b2, b3, fun q2 S2 c1 c2 c3 c4 => b4 q2 S2 c1 c2 c3 (a4 q2 S2 c1 c2 c3 c4), ⟨V', b5, fun k hk => (b5' k hk).trans (hV k hk)⟩, b6⟩
section PARCEL
variable {sx : Nat × (Nat → Int32)} {h : px_H} {t g : Nat} {S : yS} {V : Nat → Int32} {Q : px_O → px_H → Prop}
set_option maxRecDepth 16384 in
theorem m_takeParcel {bb cb : Nat → Int32} {l nl ns th cl : Nat} {pos na nv : Nat → Nat} (hS : shape h) (h6 : h.2[619]? = some (.inl (11, modF V))) (ht : t < 4) (hg : g < 2) (hgv : iA h 656 t = nI g) (hth : iA h 657 t = nI th) (ht8 : th < 8) (hsz : iA h 665 t = nI l) (hb : ∀ m, m < l → iA h 664 (300 * t + m) = bb m) (hb2 : ∀ m, m < l → bb m &&& 255 = bb m) (ok : imgOK bb l nl ns pos na nv) (hw : WFy S) (ry : RY h (1 - g) S) (hcl : cl ≤ 4120) (h67 : iA h 667 t = nI cl) (h66 : ∀ m, m < cl → iA h 666 (6000 * t + m) = cb m) (hc2 : ∀ m, m < cl → cb m &&& 255 = cb m)
    (hK : ∀ h', keepN S cb cl → mnP h h' (1 - g) S V (px_up (iA h 655) t 0) (iA h 658) (px_up (iA h 661) t 0) (lA h 663) → Q (.inl (some (.int 0))) h')
    (hW : ∀ S1 j h', keepY S cb cl S1 → j < nl → (∀ j', j' < j → hasD S1 (layB bb j')) → ¬ hasD S1 (layB bb j) → mnP h h' (1 - g) S1 V (iA h 655) (px_up (iA h 658) t 2) (iA h 661) (px_up (lA h 663) t (layB bb j)) → Q (.inl (some (.int 2))) h')
    (hN : ∀ S1 h', keepY S cb cl S1 → (∀ j, j < nl → hasD S1 (layB bb j)) → keepN S1 bb l → mnP h h' (1 - g) S1 V (px_up (iA h 655) t 0) (iA h 658) (px_up (iA h 661) t 0) (lA h 663) → Q (.inl (some (.int 0))) h')
    (hN2 : ∀ S1 S' h', keepY S cb cl S1 → (∀ j, j < nl → hasD S1 (layB bb j)) → keepY S1 bb l S' → tellN S' th (dig bb l) → mnP h h' (1 - g) S' V (px_up (iA h 655) t 0) (iA h 658) (px_up (iA h 661) t 0) (lA h 663) → Q (.inl (some (.int 0))) h')
    (hD : ∀ S1 S' S'' h', keepY S cb cl S1 → (∀ j, j < nl → hasD S1 (layB bb j)) → keepY S1 bb l S' → tellY S' th (dig bb l) S'' → mnP h h' (1 - g) S'' V (iA h 655) (px_up (iA h 658) t 4) (iA h 661) (lA h 663) → Q (.inl (some (.int 4))) h') :
    px_Wp sx 253 0 [some (.ref 619), some (.int (nI t)), none] [] h Q := by
  have hl := hS.1
  have hq : 1 - g < 2 := by omega
  have it : px_in (nI t) 4 = true := px_inb ht (by decide)
  have ct : (nI t).toNatClampNeg = t := nI_clamp (by omega)
  have hc6 : px_cls h 619 = some 11 := by unfold px_cls; rw [h6]
  have e0 : px_wr h 619 (.inl (11, modF (px_up V 17 0))) = outH h (px_up V 17 0) (iA h 636) := (outH_w (at_636 hS)).symm
  simp only [pc253_0, pc253_0n, pc253_1, pc253_2, pc253_5, pc253_6, px_op_some, px_kv_ap, px_ki_ap, px_kl_ap, px_kn_ap, px_kh_ap, px_op_none, px_K_some, px_K_none, px_K_thr, px_kill, ↓reduceIte, if_true, if_false, true_and, and_true, px_pf, h6, mf_len, mfs_17, px_fit, Nat.reduceLT, and_self, e0]
  refine m_par_l (V1 := V) (row0 := iA h 636) (bb := cb) (by omega) ht (at_666 hS) (at_667 hS) h67 hcl (fun m hm => by rw [h66 m hm]; exact hc2 m hm) (fun row' wr => ?_) cl 0 (by omega) _ (wroteM_0 _ _ _)
  have er : ∀ m, m < cl → row' m = cb m := fun m hm => by have := wr.2 m hm; rw [Nat.zero_add] at this; exact this
  have o6 : (outH h (px_up V 17 (nI cl)) row').2[619]? = _ := outH_o (by omega)
  have oR : (outH h (px_up V 17 (nI cl)) row').2[636]? = _ := outH_r (by omega)
  have oo : ∀ r, 636 ≠ r → 619 ≠ r → (outH h (px_up V 17 (nI cl)) row').2[r]? = h.2[r]? := fun r p1 p2 => outH_at p1 p2
  have s2 : shape (outH h (px_up V 17 (nI cl)) row') := by
    unfold outH; exact shape_wr (shape_wr hS rfl) rfl
  have f2 : frm (fun r => mtA r ∨ ryA r ∨ r = 655 ∨ r = 658 ∨ r = 661 ∨ r = 663) h (outH h (px_up V 17 (nI cl)) row') := by
    unfold outH; exact frm_wr (frm_wr (frm_refl _ _) (.inr (.inl (.inr (.inl rfl))))) (.inl (.inl rfl))
  generalize outH h (px_up V 17 (nI cl)) row' = H at o6 oR oo s2 f2 ⊢
  have u2 : mnP h H (1 - g) S V (iA h 655) (iA h 658) (iA h 661) (lA h 663) := ⟨f2, s2, RY_frm ry (fun r hr hr' => oo r (by omega) (by omega)), fun q2 S2 c1 c2 c3 c4 => RY_frm c4 (fun r hr hr' => oo r (by omega) (by omega)), ⟨_, o6, fun k hk => by rw [up_ne (by omega)]⟩, (oo _ (by decide) (by decide)).trans (at_655 hS), (oo _ (by decide) (by decide)).trans (at_658 hS), (oo _ (by decide) (by decide)).trans (at_661 hS), (oo _ (by decide) (by decide)).trans (at_663 hS)⟩
  have hcH : px_cls H 619 = some 11 := by unfold px_cls; rw [o6]
  have h56 : H.2[656]? = _ := (oo 656 (by decide) (by decide)).trans (at_656 hS)
  simp only [pc253_39, pc253_39n, pc253_40, pc253_41, pc253_41n, pc253_42, pc253_45, pc253_46, pc253_47, pc253_48, px_op_some, px_kv_ap, px_ki_ap, px_kl_ap, px_kn_ap, px_kh_ap, px_op_none, px_K_some, px_K_none, px_K_thr, px_kill, ↓reduceIte, if_true, if_false, true_and, and_true, px_gf, px_ai, tg_i1, o6, h56, mf_50, it, ct, hgv, and_self, sub_1 hg, hcH]
  refine ry_keep2 (c := cl) s2 hw hq u2.2.2.1 o6 (up_same _ _ _) (by omega) oR (fun m hm => by rw [er m hm]; exact hc2 m hm) (fun S1 h3 ky ry3 ro3 f3 s3 => ?_) (fun kn => ?_)
  · have ky' := keepY_congr er ky
    have g3 : ∀ {r : Nat} {x : px_C}, ¬ (621 ≤ r ∧ r ≤ 633) → H.2[r]? = some x → h3.2[r]? = some x := fun p1 e => frm_at f3 p1 e
    have o63 := g3 (by omega) o6
    have hc3 : px_cls h3 619 = some 11 := by unfold px_cls; rw [o63]
    have u3 : mnP h h3 (1 - g) S1 V (iA h 655) (iA h 658) (iA h 661) (lA h 663) := ⟨frm_trans u2.1 (frm_mono f3 (fun r y => .inr (.inl (.inr (.inr ⟨y.1, by have := y.2; omega⟩))))), s3, ry3, fun q2 S2 c1 c2 c3 c4 => ro3 q2 S2 c1 c2 c3 (u2.2.2.2.1 q2 S2 c1 c2 c3 c4), ⟨_, o63, fun k hk => by rw [up_ne (by omega)]⟩, g3 (by omega) u2.2.2.2.2.2.1, g3 (by omega) u2.2.2.2.2.2.2.1, g3 (by omega) u2.2.2.2.2.2.2.2.1, g3 (by omega) u2.2.2.2.2.2.2.2.2⟩
    have hw' := WF_keep hw hc2 ky'
    have ee : ∀ r, r ≠ 619 → r ≠ 636 → ¬ (621 ≤ r ∧ r ≤ 633) → h3.2[r]? = h.2[r]? := fun r p1 p2 p3 => (f3.2.2 r p3).trans (oo r (fun q => p2 q.symm) (fun q => p1 q.symm))
    have f55 := rd_of_eq (ee 655 (by decide) (by decide) (by decide))
    have f56 := rd_of_eq (ee 656 (by decide) (by decide) (by decide))
    have f57 := rd_of_eq (ee 657 (by decide) (by decide) (by decide))
    have f58 := rd_of_eq (ee 658 (by decide) (by decide) (by decide))
    have f61 := rd_of_eq (ee 661 (by decide) (by decide) (by decide))
    have f63 := rd_of_eq (ee 663 (by decide) (by decide) (by decide))
    have f64 := rd_of_eq (ee 664 (by decide) (by decide) (by decide))
    have f65 := rd_of_eq (ee 665 (by decide) (by decide) (by decide))
    have hV : ∀ k, k = 0 ∨ k = 2 ∨ k = 44 ∨ k = 45 ∨ k = 46 → px_up V 17 (nI cl) k = V k := fun k hk => up_ne (by omega)
    simp only [px_K_some, pc253_51, pc253_54, pc253_54n, pc253_55, pc253_56, ne_1_0, if_false, hc3, true_and]
    refine m_answer (V := px_up V 17 (nI cl)) s3 o63 ht hg (by rw [f56.1]; exact hgv) (by rw [f57.1]; exact hth) ht8 (by rw [f65.1]; exact hsz) (fun m hm => by rw [f64.1]; exact hb m hm) hb2 ok hw' ry3 ?_ ?_ ?_ ?_ <;> rw [f55.1, f58.1, f61.1, f63.2.1]
    · intro j h' p1 p2 p3 mn
      simp only [px_K_some, pc253_59, pc253_62, pc253_62n, pc253_63, pc253_64, pc253_65, pc253_68]
      exact hW S1 j h' ky' p1 p2 p3 (mn_trans u3 hV mn)
    · intro h' p1 p2 mn
      simp only [px_K_some, pc253_59, pc253_62, pc253_62n, pc253_63, pc253_64, pc253_65, pc253_68]
      exact hN S1 h' ky' p1 p2 (mn_trans u3 hV mn)
    · intro S' h' p1 p2 p3 mn
      simp only [px_K_some, pc253_59, pc253_62, pc253_62n, pc253_63, pc253_64, pc253_65, pc253_68]
      exact hN2 S1 S' h' ky' p1 p2 p3 (mn_trans u3 hV mn)
    · intro S' S'' h' p1 p2 p3 mn
      simp only [px_K_some, pc253_59, pc253_62, pc253_62n, pc253_63, pc253_64, pc253_65, pc253_68]
      exact hD S1 S' S'' h' ky' p1 p2 p3 (mn_trans u3 hV mn)
  · simp only [px_K_some, pc253_51, pc253_62, pc253_62n, pc253_63, pc253_64, pc253_65, if_true, hcH, true_and]
    refine m_finish (.inl rfl) ht o6 u2.2.2.2.2.2.1 u2.2.2.2.2.2.2.2.1 ?_
    simp only [px_K_some, pc253_68]
    exact hK _ (keepN_congr er kn) (mn_fin (V1 := V) u2)
end PARCEL
set_option maxRecDepth 16384 in
theorem st_dlv3 {sx : Nat × (Nat → Int32)} {i t g l nl ns th cl : Nat} {pos na nv : Nat → Nat} {bb F cb C : Nat → Int32} {d e k : Int32} {v : Int64} {S : yS} {a b c : Option Value} {h : px_H} {Q : px_O → px_H → Prop} (hL : sx.1 ≤ 3072) (hi : i + 6 ≤ sx.1) (hx : sx.2 (i + 1) = nI t)
    (hS : shape h) (ht : t < 4) (hg : g < 2) (hX : h.2[25 + 5 * t]? = some (.inl (8, trF (25 + 5 * t) 1 3 0 d e (nI g) (nI th) k v))) (wX : rowAt h (25 + 5 * t + 1) 231 l F) (hF : ∀ m, m < l → F m &&& 255 = bb m) (wC : rowAt h (25 + 5 * t + 3) 4120 cl C) (hC : ∀ m, m < cl → C m &&& 255 = cb m) (ok : imgOK bb l nl ns pos na nv) (hth : th < 8) (hw : WFy S) (cy : CY h (2 + 11 * (1 - g)) S) (ry : RY h (1 - g) S) (i2 : imS h 421 (fun s => s))
    (r55 : iA h 655 t = 1) (r59 : iA h 659 t = 0) (r58 : iA h 658 t = 3) (r56 : iA h 656 t = nI g) (r57 : iA h 657 t = nI th) (r65 : iA h 665 t = nI l) (r64 : ∀ m, m < l → iA h 664 (300 * t + m) = bb m) (hb2 : ∀ m, m < l → bb m &&& 255 = bb m) (r67 : iA h 667 t = nI cl) (r66 : ∀ m, m < cl → iA h 666 (6000 * t + m) = cb m) (hc2 : ∀ m, m < cl → cb m &&& 255 = cb m)
    (hQN : ∀ h1 h2 gg a b c, keepN S cb cl → h1 = px_wr h (25 + 5 * t) (.inl (8, trF (25 + 5 * t) 0 0 0 d 0 (nI g) (nI th) k v)) → mnP (dC h h1 gg) h2 (1 - g) S (px_up (fI h 619) 0 0) (px_up (iA h 655) t 0) (iA h 658) (px_up (iA h 661) t 0) (lA h 663) → px_Wp sx 277 1582 (lawL (nI i) a b c) [] h2 Q)
    (hQ : ∀ S1 h0 h1 h2 gg fs S' o' m' e' w' a b c, keepY S cb cl S1 → frm (cyA (2 + 11 * (1 - g))) h h0 → shape h0 → ansO S1 bb l nl th t (fun z => trF (25 + 5 * t) 1 2 0 d e (nI g) (nI th) k z) (fun z => trF (25 + 5 * t) 0 0 0 d 0 (nI g) (nI th) k z) (fun z => trF (25 + 5 * t) 1 4 0 d e (nI g) (nI th) k z) v (iA h 655) (iA h 658) (iA h 661) (lA h 663) fs S' o' m' e' w' →
      anP h0 h1 (25 + 5 * t) (2 + 11 * (1 - g)) fs S' → mnP (dC h h1 gg) h2 (1 - g) S' (px_up (fI h 619) 0 0) o' m' e' w' → px_Wp sx 277 1582 (lawL (nI i) a b c) [] h2 Q)
    : px_Wp sx 277 1394 (lawL (nI i) a b c) [] h Q := by
  have hj : px_in (nI (i + 1)) sx.1 = true := px_inb (by omega) (by omega)
  have hk : (nI (i + 1)).toNatClampNeg = i + 1 := nI_clamp (by omega)
  have hl := hS.1
  have t0 : ¬ nI t < 0 := nI_pos (by omega)
  have t3 : ¬ (3 : Int32) < nI t := nI_nlt (a := 3) (by omega) (by decide)
  have i4 : px_in (nI t) 4 = true := px_inb ht (by decide)
  have c4 : (nI t).toNatClampNeg = t := nI_clamp (by omega)
  have htr := tra_at ht
  have hX1 := hX
  unfold trF at hX1
  have lX : 25 + 5 * t < h.2.length := by omega
  have wC1 := wC.1
  have hcl := wC.2.2.1
  have gy : ∀ (g' : Nat), g' < 2 → (nI g' = 0 ∧ g' = 0) ∨ (¬ nI g' = 0 ∧ g' = 1) := fun g' hg' => by
    match g', hg' with
    | 0, _ => exact .inl ⟨rfl, rfl⟩
    | 1, _ => exact .inr ⟨by decide, rfl⟩
  have main : px_Wp sx 92 0 [some (.ref (2 + 11 * (1 - g))), some (.ref (25 + 5 * t + 3)), some (.int (nI 0)), some (.int (nI cl)), none, none] [] h (px_K sx 115 70 [some (.ref (25 + 5 * t)), some (.ref (2 + 11 * g)), some (.ref (2 + 11 * (1 - g))), some (.ref 421)] [] (px_K sx 22 76 [some (.ref 0), some (.int (nI t)), some (.ref (25 + 5 * t)), some (.ref (2 + 11 * g)), some (.ref (2 + 11 * (1 - g)))] [] (px_KH sx 274 4 [(0, 9, 12, 13, 12), (0, 9, 15, 82, 15)] [some (.ref 0), some (.int (nI t)), some (.ref 668), none] [.int 0, .ref 668] (px_K sx 277 1405 [some (.retAddr 0), some (.ref 0), some (.ref 619), some (.ref 668), some (.int (nI i)), a, b, c] [] Q)))) := by
    have base : ∀ (h1 : px_H) (gg : Nat → Int64), shape h1 → (∀ r, 620 ≤ r → h1.2[r]? = h.2[r]?) → h1.2[619]? = h.2[619]? → shape (dC h h1 gg) ∧ (dC h h1 gg).2[619]? = some (.inl (11, modF (px_up (fI h 619) 0 0))) ∧ (dC h h1 gg).2[668]? = some (.inr (2, 1, .inr (.inl gg))) ∧ ∀ r, 620 ≤ r → r ≠ 668 → (dC h h1 gg).2[r]? = h.2[r]? := by
      intro h1 gg s1 ze z6
      have hl1 := s1.1
      refine ⟨?_, ?_, ?_, fun r p1 p2 => ?_⟩
      · unfold dC
        have q1 := shape_la (g := gg) s1 ((ze 668 (by decide)).trans (at_668 hS))
        exact shape_int (k := 0) (y := 0) q1 (r := 619) (c := 11) (fs := modF (fI h 619)) (by rw [wr_at, if_neg (by decide)]; exact z6.trans (at_619 hS)) rfl
      · unfold dC; rw [wr_at, if_pos rfl, if_pos (by rw [px_wr_len]; omega)]
      · unfold dC; rw [wr_at, if_neg (by decide), wr_at, if_pos rfl, if_pos (by omega)]
      · unfold dC; rw [wr_at, if_neg (by omega), wr_at, if_neg (fun q => p2 q.symm)]; exact ze r p1
    have fin : ∀ (ms : Int32) (fs : List Value) (h1 : px_H), fs[1]? = some (.int ms) → h1.2[25 + 5 * t]? = some (.inl (8, fs)) → shape h1 → (∀ r, 620 ≤ r → h1.2[r]? = h.2[r]?) → h1.2[619]? = h.2[619]? →
        (∀ gg, px_Wp sx 253 0 [some (.ref 619), some (.int (nI t)), none] [] (dC h h1 gg) (fun o h' => o = .inl (some (.int ms)) ∧ h'.2[668]? = some (.inr (2, 1, .inr (.inl gg))) ∧ (∃ V', h'.2[619]? = some (.inl (11, modF V')) ∧ V' 0 = 0) ∧ ∀ a b c, px_Wp sx 277 1582 (lawL (nI i) a b c) [] h' Q)) →
        px_Wp sx 115 95 [some (.ref (25 + 5 * t)), some (.ref (2 + 11 * g)), some (.ref (2 + 11 * (1 - g))), some (.ref 421)] [] h1 (px_K sx 22 76 [some (.ref 0), some (.int (nI t)), some (.ref (25 + 5 * t)), some (.ref (2 + 11 * g)), some (.ref (2 + 11 * (1 - g)))] [] (px_KH sx 274 4 [(0, 9, 12, 13, 12), (0, 9, 15, 82, 15)] [some (.ref 0), some (.int (nI t)), some (.ref 668), none] [.int 0, .ref 668] (px_K sx 277 1405 [some (.retAddr 0), some (.ref 0), some (.ref 619), some (.ref 668), some (.int (nI i)), a, b, c] [] Q))) := by
      intro ms fs h1 hms f1X s1 ze z6 w
      have z619 := z6.trans (at_619 hS)
      have z655 := (ze 655 (by decide)).trans (at_655 hS)
      have z658 := (ze 658 (by decide)).trans (at_658 hS)
      have z659 := (ze 659 (by decide)).trans (at_659 hS)
      have z668 := (ze 668 (by decide)).trans (at_668 hS)
      simp only [lawL, pc115_95, pc22_76, pc22_76n, pc22_77, pc22_80, pc274_0, pc274_0n, pc274_1, pc274_2, pc274_2n, pc274_3, pc274_4, pc274_7, pc274_8, pc274_9, pc274_12, pc274_12n, pc274_13, pc274_14, pc274_15, pc274_15n, pc274_16, pc274_17, pc274_18, pc274_19, pc277_1394, pc277_1394n, pc277_1394s, pc277_1395, pc277_1395n, pc277_1395s, pc277_1396, pc277_1398, pc277_1399, pc277_1400, pc277_1401, pc277_1401n, pc277_1401s, pc277_1402, pc277_1405, pc277_1407, pc277_1407n, pc277_1407s, pc277_1408, pc277_1408n, pc277_1408s, pc277_1409, pc277_1411, pc277_1412, pc277_1413, pc277_1414, pc277_1417, pc277_1419, pc277_1419n, pc277_1419s, pc277_1420, pc277_1423, pc277_1425, pc277_1428, pc277_1429, pc277_1430, pc277_1432, pc277_1435, pc277_1435n, pc277_1435s, pc277_1436, pc277_1437, pc277_1438, pc277_1440, pc277_1441, pc277_1442, pc277_1445, pc277_1446, pc277_1447, pc248_0, pc248_1, pc248_4, pc248_5, pc248_5n, pc248_6, pc248_7, pc248_10, pc248_11, pc248_14, pc248_15, pc248_16, pc248_19, pc248_19n, pc248_20, pc248_23, pc248_24, pc248_27, pc248_28, pc248_31, pc248_32, pc248_33, pc248_36, pc248_36n, pc248_37, pc248_40, pc248_41, pc248_44, pc248_45, pc248_48, pc248_49, pc248_50, pc248_53, pc248_54, pc248_57, pc248_58, pc248_59, pc248_62, pc248_65, pc248_66, pc248_67, pc248_67n, pc248_68, pc248_71, pc248_72, pc248_73, pc248_100, pc248_100n, pc248_101, pc248_104, pc248_105, pc248_106, pc248_107, pc248_107n, pc248_108, pc248_109, pc248_112, pc248_113, pc248_113n, pc248_114, pc248_115, pc248_118, pc248_119, pc248_119n, pc248_120, pc248_121, pc249_0, pc249_1, pc249_2, pc249_3, pc249_6, pc145_0, pc145_0n, pc145_1, pc145_2, pc145_5, pc145_6, pc145_9, pc145_10, pc145_13, pc145_14, pc145_17, pc145_18, pc145_21, pc145_22, pc145_25, pc145_26, pc145_29, pc145_29n, pc145_30, pc145_33, pc145_36, pc145_37, pc145_40, pc145_41, pc144_0, pc144_1, pc144_2, pc144_5, pc144_6, pc144_7, pc144_10, pc144_11, pc144_14, pc144_15, px_op_some, px_kv_ap, px_ki_ap, px_kl_ap, px_kn_ap, px_kh_ap, px_op_none, px_K_some, px_K_none, px_K_thr, px_kill, ↓reduceIte, if_true, if_false, true_and, and_true, px_gf, px_pf, px_ai, px_aj, px_aa, px_wi, px_wj, px_wa, px_an, px_cls, yr_0, yr_1, tr_0, tr_1, tr_2, tr_3, px_rf, of_2, of_4, in_02, in_12, in_04, in_14, in_24, in_34, Nat.reduceLeDiff, in_01, lgc_self, Int32.reduceToNatClampNeg, wr_at, al_at, px_wr_len, px_al_len, px_wr_1, px_al_1, tg_0, tg_1, tg_2, tg_3, tg_12, tg_15, tg_17, tg_18, tg_i1, tg_b0, tg_b3, px_fit, Nat.reduceEqDiff, Nat.reduceLT, Nat.reduceAdd, Option.some.injEq, up_at, px_wr_wr, i32_le, Int32.reduceLE, Int32.reduceLT, mf_len, nar_0, nar_1, px_KH_some, px_KH_none, px_KH_thr, List.length_cons, List.length_nil, List.getElem?_cons_zero, List.getElem?_cons_succ, List.set_cons_zero, List.set_cons_succ, ↓reduceIte, Nat.lt_irrefl, ne_0_1, ne_0_2, ne_0_3, ne_0_4, ne_0_5, ne_1_0, ne_1_2, ne_1_3, ne_1_4, ne_1_5, ne_2_0, ne_2_1, ne_2_3, ne_2_4, ne_2_5, ne_3_0, ne_3_1, ne_3_2, ne_3_4, ne_3_5, ne_4_0, ne_4_1, ne_4_2, ne_4_3, ne_4_5, ne_5_0, ne_5_1, ne_5_2, ne_5_3, ne_5_4, hd_256_12, hd_256_16, hd_257_12, hd_258_12, hd_259_12, hd_260_12, hd_261_12, hd_261_13, hd_261_16, hd_262_12, hd_262_13, hd_262_16, hd_263_12, hd_263_13, hd_264_12, hd_264_13, hd_264_14, hd_265_12, hd_265_13, hd_265_14, hd_266_12, hd_267_12, hd_267_13, hd_267_14, hd_268_12, hd_269_12, hd_269_14, hd_270_12, hd_271_12, hd_272_12, hd_273_12, hd_273_13, hd_273_15, hd_274_12, hd_274_15, hd_275_12, hd_275_15, hd_276_12, nI_p1, nI_p2, nI_p3, nI_p4, nI_p5, not_true_eq_false, not_false_eq_true, and_self, mf_0, mf_1, mf_2, mf_3, mf_4, mf_5, mf_6, mf_7, mf_8, mf_9, mf_10, mf_11, mf_12, mf_13, mf_14, mf_15, mf_16, mf_17, mf_18, mf_19, mf_20, mf_21, mf_22, mf_23, mf_24, mf_25, mf_26, mf_27, mf_28, mf_29, mf_30, mf_31, mf_32, mf_33, mf_34, mf_35, mf_36, mf_37, mf_38, mf_39, mf_40, mf_41, mf_42, mf_43, mf_44, mf_45, mf_46, mf_47, mf_48, mf_49, mf_50, mf_51, mf_52, mf_53, mf_54, mf_55, mf_56, mf_57, mf_58, mf_59, mf_60, mf_61, mfs_0, mfs_2, mfs_17, mfs_20, mfs_26, mfs_32, mfs_34, mfs_36, mfs_38, mfs_43, mfs_44, mfs_45, mfs_46, mfs_47, iy_0, iy_1, iy_2, iy_3, iy_4, iy_5, iy_6, f1X, z619, z655, z658, z659, z668, shape_1 s1, hj, hk, hx, t0, t3, i4, c4, r55, r59, r58, hms]
      refine wp_mono (w _) (fun o h' ho => ?_)
      obtain ⟨rfl, e8, ⟨V', e6, e0⟩, hfin⟩ := ho
      simp only [lawL, pc248_124, pc277_1394, pc277_1394n, pc277_1394s, pc277_1395, pc277_1395n, pc277_1395s, pc277_1396, pc277_1398, pc277_1399, pc277_1400, pc277_1401, pc277_1401n, pc277_1401s, pc277_1402, pc277_1405, pc277_1407, pc277_1407n, pc277_1407s, pc277_1408, pc277_1408n, pc277_1408s, pc277_1409, pc277_1411, pc277_1412, pc277_1413, pc277_1414, pc277_1417, pc277_1419, pc277_1419n, pc277_1419s, pc277_1420, pc277_1423, pc277_1425, pc277_1428, pc277_1429, pc277_1430, pc277_1432, pc277_1435, pc277_1435n, pc277_1435s, pc277_1436, pc277_1437, pc277_1438, pc277_1440, pc277_1441, pc277_1442, pc277_1445, pc277_1446, pc277_1447, pc142_0, pc142_0n, pc142_1, pc142_4, px_op_some, px_kv_ap, px_ki_ap, px_kl_ap, px_kn_ap, px_kh_ap, px_op_none, px_K_some, px_K_none, px_K_thr, px_kill, ↓reduceIte, if_true, if_false, true_and, and_true, px_gf, px_pf, px_ai, px_aj, px_aa, px_wi, px_wj, px_wa, px_an, px_cls, yr_0, yr_1, tr_0, tr_1, tr_2, tr_3, px_rf, of_2, of_4, in_02, in_12, in_04, in_14, in_24, in_34, Nat.reduceLeDiff, in_01, lgc_self, Int32.reduceToNatClampNeg, wr_at, al_at, px_wr_len, px_al_len, px_wr_1, px_al_1, tg_0, tg_1, tg_2, tg_3, tg_12, tg_15, tg_17, tg_18, tg_i1, tg_b0, tg_b3, px_fit, Nat.reduceEqDiff, Nat.reduceLT, Nat.reduceAdd, Option.some.injEq, up_at, px_wr_wr, i32_le, Int32.reduceLE, Int32.reduceLT, mf_len, nar_0, nar_1, px_KH_some, px_KH_none, px_KH_thr, List.length_cons, List.length_nil, List.getElem?_cons_zero, List.getElem?_cons_succ, List.set_cons_zero, List.set_cons_succ, ↓reduceIte, Nat.lt_irrefl, ne_0_1, ne_0_2, ne_0_3, ne_0_4, ne_0_5, ne_1_0, ne_1_2, ne_1_3, ne_1_4, ne_1_5, ne_2_0, ne_2_1, ne_2_3, ne_2_4, ne_2_5, ne_3_0, ne_3_1, ne_3_2, ne_3_4, ne_3_5, ne_4_0, ne_4_1, ne_4_2, ne_4_3, ne_4_5, ne_5_0, ne_5_1, ne_5_2, ne_5_3, ne_5_4, hd_256_12, hd_256_16, hd_257_12, hd_258_12, hd_259_12, hd_260_12, hd_261_12, hd_261_13, hd_261_16, hd_262_12, hd_262_13, hd_262_16, hd_263_12, hd_263_13, hd_264_12, hd_264_13, hd_264_14, hd_265_12, hd_265_13, hd_265_14, hd_266_12, hd_267_12, hd_267_13, hd_267_14, hd_268_12, hd_269_12, hd_269_14, hd_270_12, hd_271_12, hd_272_12, hd_273_12, hd_273_13, hd_273_15, hd_274_12, hd_274_15, hd_275_12, hd_275_15, hd_276_12, nI_p1, nI_p2, nI_p3, nI_p4, nI_p5, not_true_eq_false, not_false_eq_true, and_self, mf_0, mf_1, mf_2, mf_3, mf_4, mf_5, mf_6, mf_7, mf_8, mf_9, mf_10, mf_11, mf_12, mf_13, mf_14, mf_15, mf_16, mf_17, mf_18, mf_19, mf_20, mf_21, mf_22, mf_23, mf_24, mf_25, mf_26, mf_27, mf_28, mf_29, mf_30, mf_31, mf_32, mf_33, mf_34, mf_35, mf_36, mf_37, mf_38, mf_39, mf_40, mf_41, mf_42, mf_43, mf_44, mf_45, mf_46, mf_47, mf_48, mf_49, mf_50, mf_51, mf_52, mf_53, mf_54, mf_55, mf_56, mf_57, mf_58, mf_59, mf_60, mf_61, mfs_0, mfs_2, mfs_17, mfs_20, mfs_26, mfs_32, mfs_34, mfs_36, mfs_38, mfs_43, mfs_44, mfs_45, mfs_46, mfs_47, iy_0, iy_1, iy_2, iy_3, iy_4, iy_5, iy_6, e6, e8, e0]
      exact hfin _ _ _
    have pk : ∀ {h1 h2 : px_H} {gg : Nat → Int64} {S2 : yS} {o' m' e' : Nat → Int32} {w' : Nat → Int64}, shape h1 → (∀ r, 620 ≤ r → h1.2[r]? = h.2[r]?) → h1.2[619]? = h.2[619]? → mnP (dC h h1 gg) h2 (1 - g) S2 (px_up (fI h 619) 0 0) o' m' e' w' → h2.2[668]? = some (.inr (2, 1, .inr (.inl gg))) ∧ ∃ V', h2.2[619]? = some (.inl (11, modF V')) ∧ V' 0 = 0 := by
      intro h1 h2 gg S2 o' m' e' w' s1 ze z6 mn
      obtain ⟨sB, o6, o8, e⟩ := base h1 gg s1 ze z6
      obtain ⟨b1, -, -, -, ⟨V', b5, b6⟩, -⟩ := mn
      exact ⟨(b1.2.2 668 (fun y => by unfold mtA ryA at y; omega)).trans o8, V', b5, by rw [b6 0 (.inl rfl)]; rfl⟩
    have par : ∀ (h1 : px_H) (gg : Nat → Int64) Q', shape h1 → (∀ r, 620 ≤ r → h1.2[r]? = h.2[r]?) → h1.2[619]? = h.2[619]? →
        (∀ h', keepN S cb cl → mnP (dC h h1 gg) h' (1 - g) S (px_up (fI h 619) 0 0) (px_up (iA h 655) t 0) (iA h 658) (px_up (iA h 661) t 0) (lA h 663) → Q' (.inl (some (.int 0))) h') →
        (∀ S1 j h', keepY S cb cl S1 → j < nl → (∀ j', j' < j → hasD S1 (layB bb j')) → ¬ hasD S1 (layB bb j) → mnP (dC h h1 gg) h' (1 - g) S1 (px_up (fI h 619) 0 0) (iA h 655) (px_up (iA h 658) t 2) (iA h 661) (px_up (lA h 663) t (layB bb j)) → Q' (.inl (some (.int 2))) h') →
        (∀ S1 h', keepY S cb cl S1 → (∀ j, j < nl → hasD S1 (layB bb j)) → keepN S1 bb l → mnP (dC h h1 gg) h' (1 - g) S1 (px_up (fI h 619) 0 0) (px_up (iA h 655) t 0) (iA h 658) (px_up (iA h 661) t 0) (lA h 663) → Q' (.inl (some (.int 0))) h') →
        (∀ S1 S' h', keepY S cb cl S1 → (∀ j, j < nl → hasD S1 (layB bb j)) → keepY S1 bb l S' → tellN S' th (dig bb l) → mnP (dC h h1 gg) h' (1 - g) S' (px_up (fI h 619) 0 0) (px_up (iA h 655) t 0) (iA h 658) (px_up (iA h 661) t 0) (lA h 663) → Q' (.inl (some (.int 0))) h') →
        (∀ S1 S' S'' h', keepY S cb cl S1 → (∀ j, j < nl → hasD S1 (layB bb j)) → keepY S1 bb l S' → tellY S' th (dig bb l) S'' → mnP (dC h h1 gg) h' (1 - g) S'' (px_up (fI h 619) 0 0) (iA h 655) (px_up (iA h 658) t 4) (iA h 661) (lA h 663) → Q' (.inl (some (.int 4))) h') →
        px_Wp sx 253 0 [some (.ref 619), some (.int (nI t)), none] [] (dC h h1 gg) Q' := by
      intro h1 gg Q' s1 ze z6 q0 q1 q2 q3 q4
      obtain ⟨sB, o6, o8, e⟩ := base h1 gg s1 ze z6
      have f55 := rd_of_eq (e 655 (by decide) (by decide))
      have f56 := rd_of_eq (e 656 (by decide) (by decide))
      have f57 := rd_of_eq (e 657 (by decide) (by decide))
      have f58 := rd_of_eq (e 658 (by decide) (by decide))
      have f61 := rd_of_eq (e 661 (by decide) (by decide))
      have f63 := rd_of_eq (e 663 (by decide) (by decide))
      have f64 := rd_of_eq (e 664 (by decide) (by decide))
      have f65 := rd_of_eq (e 665 (by decide) (by decide))
      have f66 := rd_of_eq (e 666 (by decide) (by decide))
      have f67 := rd_of_eq (e 667 (by decide) (by decide))
      rw [← f55.1, ← f58.1, ← f61.1, ← f63.2.1] at q0 q1 q2 q3 q4
      exact m_takeParcel (V := px_up (fI h 619) 0 0) sB o6 ht hg (by rw [f56.1]; exact r56) (by rw [f57.1]; exact r57) hth (by rw [f65.1]; exact r65) (fun m hm => by rw [f64.1]; exact r64 m hm) hb2 ok hw (RY_frm ry (fun r hr hr' => e r (by omega) (by omega))) hcl (by rw [f67.1]; exact r67) (fun m hm => by rw [f66.1]; exact r66 m hm) hc2 q0 q1 q2 q3 q4
    refine cy_keep2 (a := 0) (c := cl) (bb := cb) hw cy (.inl (by omega)) wC (by omega) (by omega) (fun m hm => by rw [Nat.zero_add]; exact hC m hm) (fun S1 h0 ky cy1 f1 s1 => ?_) (fun kn => ?_)
    · have s0 := s1 hS
      have n1 : ∀ r, ¬ cyA (2 + 11 * (1 - g)) r → h0.2[r]? = h.2[r]? := f1.2.2
      have X0 : h0.2[25 + 5 * t]? = _ := (n1 _ (fun y => by have := y.2; omega)).trans hX
      have hc0 : px_cls h0 (25 + 5 * t) = some 8 := by unfold px_cls; rw [X0]
      have hw1 := WF_keep hw hc2 ky
      have oth : ∀ {h1 : px_H} {fs : List Value} {S' : yS}, anP h0 h1 (25 + 5 * t) (2 + 11 * (1 - g)) fs S' → shape h1 ∧ (∀ r, 620 ≤ r → h1.2[r]? = h.2[r]?) ∧ h1.2[619]? = h.2[619]? := fun an => ⟨an.2.1 s0, fun r hr => (an.1.2.2 r (fun y => by unfold imA cyA at y; omega)).trans (n1 r (fun y => by have := y.2; omega)), (an.1.2.2 619 (fun y => by unfold imA cyA at y; omega)).trans (n1 619 (fun y => by have := y.2; omega))⟩
      rw [px_K_some]
      simp only [pc115_70, pc115_73, pc115_73n, pc115_74, pc115_74n, pc115_75, pc115_75n, pc115_76, ne_1_0, if_false, hc0, true_and]
      refine c_answer (X := 25 + 5 * t) (Y := 2 + 11 * (1 - g)) (by omega) (by omega) X0 ⟨(n1 _ (fun y => by have := y.2; omega)).trans wX.1, (n1 _ (fun y => by have := y.2; omega)).trans wX.2.1, wX.2.2⟩ hF ok hw1 cy1 hth ((n1 421 (fun y => by have := y.2; omega)).trans (at_421 hS)) ((n1 422 (fun y => by have := y.2; omega)).trans (at_422 hS)) (imS_up i2 (fun r hr hr' => n1 r (fun y => by have := y.2; omega))) (fun j h1 hj' hp hn an => ?_) (fun h1 hp kn an => ?_) (fun S' h1 hp ky2 tn an => ?_) (fun S' S'' h1 hp ky2 ty an => ?_)
      · rw [px_K_none, pc115_79]
        obtain ⟨sh1, ze, z6⟩ := oth an
        refine fin 2 _ h1 rfl an.2.2.1 sh1 ze z6 (fun gg => par h1 gg _ sh1 ze z6 (fun h2 kn _ => (keepYN hw ky kn).elim) (fun S2 j2 h2 k2 hj2 hp2 hn2 mn => ?_) (fun S2 h2 k2 hp2 _ _ => ?_) (fun S2 _ h2 k2 hp2 _ _ _ => ?_) (fun S2 _ _ h2 k2 hp2 _ _ _ => ?_))
        · obtain rfl := keepY_det k2 ky
          have ej : j2 = j := by
            rcases Nat.lt_trichotomy j2 j with y | y | y
            · exact absurd (hp j2 y) hn2
            · exact y
            · exact absurd (hp2 j y) hn
          subst ej
          exact ⟨rfl, (pk sh1 ze z6 mn).1, (pk sh1 ze z6 mn).2, fun a b c => hQ S2 h0 h1 h2 gg _ _ _ _ _ _ a b c ky f1 s0 (.inl ⟨j2, hj2, hp, hn, rfl, rfl, rfl, rfl, rfl, rfl⟩) an mn⟩
        all_goals (obtain rfl := keepY_det k2 ky; exact absurd (hp2 j hj') hn)
      · rw [px_K_none, pc115_79]
        obtain ⟨sh1, ze, z6⟩ := oth an
        refine fin 0 _ h1 rfl an.2.2.1 sh1 ze z6 (fun gg => par h1 gg _ sh1 ze z6 (fun h2 kn _ => (keepYN hw ky kn).elim) (fun S2 j2 h2 k2 hj2 hp2 hn2 mn => ?_) (fun S2 h2 k2 hp2 kn2 mn => ?_) (fun S2 _ h2 k2 hp2 k3 _ _ => ?_) (fun S2 _ _ h2 k2 hp2 k3 _ _ => ?_))
        · obtain rfl := keepY_det k2 ky; exact absurd (hp j2 hj2) hn2
        · obtain rfl := keepY_det k2 ky
          exact ⟨rfl, (pk sh1 ze z6 mn).1, (pk sh1 ze z6 mn).2, fun a b c => hQ S2 h0 h1 h2 gg _ _ _ _ _ _ a b c ky f1 s0 (.inr (.inl ⟨hp, .inl ⟨kn, rfl⟩, rfl, rfl, rfl, rfl, rfl⟩)) an mn⟩
        all_goals (obtain rfl := keepY_det k2 ky; exact (keepYN hw1 k3 kn).elim)
      · rw [px_K_none, pc115_79]
        obtain ⟨sh1, ze, z6⟩ := oth an
        refine fin 0 _ h1 rfl an.2.2.1 sh1 ze z6 (fun gg => par h1 gg _ sh1 ze z6 (fun h2 kn _ => (keepYN hw ky kn).elim) (fun S2 j2 h2 k2 hj2 hp2 hn2 mn => ?_) (fun S2 h2 k2 hp2 kn2 _ => ?_) (fun S2 S3 h2 k2 hp2 k3 tn3 mn => ?_) (fun S2 S3 S4 h2 k2 hp2 k3 ty3 _ => ?_))
        · obtain rfl := keepY_det k2 ky; exact absurd (hp j2 hj2) hn2
        · obtain rfl := keepY_det k2 ky; exact (keepYN hw1 ky2 kn2).elim
        · obtain rfl := keepY_det k2 ky
          obtain rfl := keepY_det k3 ky2
          exact ⟨rfl, (pk sh1 ze z6 mn).1, (pk sh1 ze z6 mn).2, fun a b c => hQ S2 h0 h1 h2 gg _ _ _ _ _ _ a b c ky f1 s0 (.inr (.inl ⟨hp, .inr ⟨ky2, tn⟩, rfl, rfl, rfl, rfl, rfl⟩)) an mn⟩
        · obtain rfl := keepY_det k2 ky
          obtain rfl := keepY_det k3 ky2
          exact (tellYN ty3 tn).elim
      · rw [px_K_none, pc115_79]
        obtain ⟨sh1, ze, z6⟩ := oth an
        refine fin 4 _ h1 rfl an.2.2.1 sh1 ze z6 (fun gg => par h1 gg _ sh1 ze z6 (fun h2 kn _ => (keepYN hw ky kn).elim) (fun S2 j2 h2 k2 hj2 hp2 hn2 mn => ?_) (fun S2 h2 k2 hp2 kn2 _ => ?_) (fun S2 S3 h2 k2 hp2 k3 tn3 _ => ?_) (fun S2 S3 S4 h2 k2 hp2 k3 ty3 mn => ?_))
        · obtain rfl := keepY_det k2 ky; exact absurd (hp j2 hj2) hn2
        · obtain rfl := keepY_det k2 ky; exact (keepYN hw1 ky2 kn2).elim
        · obtain rfl := keepY_det k2 ky
          obtain rfl := keepY_det k3 ky2
          exact (tellYN ty tn3).elim
        · obtain rfl := keepY_det k2 ky
          obtain rfl := keepY_det k3 ky2
          obtain rfl := tellY_det ty3 ty
          exact ⟨rfl, (pk sh1 ze z6 mn).1, (pk sh1 ze z6 mn).2, fun a b c => hQ S2 h0 h1 h2 gg _ _ _ _ _ _ a b c ky f1 s0 (.inr (.inr ⟨hp, ⟨_, ky2, ty⟩, rfl, rfl, rfl, rfl, rfl⟩)) an mn⟩
    · have hcX : px_cls h (25 + 5 * t) = some 8 := by unfold px_cls; rw [hX]
      rw [px_K_some]
      simp only [pc115_70, pc115_82, pc115_82n, pc115_83, pc115_84, if_true, hcX, true_and]
      refine c_tclose (.inl rfl) hX ?_
      rw [px_K_none, pc115_87]
      have sh1 : shape (px_wr h (25 + 5 * t) (.inl (8, trF (25 + 5 * t) 0 0 0 d 0 (nI g) (nI th) k v))) := shape_tr hS hX
      have ze : ∀ r, 620 ≤ r → (px_wr h (25 + 5 * t) (.inl (8, trF (25 + 5 * t) 0 0 0 d 0 (nI g) (nI th) k v))).2[r]? = h.2[r]? := fun r hr => by rw [wr_at, if_neg (by omega)]
      have z6 : (px_wr h (25 + 5 * t) (.inl (8, trF (25 + 5 * t) 0 0 0 d 0 (nI g) (nI th) k v))).2[619]? = h.2[619]? := by rw [wr_at, if_neg (by omega)]
      refine fin 0 _ _ rfl (by rw [wr_at, if_pos rfl, if_pos lX]) sh1 ze z6 (fun gg => par _ gg _ sh1 ze z6 (fun h2 _ mn => ?_) (fun S2 j2 h2 k2 _ _ _ _ => (keepYN hw k2 kn).elim) (fun S2 h2 k2 _ _ _ => (keepYN hw k2 kn).elim) (fun S2 _ h2 k2 _ _ _ _ => (keepYN hw k2 kn).elim) (fun S2 _ _ h2 k2 _ _ _ _ => (keepYN hw k2 kn).elim))
      exact ⟨rfl, (pk sh1 ze z6 mn).1, (pk sh1 ze z6 mn).2, fun a b c => hQN _ h2 gg a b c kn rfl mn⟩
  rcases gy g hg with ⟨g0, rfl⟩ | ⟨g0, rfl⟩
  · simp only [lawL, pc277_1394, pc277_1394n, pc277_1394s, pc277_1395, pc277_1395n, pc277_1395s, pc277_1396, pc277_1398, pc277_1399, pc277_1400, pc277_1401, pc277_1401n, pc277_1401s, pc277_1402, pc277_1405, pc277_1407, pc277_1407n, pc277_1407s, pc277_1408, pc277_1408n, pc277_1408s, pc277_1409, pc277_1411, pc277_1412, pc277_1413, pc277_1414, pc277_1417, pc277_1419, pc277_1419n, pc277_1419s, pc277_1420, pc277_1423, pc277_1425, pc277_1428, pc277_1429, pc277_1430, pc277_1432, pc277_1435, pc277_1435n, pc277_1435s, pc277_1436, pc277_1437, pc277_1438, pc277_1440, pc277_1441, pc277_1442, pc277_1445, pc277_1446, pc277_1447, pc274_0, pc274_0n, pc274_1, pc274_2, pc274_2n, pc274_3, pc274_4, pc274_7, pc274_8, pc274_9, pc274_12, pc274_12n, pc274_13, pc274_14, pc274_15, pc274_15n, pc274_16, pc274_17, pc274_18, pc274_19, pc22_0, pc22_0n, pc22_1, pc22_2, pc22_5, pc22_5n, pc22_6, pc22_6n, pc22_7, pc22_10, pc22_13, pc22_13n, pc22_14, pc22_17, pc22_20, pc22_23, pc22_23r, pc22_28, pc22_28n, pc22_29, pc22_32, pc22_32n, pc22_33, pc22_36, pc22_39, pc22_40, pc22_43, pc22_44, pc22_45, pc22_45n, pc22_46, pc22_46n, pc22_47, pc22_50, pc22_50n, pc22_51, pc22_54, pc22_57, pc22_58, pc22_61, pc22_62, pc22_63, pc22_63n, pc22_65, pc22_65n, pc22_66, pc22_66n, pc22_67, pc22_67n, pc22_69, pc22_69n, pc22_70, pc22_73, pc22_76, pc22_76n, pc22_77, pc22_80, pc23_0, pc23_1, pc23_4, pc23_5, pc23_5n, pc23_6, pc23_9, pc23_10, pc23_13, pc23_16, pc23_16r, pc23_21, pc23_21n, pc23_22, pc23_25, pc23_26, pc23_27n, pc23_27, pc115_0, pc115_0n, pc115_1, pc115_4, pc115_32, pc115_32n, pc115_33, pc115_34, pc115_37, pc115_37n, pc115_38, pc115_38n, pc115_39, pc115_39n, pc115_40, pc115_43, pc115_46, pc115_46n, pc115_47, pc115_47n, pc115_48, pc115_51, pc115_54, pc115_54n, pc115_55, pc115_55n, pc115_56, pc115_59, pc115_60, pc115_60n, pc115_61, pc115_64, pc115_67, px_op_some, px_kv_ap, px_ki_ap, px_kl_ap, px_kn_ap, px_kh_ap, px_op_none, px_K_some, px_K_none, px_K_thr, px_kill, ↓reduceIte, if_true, if_false, true_and, and_true, px_gf, px_pf, px_ai, px_aj, px_aa, px_wi, px_wj, px_wa, px_an, px_cls, yr_0, yr_1, tr_0, tr_1, tr_2, tr_3, px_rf, of_2, of_4, in_02, in_12, in_04, in_14, in_24, in_34, Nat.reduceLeDiff, in_01, lgc_self, Int32.reduceToNatClampNeg, wr_at, al_at, px_wr_len, px_al_len, px_wr_1, px_al_1, tg_0, tg_1, tg_2, tg_3, tg_12, tg_15, tg_17, tg_18, tg_i1, tg_b0, tg_b3, px_fit, Nat.reduceEqDiff, Nat.reduceLT, Nat.reduceAdd, Option.some.injEq, up_at, px_wr_wr, i32_le, Int32.reduceLE, Int32.reduceLT, mf_len, nar_0, nar_1, px_KH_some, px_KH_none, px_KH_thr, List.length_cons, List.length_nil, List.getElem?_cons_zero, List.getElem?_cons_succ, List.set_cons_zero, List.set_cons_succ, ↓reduceIte, Nat.lt_irrefl, ne_0_1, ne_0_2, ne_0_3, ne_0_4, ne_0_5, ne_1_0, ne_1_2, ne_1_3, ne_1_4, ne_1_5, ne_2_0, ne_2_1, ne_2_3, ne_2_4, ne_2_5, ne_3_0, ne_3_1, ne_3_2, ne_3_4, ne_3_5, ne_4_0, ne_4_1, ne_4_2, ne_4_3, ne_4_5, ne_5_0, ne_5_1, ne_5_2, ne_5_3, ne_5_4, hd_256_12, hd_256_16, hd_257_12, hd_258_12, hd_259_12, hd_260_12, hd_261_12, hd_261_13, hd_261_16, hd_262_12, hd_262_13, hd_262_16, hd_263_12, hd_263_13, hd_264_12, hd_264_13, hd_264_14, hd_265_12, hd_265_13, hd_265_14, hd_266_12, hd_267_12, hd_267_13, hd_267_14, hd_268_12, hd_269_12, hd_269_14, hd_270_12, hd_271_12, hd_272_12, hd_273_12, hd_273_13, hd_273_15, hd_274_12, hd_274_15, hd_275_12, hd_275_15, hd_276_12, nI_p1, nI_p2, nI_p3, nI_p4, nI_p5, not_true_eq_false, not_false_eq_true, and_self, mf_0, mf_1, mf_2, mf_3, mf_4, mf_5, mf_6, mf_7, mf_8, mf_9, mf_10, mf_11, mf_12, mf_13, mf_14, mf_15, mf_16, mf_17, mf_18, mf_19, mf_20, mf_21, mf_22, mf_23, mf_24, mf_25, mf_26, mf_27, mf_28, mf_29, mf_30, mf_31, mf_32, mf_33, mf_34, mf_35, mf_36, mf_37, mf_38, mf_39, mf_40, mf_41, mf_42, mf_43, mf_44, mf_45, mf_46, mf_47, mf_48, mf_49, mf_50, mf_51, mf_52, mf_53, mf_54, mf_55, mf_56, mf_57, mf_58, mf_59, mf_60, mf_61, mfs_0, mfs_2, mfs_17, mfs_20, mfs_26, mfs_32, mfs_34, mfs_36, mfs_38, mfs_43, mfs_44, mfs_45, mfs_46, mfs_47, iy_0, iy_1, iy_2, iy_3, iy_4, iy_5, iy_6, at_0 hS, at_1 hS, at_2 hS, at_13 hS, at_24 hS, at_619 hS, shape_1 hS, shape_2 hS, hj, hk, hx, lt_4, t0, t3, i4, c4, htr, hX1, wC1, g0]
    exact main
  · simp only [lawL, pc277_1394, pc277_1394n, pc277_1394s, pc277_1395, pc277_1395n, pc277_1395s, pc277_1396, pc277_1398, pc277_1399, pc277_1400, pc277_1401, pc277_1401n, pc277_1401s, pc277_1402, pc277_1405, pc277_1407, pc277_1407n, pc277_1407s, pc277_1408, pc277_1408n, pc277_1408s, pc277_1409, pc277_1411, pc277_1412, pc277_1413, pc277_1414, pc277_1417, pc277_1419, pc277_1419n, pc277_1419s, pc277_1420, pc277_1423, pc277_1425, pc277_1428, pc277_1429, pc277_1430, pc277_1432, pc277_1435, pc277_1435n, pc277_1435s, pc277_1436, pc277_1437, pc277_1438, pc277_1440, pc277_1441, pc277_1442, pc277_1445, pc277_1446, pc277_1447, pc274_0, pc274_0n, pc274_1, pc274_2, pc274_2n, pc274_3, pc274_4, pc274_7, pc274_8, pc274_9, pc274_12, pc274_12n, pc274_13, pc274_14, pc274_15, pc274_15n, pc274_16, pc274_17, pc274_18, pc274_19, pc22_0, pc22_0n, pc22_1, pc22_2, pc22_5, pc22_5n, pc22_6, pc22_6n, pc22_7, pc22_10, pc22_13, pc22_13n, pc22_14, pc22_17, pc22_20, pc22_23, pc22_23r, pc22_28, pc22_28n, pc22_29, pc22_32, pc22_32n, pc22_33, pc22_36, pc22_39, pc22_40, pc22_43, pc22_44, pc22_45, pc22_45n, pc22_46, pc22_46n, pc22_47, pc22_50, pc22_50n, pc22_51, pc22_54, pc22_57, pc22_58, pc22_61, pc22_62, pc22_63, pc22_63n, pc22_65, pc22_65n, pc22_66, pc22_66n, pc22_67, pc22_67n, pc22_69, pc22_69n, pc22_70, pc22_73, pc22_76, pc22_76n, pc22_77, pc22_80, pc23_0, pc23_1, pc23_4, pc23_5, pc23_5n, pc23_6, pc23_9, pc23_10, pc23_13, pc23_16, pc23_16r, pc23_21, pc23_21n, pc23_22, pc23_25, pc23_26, pc23_27n, pc23_27, pc115_0, pc115_0n, pc115_1, pc115_4, pc115_32, pc115_32n, pc115_33, pc115_34, pc115_37, pc115_37n, pc115_38, pc115_38n, pc115_39, pc115_39n, pc115_40, pc115_43, pc115_46, pc115_46n, pc115_47, pc115_47n, pc115_48, pc115_51, pc115_54, pc115_54n, pc115_55, pc115_55n, pc115_56, pc115_59, pc115_60, pc115_60n, pc115_61, pc115_64, pc115_67, px_op_some, px_kv_ap, px_ki_ap, px_kl_ap, px_kn_ap, px_kh_ap, px_op_none, px_K_some, px_K_none, px_K_thr, px_kill, ↓reduceIte, if_true, if_false, true_and, and_true, px_gf, px_pf, px_ai, px_aj, px_aa, px_wi, px_wj, px_wa, px_an, px_cls, yr_0, yr_1, tr_0, tr_1, tr_2, tr_3, px_rf, of_2, of_4, in_02, in_12, in_04, in_14, in_24, in_34, Nat.reduceLeDiff, in_01, lgc_self, Int32.reduceToNatClampNeg, wr_at, al_at, px_wr_len, px_al_len, px_wr_1, px_al_1, tg_0, tg_1, tg_2, tg_3, tg_12, tg_15, tg_17, tg_18, tg_i1, tg_b0, tg_b3, px_fit, Nat.reduceEqDiff, Nat.reduceLT, Nat.reduceAdd, Option.some.injEq, up_at, px_wr_wr, i32_le, Int32.reduceLE, Int32.reduceLT, mf_len, nar_0, nar_1, px_KH_some, px_KH_none, px_KH_thr, List.length_cons, List.length_nil, List.getElem?_cons_zero, List.getElem?_cons_succ, List.set_cons_zero, List.set_cons_succ, ↓reduceIte, Nat.lt_irrefl, ne_0_1, ne_0_2, ne_0_3, ne_0_4, ne_0_5, ne_1_0, ne_1_2, ne_1_3, ne_1_4, ne_1_5, ne_2_0, ne_2_1, ne_2_3, ne_2_4, ne_2_5, ne_3_0, ne_3_1, ne_3_2, ne_3_4, ne_3_5, ne_4_0, ne_4_1, ne_4_2, ne_4_3, ne_4_5, ne_5_0, ne_5_1, ne_5_2, ne_5_3, ne_5_4, hd_256_12, hd_256_16, hd_257_12, hd_258_12, hd_259_12, hd_260_12, hd_261_12, hd_261_13, hd_261_16, hd_262_12, hd_262_13, hd_262_16, hd_263_12, hd_263_13, hd_264_12, hd_264_13, hd_264_14, hd_265_12, hd_265_13, hd_265_14, hd_266_12, hd_267_12, hd_267_13, hd_267_14, hd_268_12, hd_269_12, hd_269_14, hd_270_12, hd_271_12, hd_272_12, hd_273_12, hd_273_13, hd_273_15, hd_274_12, hd_274_15, hd_275_12, hd_275_15, hd_276_12, nI_p1, nI_p2, nI_p3, nI_p4, nI_p5, not_true_eq_false, not_false_eq_true, and_self, mf_0, mf_1, mf_2, mf_3, mf_4, mf_5, mf_6, mf_7, mf_8, mf_9, mf_10, mf_11, mf_12, mf_13, mf_14, mf_15, mf_16, mf_17, mf_18, mf_19, mf_20, mf_21, mf_22, mf_23, mf_24, mf_25, mf_26, mf_27, mf_28, mf_29, mf_30, mf_31, mf_32, mf_33, mf_34, mf_35, mf_36, mf_37, mf_38, mf_39, mf_40, mf_41, mf_42, mf_43, mf_44, mf_45, mf_46, mf_47, mf_48, mf_49, mf_50, mf_51, mf_52, mf_53, mf_54, mf_55, mf_56, mf_57, mf_58, mf_59, mf_60, mf_61, mfs_0, mfs_2, mfs_17, mfs_20, mfs_26, mfs_32, mfs_34, mfs_36, mfs_38, mfs_43, mfs_44, mfs_45, mfs_46, mfs_47, iy_0, iy_1, iy_2, iy_3, iy_4, iy_5, iy_6, at_0 hS, at_1 hS, at_2 hS, at_13 hS, at_24 hS, at_619 hS, shape_1 hS, shape_2 hS, hj, hk, hx, lt_4, t0, t3, i4, c4, htr, hX1, wC1, g0]
    exact main
