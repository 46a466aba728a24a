/-! A TRANSFER'S ANSWER, the reference's -/
set_option maxRecDepth 16384 in
theorem yKeep_congr {S : yS} {b b' : Nat → Int32} {c : Nat} (h : ∀ k, k < c → b k = b' k) : yKeep S b c = yKeep S b' c := by
  unfold yKeep; rw [dig_congr h, recB_congr h]
set_option maxRecDepth 16384 in
theorem keepY_congr {S S' : yS} {b b' : Nat → Int32} {c : Nat} (h : ∀ k, k < c → b k = b' k) (w : keepY S b c S') : keepY S b' c S' := by
  rcases w with ⟨e, k, a1, a2, a3, a4⟩ | ⟨e, a1, a2, a3⟩
  · exact .inl ⟨e, k, a1, by rw [← dig_congr h]; exact a2, a3, fun m hm => by rw [← h m hm]; exact a4 m hm⟩
  · exact .inr ⟨by rw [← yKeep_congr h]; exact e, by rw [← dig_congr h]; exact a1, a2, a3⟩
set_option maxRecDepth 16384 in
theorem keepN_congr {S : yS} {b b' : Nat → Int32} {c : Nat} (h : ∀ k, k < c → b k = b' k) (w : keepN S b c) : keepN S b' c := by
  rcases w with ⟨k, a1, a2, a3⟩ | ⟨a1, a2⟩
  · exact .inl ⟨k, a1, by rw [← dig_congr h]; exact a2, fun z => a3 ⟨z.1, fun m hm => by rw [h m hm]; exact z.2 m hm⟩⟩
  · exact .inr ⟨by rw [← dig_congr h]; exact a1, a2⟩
/-- behind the reference's part of a delivery -/
def mnP (h h' : px_H) (q : Nat) (S' : yS) (V : Nat → Int32) (o m e : Nat → Int32) (w : Nat → Int64) : Prop := frm (fun r => mtA r ∨ ryA r ∨ r = 655 ∨ r = 658 ∨ r = 661 ∨ r = 663) h h' ∧ shape h' ∧ RY h' q S' ∧ (∀ q2 S2, q2 < 2 → q2 ≠ q → WFy S2 → RY h q2 S2 → RY h' q2 S2) ∧ (∃ V', h'.2[619]? = some (.inl (11, modF V')) ∧ ∀ k, k = 0 ∨ k = 2 ∨ k = 44 ∨ k = 45 ∨ k = 46 → V' k = V k) ∧ h'.2[655]? = some (.inr (3, 4, .inl o)) ∧ h'.2[658]? = some (.inr (1, 4, .inl m)) ∧ h'.2[661]? = some (.inr (3, 4, .inl e)) ∧ h'.2[663]? = some (.inr (2, 4, .inr (.inl w)))
section MANS
variable {sx : Nat × (Nat → Int32)} {h : px_H} {t q g : Nat} {S : yS} {V : Nat → Int32} {Q : px_O → px_H → Prop}
set_option maxRecDepth 16384 in
theorem m_finish {z : Int32} (hz : z = 0 ∨ z = 1) (ht : t < 4) {o e : Nat → Int32} (h6 : h.2[619]? = some (.inl (11, modF V))) (h55 : h.2[655]? = some (.inr (3, 4, .inl o))) (h61 : h.2[661]? = some (.inr (3, 4, .inl e))) (hQ : Q (.inl (some (.int 0))) (px_wr (px_wr h 655 (.inr (3, 4, .inl (px_up o t 0)))) 661 (.inr (3, 4, .inl (px_up e t z))))) :
    px_Wp sx 251 0 [some (.ref 619), some (.int (nI t)), some (.int z)] [] h Q := by
  have it : px_in (nI t) 4 = true := px_inb ht (by decide)
  have ct : (nI t).toNatClampNeg = t := nI_clamp (by omega)
  have nz : px_nar 3 z = z := by rcases hz with rfl | rfl <;> rfl
  have n0 : px_nar 3 0 = 0 := rfl
  simp only [pc251_0, pc251_0n, pc251_1, pc251_4, pc251_5, pc251_6, pc251_7, pc251_7n, pc251_8, pc251_11, pc251_12, pc251_13, pc251_14, pc251_15, px_op_some, px_kv_ap, px_ki_ap, px_kl_ap, px_kn_ap, px_kh_ap, px_op_none, px_K_some, px_K_none, px_K_thr, px_kill, ↓reduceIte, if_true, if_false, true_and, and_true, px_gf, px_pf, px_ai, px_aj, px_aa, px_wi, px_wj, px_wa, px_an, px_cls, h6, h55, h61, mf_49, mf_55, tg_b3, it, ct, and_self, nz, n0, wr_at, Nat.reduceEqDiff]
  exact hQ
set_option maxRecDepth 16384 in
theorem mn_fin {h1 : px_H} {V1 o m e : Nat → Int32} {w : Nat → Int64} {S' : yS} {z : Int32} {V0 : Nat → Int32} (u : mnP h h1 q S' V0 o m e w) : mnP h (px_wr (px_wr h1 655 (.inr (3, 4, .inl (px_up o t 0)))) 661 (.inr (3, 4, .inl (px_up e t z)))) q S' V0 (px_up o t 0) m (px_up e t z) w := by
  obtain ⟨a1, a2, a3, a4, ⟨V', a5, a6⟩, a7, a8, a9, a10⟩ := u
  have hl := a2.1
  have s1 := shape_ia (g := px_up o t 0) a2 a7
  have r9 : (px_wr h1 655 (.inr (3, 4, .inl (px_up o t 0)))).2[661]? = some (.inr (3, 4, .inl e)) := by rw [wr_at, if_neg (by decide)]; exact a9
  refine ⟨frm_wr (frm_wr a1 (.inr (.inr (.inl rfl)))) (.inr (.inr (.inr (.inr (.inl rfl))))), shape_ia s1 r9, RY_frm a3 (fun r hr hr' => by rw [wr_at, if_neg (by omega), wr_at, if_neg (by omega)]), fun q2 S2 b1 b2 b3 b4 => RY_frm (a4 q2 S2 b1 b2 b3 b4) (fun r hr hr' => by rw [wr_at, if_neg (by omega), wr_at, if_neg (by omega)]), ⟨V', by rw [wr_at, if_neg (by decide), wr_at, if_neg (by decide)]; exact a5, a6⟩, by rw [wr_at, if_neg (by decide), wr_at, if_pos rfl, if_pos (by omega)], by rw [wr_at, if_neg (by decide), wr_at, if_neg (by decide)]; exact a8, by rw [wr_at, if_pos rfl, if_pos (by rw [px_wr_len]; omega)], by rw [wr_at, if_neg (by decide), wr_at, if_neg (by decide)]; exact a10⟩
set_option maxRecDepth 16384 in
theorem mn_msg {h1 : px_H} {o m e m' : Nat → Int32} {w : Nat → Int64} {S' : yS} {V0 : Nat → Int32} (u : mnP h h1 q S' V0 o m e w) : mnP h (px_wr h1 658 (.inr (1, 4, .inl m'))) q S' V0 o m' e w := by
  obtain ⟨a1, a2, a3, a4, ⟨V', a5, a6⟩, a7, a8, a9, a10⟩ := u
  have hl := a2.1
  exact ⟨frm_wr a1 (.inr (.inr (.inr (.inl rfl)))), shape_ia a2 a8, RY_frm a3 (fun r hr hr' => by rw [wr_at, if_neg (by omega)]), fun q2 S2 b1 b2 b3 b4 => RY_frm (a4 q2 S2 b1 b2 b3 b4) (fun r hr hr' => by rw [wr_at, if_neg (by omega)]), ⟨V', by rw [wr_at, if_neg (by decide)]; exact a5, a6⟩, by rw [wr_at, if_neg (by decide)]; exact a7, by rw [wr_at, if_pos rfl, if_pos (by omega)], by rw [wr_at, if_neg (by decide)]; exact a9, by rw [wr_at, if_neg (by decide)]; exact a10⟩
set_option maxRecDepth 16384 in
theorem mn_want {h1 : px_H} {o m e : Nat → Int32} {w w' : Nat → Int64} {S' : yS} {V0 : Nat → Int32} (u : mnP h h1 q S' V0 o m e w) : mnP h (px_wr h1 663 (.inr (2, 4, .inr (.inl w')))) q S' V0 o m e w' := by
  obtain ⟨a1, a2, a3, a4, ⟨V', a5, a6⟩, a7, a8, a9, a10⟩ := u
  have hl := a2.1
  exact ⟨frm_wr a1 (.inr (.inr (.inr (.inr (.inr rfl))))), shape_la a2 a10, RY_frm a3 (fun r hr hr' => by rw [wr_at, if_neg (by omega)]), fun q2 S2 b1 b2 b3 b4 => RY_frm (a4 q2 S2 b1 b2 b3 b4) (fun r hr hr' => by rw [wr_at, if_neg (by omega)]), ⟨V', by rw [wr_at, if_neg (by decide)]; exact a5, a6⟩, by rw [wr_at, if_neg (by decide)]; exact a7, by rw [wr_at, if_neg (by decide)]; exact a8, by rw [wr_at, if_neg (by decide)]; exact a9, by rw [wr_at, if_pos rfl, if_pos (by omega)]⟩
set_option maxRecDepth 16384 in
theorem sub_1 {g : Nat} (hg : g < 2) : 1 - nI g = nI (1 - g) := by
  match g, hg with
  | 0, _ => rfl
  | 1, _ => rfl
/-! bytes out of an array into the row -/
set_option maxRecDepth 16384 in
theorem m_emit_l {h1 : px_H} {V1 row0 d bb : Nat → Int32} {l t : Nat} {l2 : Int32} (hl1 : 668 < h1.2.length) (ht : t < 4) (h64 : h1.2[664]? = some (.inr (1, 1200, .inl d))) {sz : Nat → Int32} (h65 : h1.2[665]? = some (.inr (1, 4, .inl sz))) (hsz : sz t = nI l) (hl : l ≤ 231) (hd : ∀ m, m < l → d (300 * t + m) &&& 255 = bb m)
    (hQ : ∀ row', wroteM row0 row' 0 bb l → px_Wp sx 250 112 [some (.ref 619), some (.int (nI t)), some (.int l2), some (.int (nI l)), none] [] (outH h1 (px_up V1 17 (nI l)) row') Q) :
    ∀ n m, m + n = l → ∀ row, wroteM row0 row 0 bb m → px_Wp sx 250 80 [some (.ref 619), some (.int (nI t)), some (.int l2), some (.int (nI m)), none] [] (outH h1 (px_up V1 17 (nI m)) row) Q := by
  have it : px_in (nI t) 4 = true := px_inb ht (by decide)
  have ct : (nI t).toNatClampNeg = t := nI_clamp (by omega)
  have r64 : ∀ v r, (outH h1 v r).2[664]? = some (.inr (1, 1200, .inl d)) := fun v r => by rw [outH_at (by decide) (by decide)]; exact h64
  have r65 : ∀ v r, (outH h1 v r).2[665]? = some (.inr (1, 4, .inl sz)) := fun v r => by rw [outH_at (by decide) (by decide)]; exact h65
  have r6 : ∀ v r, (outH h1 v r).2[619]? = some (.inl (11, modF v)) := fun v r => outH_o (by omega)
  have hc : ∀ v r, px_cls (outH h1 v r) 619 = some 11 := fun v r => by unfold px_cls; rw [r6]
  intro n
  induction n with
  | zero =>
    intro m hm row w
    have hm : m = l := by omega
    subst hm
    simp only [pc250_80, pc250_81, pc250_81n, pc250_82, pc250_85, pc250_86, pc250_87, px_op_some, px_kv_ap, px_ki_ap, px_kl_ap, px_kn_ap, px_kh_ap, px_op_none, px_K_some, px_K_none, px_K_thr, px_kill, ↓reduceIte, if_true, if_false, true_and, and_true, px_gf, px_ai, tg_i1, r6, r65, mf_59, it, ct, hsz, and_self, if_pos (Int32.le_refl (nI m))]
    exact hQ row w
  | succ n ih =>
    intro m hm row w
    have hge : ¬ nI l ≤ nI m := nI_ge (by omega) (by omega)
    have im : px_in (nI (300 * t + m)) 1200 = true := px_inb (by omega) (by decide)
    have cm : (nI (300 * t + m)).toNatClampNeg = 300 * t + m := nI_clamp (by omega)
    rw [pc250_80]
    simp only [pc250_81, pc250_81n, pc250_82, pc250_85, pc250_86, pc250_87, pc250_90, pc250_90n, pc250_91, pc250_91n, pc250_92, pc250_95, pc250_98, pc250_99, pc250_100, pc250_101, pc250_102, pc250_103, px_op_some, px_kv_ap, px_ki_ap, px_kl_ap, px_kn_ap, px_kh_ap, px_op_none, px_K_some, px_K_none, px_K_thr, px_kill, ↓reduceIte, if_true, if_false, true_and, and_true, px_gf, px_ai, tg_i1, r6, r64, r65, mf_58, mf_59, it, ct, hsz, and_self, if_neg hge, mul_300 ht, nI_add, im, cm, hc]
    refine m_emit (by omega) (up_same _ _ _) (by omega) ?_
    simp only [px_K_none, pc250_106, pc250_109, px_kill, nI_1, up_up]
    refine ih (m + 1) (by omega) _ ?_
    have := wroteM_up (x := d (300 * t + m) &&& 255) w (hd m (by omega))
    rw [Nat.zero_add] at this
    exact this
set_option maxRecDepth 16384 in
theorem m_answer {bb : Nat → Int32} {l nl ns th : Nat} {pos na nv : Nat → Nat} (hS : shape h) (h6 : h.2[619]? = some (.inl (11, modF V))) (ht : t < 4) (hg : g < 2) (hgv : iA h 656 t = nI g) (hth : iA h 657 t = nI th) (ht8 : th < 8) (hsz : iA h 665 t = nI l) (hb : ∀ m, m < l → iA h 664 (300 * t + m) = bb m) (hb2 : ∀ m, m < l → bb m &&& 255 = bb m) (ok : imgOK bb l nl ns pos na nv) (hw : WFy S) (ry : RY h (1 - g) S)
    (hW : ∀ j h', j < nl → (∀ j', j' < j → hasD S (layB bb j')) → ¬ hasD S (layB bb j) → mnP h h' (1 - g) S V (iA h 655) (px_up (iA h 658) t 2) (iA h 661) (px_up (lA h 663) t (layB bb j)) → Q (.inl (some (.int 2))) h')
    (hN : ∀ h', (∀ j, j < nl → hasD S (layB bb j)) → keepN S bb l → mnP h h' (1 - g) S V (px_up (iA h 655) t 0) (iA h 658) (px_up (iA h 661) t 0) (lA h 663) → Q (.inl (some (.int 0))) h')
    (hN2 : ∀ S' h', (∀ j, j < nl → hasD S (layB bb j)) → keepY S bb l S' → tellN S' th (dig bb l) → mnP h h' (1 - g) S' V (px_up (iA h 655) t 0) (iA h 658) (px_up (iA h 661) t 0) (lA h 663) → Q (.inl (some (.int 0))) h')
    (hD : ∀ S' S'' h', (∀ j, j < nl → hasD S (layB bb j)) → keepY S bb l S' → tellY S' th (dig bb l) S'' → mnP h h' (1 - g) S'' V (iA h 655) (px_up (iA h 658) t 4) (iA h 661) (lA h 663) → Q (.inl (some (.int 4))) h') :
    px_Wp sx 250 0 [some (.ref 619), some (.int (nI t)), none, none, none] [] h Q := by
  have hl := hS.1
  have l231 := img_len ok
  have k1 := ok.1
  have hq : 1 - g < 2 := by omega
  have it : px_in (nI t) 4 = true := px_inb ht (by decide)
  have ct : (nI t).toNatClampNeg = t := nI_clamp (by omega)
  have hc6 : px_cls h 619 = some 11 := by unfold px_cls; rw [h6]
  simp only [pc250_0, pc250_1, pc250_1n, pc250_2, pc250_5, pc250_6, pc250_7, pc250_8, pc250_9, pc250_9n, pc250_10, pc250_10n, pc250_11, pc250_14, pc250_17, pc250_18, pc250_19, px_op_some, px_kv_ap, px_ki_ap, px_kl_ap, px_kn_ap, px_kh_ap, px_op_none, px_K_some, px_K_none, px_K_thr, px_kill, ↓reduceIte, if_true, if_false, true_and, and_true, px_gf, px_ai, tg_i1, h6, at_656 hS, mf_50, mf_58, it, ct, hgv, and_self, sub_1 hg, mul_300 ht, hc6]
  refine m_takeImage (p := 300 * t) (bb := bb) (at_664 hS) (fun z => by unfold mtA at z; omega) (by decide) ok hb (by omega) h6 (at_649 hS) (at_650 hS) (at_651 hS) (at_652 hS) (at_653 hS) (fun h1 tm => ?_)
  obtain ⟨L, NM, NS, VL, VS, ⟨b1, b2, b3, bL, -⟩, x1, -⟩ := tm
  have s1 := b2 hS
  have nm : ∀ r, 620 ≤ r → ¬ (649 ≤ r ∧ r ≤ 653) → ¬ mtA r := fun r hr hr' z => by unfold mtA at z; omega
  have z : ∀ {r : Nat} {x : px_C}, h.2[r]? = some x → 620 ≤ r → ¬ (649 ≤ r ∧ r ≤ 653) → h1.2[r]? = some x := fun e p1 p2 => frm_at b1 (nm _ p1 p2) e
  have ry1 : RY h1 (1 - g) S := RY_frm ry (fun r hr hr' => b1.2.2 r (nm r (by omega) (by omega)))
  have ro1 : ∀ q2 S2, q2 < 2 → q2 ≠ 1 - g → WFy S2 → RY h q2 S2 → RY h1 q2 S2 := fun q2 S2 _ _ _ y => RY_frm y (fun r hr hr' => b1.2.2 r (nm r (by omega) (by omega)))
  have u1 : mnP h h1 (1 - g) S V (iA h 655) (iA h 658) (iA h 661) (lA h 663) := ⟨frm_mono b1 (fun r y => .inl y), s1, ry1, ro1, ⟨_, b3, fun k hk => by rw [up_ne (by omega), up_ne (by omega)]⟩, z (at_655 hS) (by decide) (by decide), z (at_658 hS) (by decide) (by decide), z (at_661 hS) (by decide) (by decide), z (at_663 hS) (by decide) (by decide)⟩
  have hc61 : px_cls h1 619 = some 11 := by unfold px_cls; rw [b3]
  have lp : ∀ m j, j + m = nl → (∀ j', j' < j → hasD S (layB bb j')) → px_Wp sx 250 24 [some (.ref 619), some (.int (nI t)), some (.int (nI (1 - g))), some (.int (nI j)), none] [] h1 Q := by
    intro m
    induction m with
    | zero =>
      intro j hj hp
      have hj : j = nl := by omega
      subst hj
      have e0 : px_wr h1 619 (.inl (11, modF (px_up (px_up (px_up V 36 (nI j)) 38 (nI ns)) 17 0))) = outH h1 (px_up (px_up (px_up V 36 (nI j)) 38 (nI ns)) 17 0) (iA h 636) := (outH_w (z (at_636 hS) (by decide) (by decide))).symm
      simp only [pc250_24, pc250_25, pc250_25n, pc250_26, pc250_29, pc250_73, pc250_73n, pc250_74, pc250_75, pc250_78, pc250_79, px_op_some, px_kv_ap, px_ki_ap, px_kl_ap, px_kn_ap, px_kh_ap, px_op_none, px_K_some, px_K_none, px_K_thr, px_kill, ↓reduceIte, if_true, if_false, true_and, and_true, px_gf, px_pf, b3, mf_36, mf_len, mfs_17, up_at, Nat.reduceEqDiff, if_pos (Int32.le_refl (nI j)), px_fit, Nat.reduceLT, and_self, e0, px_kill]
      have l1 := s1.1
      refine m_emit_l (V1 := px_up (px_up V 36 (nI j)) 38 (nI ns)) (row0 := iA h 636) (bb := bb) (by omega) ht (z (at_664 hS) (by decide) (by decide)) (z (at_665 hS) (by decide) (by decide)) hsz l231 (fun m hm => by rw [hb m hm]; exact hb2 m hm) (fun row' wr => ?_) l 0 (by omega) _ (wroteM_0 _ _ _)
      have er : ∀ m, m < l → row' m = bb m := fun m hm => by have := wr.2 m hm; rw [Nat.zero_add] at this; exact this
      have o6 : (outH h1 (px_up (px_up (px_up V 36 (nI j)) 38 (nI ns)) 17 (nI l)) row').2[619]? = _ := outH_o (by omega)
      have oR : (outH h1 (px_up (px_up (px_up V 36 (nI j)) 38 (nI ns)) 17 (nI l)) row').2[636]? = _ := outH_r (by omega)
      have oo : ∀ r, 636 ≠ r → 619 ≠ r → (outH h1 (px_up (px_up (px_up V 36 (nI j)) 38 (nI ns)) 17 (nI l)) row').2[r]? = h1.2[r]? := fun r p1 p2 => outH_at p1 p2
      have s2 : shape (outH h1 (px_up (px_up (px_up V 36 (nI j)) 38 (nI ns)) 17 (nI l)) row') := by
        unfold outH; exact shape_wr (shape_wr s1 rfl) rfl
      have f2 : frm (fun r => mtA r ∨ ryA r ∨ r = 655 ∨ r = 658 ∨ r = 661 ∨ r = 663) h (outH h1 (px_up (px_up (px_up V 36 (nI j)) 38 (nI ns)) 17 (nI l)) row') := by
        unfold outH; exact frm_wr (frm_wr u1.1 (.inr (.inl (.inr (.inl rfl))))) (.inl (.inl rfl))
      generalize outH h1 (px_up (px_up (px_up V 36 (nI j)) 38 (nI ns)) 17 (nI l)) row' = H at o6 oR oo s2 f2 ⊢
      have u2 : mnP h H (1 - g) S V (iA h 655) (iA h 658) (iA h 661) (lA h 663) := ⟨f2, s2, RY_frm ry1 (fun r hr hr' => oo r (by omega) (by omega)), fun q2 S2 c1 c2 c3 c4 => RY_frm (ro1 q2 S2 c1 c2 c3 c4) (fun r hr hr' => oo r (by omega) (by omega)), ⟨_, o6, fun k hk => by rw [up_ne (by omega), up_ne (by omega), up_ne (by omega)]⟩, (oo _ (by decide) (by decide)).trans u1.2.2.2.2.2.1, (oo _ (by decide) (by decide)).trans u1.2.2.2.2.2.2.1, (oo _ (by decide) (by decide)).trans u1.2.2.2.2.2.2.2.1, (oo _ (by decide) (by decide)).trans u1.2.2.2.2.2.2.2.2⟩
      have hcH : px_cls H 619 = some 11 := by unfold px_cls; rw [o6]
      simp only [pc250_112, pc250_112n, pc250_113, hcH, true_and]
      refine m_digest o6 oR (up_same _ _ _) (by omega) ?_
      rw [dig_congr er]
      simp only [px_K_some, pc250_116, pc250_117, pc250_117n, pc250_118, pc250_119, px_kill, hcH, true_and]
      refine ry_keep2 (c := l) s2 hw hq u2.2.2.1 o6 (up_same _ _ _) (by omega) oR (fun m hm => by rw [er m hm]; exact hb2 m hm) (fun S' h3 ky ry3 ro3 f3 s3 => ?_) (fun kn => ?_)
      · have ky' := keepY_congr er ky
        have g3 : ∀ {r : Nat} {x : px_C}, ¬ (621 ≤ r ∧ r ≤ 633) → H.2[r]? = some x → h3.2[r]? = some x := fun p1 e => frm_at f3 p1 e
        have o63 := g3 (by omega) o6
        have h57 := g3 (by omega) ((oo 657 (by decide) (by decide)).trans (z (at_657 hS) (by decide) (by decide)))
        have hc3 : px_cls h3 619 = some 11 := by unfold px_cls; rw [o63]
        have u3 : mnP h h3 (1 - g) S' V (iA h 655) (iA h 658) (iA h 661) (lA h 663) := ⟨frm_trans u2.1 (frm_mono f3 (fun r y => .inr (.inl (.inr (.inr ⟨y.1, by have := y.2; omega⟩))))), s3, ry3, fun q2 S2 c1 c2 c3 c4 => ro3 q2 S2 c1 c2 c3 (u2.2.2.2.1 q2 S2 c1 c2 c3 c4), ⟨_, o63, fun k hk => by rw [up_ne (by omega), up_ne (by omega), up_ne (by omega)]⟩, g3 (by omega) u2.2.2.2.2.2.1, g3 (by omega) u2.2.2.2.2.2.2.1, g3 (by omega) u2.2.2.2.2.2.2.2.1, g3 (by omega) u2.2.2.2.2.2.2.2.2⟩
        have hw' := WF_keep hw hb2 ky'
        simp only [px_K_some, pc250_122, pc250_125, pc250_125n, pc250_126, pc250_127, pc250_127n, pc250_128, pc250_131, pc250_132, pc250_133, pc250_134, px_op_some, px_kv_ap, px_ki_ap, px_kl_ap, px_kn_ap, px_kh_ap, px_op_none, px_K_some, px_K_none, px_K_thr, px_kill, ↓reduceIte, if_true, if_false, true_and, and_true, px_gf, px_ai, tg_i1, o63, h57, mf_51, it, ct, hth, and_self, ne_1_0, hc3]
        refine ry_tell2 s3 hw' hq ht8 ry3 o63 (fun S'' h4 V4 ty ry4 ro4 f4 s4 o64 vs => ?_) (fun tn => ?_)
        · have g4 : ∀ {r : Nat} {x : px_C}, ¬ ryA r → h3.2[r]? = some x → h4.2[r]? = some x := fun p1 e => frm_at f4 p1 e
          have h58 := g4 (fun y => by unfold ryA at y; omega) u3.2.2.2.2.2.2.1
          have u4 : mnP h h4 (1 - g) S'' V (iA h 655) (iA h 658) (iA h 661) (lA h 663) := ⟨frm_trans u3.1 (frm_mono f4 (fun r y => .inr (.inl y))), s4, ry4, fun q2 S2 c1 c2 c3 c4 => ro4 q2 S2 c1 c2 c3 (u3.2.2.2.1 q2 S2 c1 c2 c3 c4), ⟨V4, o64, fun k hk => by rw [vs k (by omega), up_ne (by omega), up_ne (by omega), up_ne (by omega)]⟩, g4 (fun y => by unfold ryA at y; omega) u3.2.2.2.2.2.1, h58, g4 (fun y => by unfold ryA at y; omega) u3.2.2.2.2.2.2.2.1, g4 (fun y => by unfold ryA at y; omega) u3.2.2.2.2.2.2.2.2⟩
          have n1 : ∀ x : Int32, px_nar 1 x = x := fun _ => rfl
          simp only [px_K_some, pc250_137, pc250_147, pc250_147n, pc250_148, pc250_151, pc250_152, pc250_153, pc250_154, pc250_155, px_op_some, px_kv_ap, px_ki_ap, px_kl_ap, px_kn_ap, px_kh_ap, px_op_none, px_K_some, px_K_none, px_K_thr, px_kill, ↓reduceIte, if_true, if_false, true_and, and_true, px_gf, px_pf, px_ai, px_aj, px_aa, px_wi, px_wj, px_wa, px_an, px_cls, o64, h58, mf_52, tg_i1, it, ct, and_self, ne_1_0, not_false_eq_true, n1]
          exact hD S' S'' _ hp ky' ty (mn_msg u4)
        · simp only [px_K_some, pc250_137, pc250_140, pc250_140n, pc250_141, pc250_142, pc250_143, not_true_eq_false, if_false, hc3, true_and]
          refine m_finish (.inl rfl) ht o63 u3.2.2.2.2.2.1 u3.2.2.2.2.2.2.2.1 ?_
          simp only [px_K_some, pc250_146]
          exact hN2 S' _ hp ky' tn (mn_fin (V1 := V) u3)
      · simp only [px_K_some, pc250_122, pc250_140, pc250_140n, pc250_141, pc250_142, pc250_143, if_true, hcH, true_and]
        refine m_finish (.inl rfl) ht o6 u2.2.2.2.2.2.1 u2.2.2.2.2.2.2.2.1 ?_
        simp only [px_K_some, pc250_146]
        exact hN _ hp (keepN_congr er kn) (mn_fin (V1 := V) u2)
    | succ m ih =>
      intro j hj hp
      have hge : ¬ nI nl ≤ nI j := nI_ge (by omega) (by omega)
      have ij : px_in (nI j) 13 = true := px_inb (by omega) (by decide)
      have cj : (nI j).toNatClampNeg = j := nI_clamp (by omega)
      have eL := x1 j (by omega)
      obtain ⟨-, -, -, ⟨bl, d1, d2⟩, ⟨D, e1, e2⟩, -⟩ := ry1
      rw [pc250_24]
      simp only [pc250_25, pc250_25n, pc250_26, pc250_29, pc250_32, pc250_32n, pc250_33, pc250_34, pc250_34n, pc250_35, pc250_38, pc250_39, pc250_40, px_op_some, px_kv_ap, px_ki_ap, px_kl_ap, px_kn_ap, px_kh_ap, px_op_none, px_K_some, px_K_none, px_K_thr, px_kill, ↓reduceIte, if_true, if_false, true_and, and_true, px_gf, px_aj, b3, bL, mf_36, mf_37, up_at, Nat.reduceEqDiff, if_neg hge, ij, cj, and_self, eL, hc61]
      refine m_find hq hw.2.2.1 d2 b3 d1 e1 (fun v hv => ?_)
      have n1 : ∀ x : Int32, px_nar 1 x = x := fun _ => rfl
      rcases hv with ⟨rfl, hno⟩ | ⟨p, hpB, rfl, hpd, -⟩
      · have m0 : ((0 : Int32) ≤ -1) = False := by decide
        simp only [px_K_some, pc250_43, pc250_46, pc250_46n, pc250_47, pc250_50, pc250_51, pc250_51n, pc250_52, pc250_55, pc250_56, pc250_57, pc250_58, pc250_58n, pc250_59, pc250_62, pc250_63, pc250_64, pc250_65, pc250_66, px_op_some, px_kv_ap, px_ki_ap, px_kl_ap, px_kn_ap, px_kh_ap, px_op_none, px_K_some, px_K_none, px_K_thr, px_kill, ↓reduceIte, if_true, if_false, true_and, and_true, px_gf, px_pf, px_ai, px_aj, px_aa, px_wi, px_wj, px_wa, px_an, px_cls, m0, b3, bL, u1.2.2.2.2.2.2.1, u1.2.2.2.2.2.2.2.2, mf_57, mf_37, mf_52, tg_i1, it, ct, ij, cj, and_self, eL, wr_at, Nat.reduceEqDiff, n1]
        exact hW j _ (by omega) hp (fun ⟨p, hpB, e⟩ => hno p hpB ((e2 p hpB).trans e)) (mn_msg (mn_want u1))
      · have k0 : (0 : Int32) ≤ nI p := nI_le (a := 0) (by omega) (by have := hw.2.2.1; omega)
        simp only [px_K_some, pc250_43, pc250_67, pc250_70, if_pos k0, px_kill, nI_1]
        refine ih (j + 1) (by omega) (fun j' hj' => ?_)
        by_cases y : j' = j
        · rw [y]; exact ⟨p, hpB, (e2 p hpB).symm.trans hpd⟩
        · exact hp j' (by omega)
  simp only [px_K_none, pc250_22, pc250_23, px_kill]
  exact lp nl 0 (by omega) (fun j' hj' => absurd hj' (by omega))
end MANS
