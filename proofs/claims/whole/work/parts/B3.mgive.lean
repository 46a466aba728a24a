/-! A BLOB GIVEN, TAKEN: the reference's -/
set_option maxRecDepth 16384 in
theorem mul_6000 {t : Nat} (ht : t < 4) : 6000 * nI t = nI (6000 * t) := by
  have : t = 0 ∨ t = 1 ∨ t = 2 ∨ t = 3 := by omega
  rcases this with rfl | rfl | rfl | rfl <;> rfl
section MGIVE
variable {sx : Nat × (Nat → Int32)} {h : px_H} {t g : Nat} {S : yS} {V : Nat → Int32} {Q : px_O → px_H → Prop}
set_option maxRecDepth 16384 in
theorem m_giv_l {h1 : px_H} {V1 o0 row bb : Nat → Int32} {l : Nat} {l2 : Int32} (ht : t < 4) (hl6 : 668 < h1.2.length) (h6 : h1.2[619]? = some (.inl (11, modF V1))) (hv : V1 17 = nI l) (hr : h1.2[636]? = some (.inr (1, 40100, .inl row))) (hl : l ≤ 4120) (hb : ∀ m, m < l → row m = bb m)
    (hQ : ∀ o, wroteM o0 o (6000 * t) bb l → px_Wp sx 252 83 [some (.ref 619), some (.int (nI t)), some (.int l2), some (.int (nI l))] [] (px_wr h1 666 (.inr (1, 24000, .inl o))) Q) :
    ∀ n m, m + n = l → ∀ o, wroteM o0 o (6000 * t) bb m → px_Wp sx 252 51 [some (.ref 619), some (.int (nI t)), some (.int l2), some (.int (nI m))] [] (px_wr h1 666 (.inr (1, 24000, .inl o))) Q := by
  have n1 : ∀ x : Int32, px_nar 1 x = x := fun _ => rfl
  have r : ∀ o k, 666 ≠ k → (px_wr h1 666 (.inr (1, 24000, .inl o))).2[k]? = h1.2[k]? := fun o k hk => by rw [wr_at, if_neg hk]
  have r6 := fun o => (r o 619 (by decide)).trans h6
  have rr := fun o => (r o 636 (by decide)).trans hr
  have ro : ∀ o : Nat → Int32, (px_wr h1 666 (.inr (1, 24000, .inl o))).2[666]? = some (.inr (1, 24000, .inl o)) := fun o => by rw [wr_at, if_pos rfl, if_pos (by omega)]
  intro n
  induction n with
  | zero =>
    intro m hm o w
    have hm : m = l := by omega
    subst hm
    simp only [pc252_51, pc252_52, pc252_52n, pc252_53, pc252_56, px_gf, r6, mf_17, hv, if_true, px_op_some, px_kv_ap, px_ki_ap, px_kl_ap, px_kn_ap, px_kh_ap, if_pos (Int32.le_refl (nI m))]
    exact hQ o w
  | succ n ih =>
    intro m hm o w
    have hge : ¬ nI l ≤ nI m := nI_ge (by omega) (by omega)
    have im : px_in (nI m) 40100 = true := px_inb (by omega) (by decide)
    have cm : (nI m).toNatClampNeg = m := nI_clamp (by omega)
    have io : px_in (nI (6000 * t + m)) 24000 = true := px_inb (by omega) (by decide)
    have co : (nI (6000 * t + m)).toNatClampNeg = 6000 * t + m := nI_clamp (by omega)
    rw [pc252_51]
    simp only [pc252_52, pc252_52n, pc252_53, pc252_56, pc252_59, pc252_59n, pc252_60, pc252_63, pc252_66, pc252_67, pc252_68, pc252_69, pc252_70, pc252_70n, pc252_71, pc252_74, pc252_75, pc252_76, pc252_77, pc252_80, px_op_some, px_kv_ap, px_ki_ap, px_kl_ap, px_kn_ap, px_kh_ap, px_op_none, px_K_some, px_K_none, px_K_thr, px_kill, ↓reduceIte, if_true, if_false, true_and, and_true, px_gf, px_pf, px_ai, px_aj, px_aa, px_wi, px_wj, px_wa, px_an, px_cls, tg_i1, r6, rr, ro, mf_17, mf_19, mf_60, hv, if_neg hge, mul_6000 ht, nI_add, im, cm, io, co, and_self, n1, px_wr_wr, hb m (by omega), nI_1]
    exact ih (m + 1) (by omega) _ (wroteM_up w rfl)
/-- the heap when a blob is under way -/
def givH (h : px_H) (t l : Nat) (V row o : Nat → Int32) : px_H := px_wr (px_wr (px_wr (px_wr (outH h V row) 667 (.inr (1, 4, .inl (px_up (iA h 667) t (nI l))))) 666 (.inr (1, 24000, .inl o))) 660 (.inr (1, 4, .inl (px_up (iA h 660) t (iA h 660 t + 1))))) 658 (.inr (1, 4, .inl (px_up (iA h 658) t 3)))
set_option maxRecDepth 16384 in
theorem m_give (hS : shape h) (h6 : h.2[619]? = some (.inl (11, modF V))) (ht : t < 4) (hg : g < 2) (hgv : iA h 656 t = nI g) (hw : WFy S) (ry : RY h g S) (hl4 : ∀ p, p < yB S → yL S p ≤ 4120)
    (hN : ¬ hasD S (lA h 663 t) → Q (.inl (some (.int 0))) (px_wr (px_wr h 655 (.inr (3, 4, .inl (px_up (iA h 655) t 0)))) 661 (.inr (3, 4, .inl (px_up (iA h 661) t 0)))))
    (hY : ∀ p row' o, p < yB S → yD S p = lA h 663 t → wroteM (iA h 666) o (6000 * t) (fun m => yJ S (yP S p + m)) (yL S p) → Q (.inl (some (.int 3))) (givH h t (yL S p) (px_up V 17 (nI (yL S p))) row' o)) :
    px_Wp sx 252 0 [some (.ref 619), some (.int (nI t)), none, none] [] h Q := by
  have hl := hS.1
  have it : px_in (nI t) 4 = true := px_inb ht (by decide)
  have ct : (nI t).toNatClampNeg = t := nI_clamp (by omega)
  have hc6 : px_cls h 619 = some 11 := by unfold px_cls; rw [h6]
  have n1 : ∀ x : Int32, px_nar 1 x = x := fun _ => rfl
  obtain ⟨-, -, -, ⟨bl, d1, d2⟩, ⟨D, e1, e2⟩, ⟨fr, sz, bt, us, U, f1, f2, f3, f4, f5, f6, f7⟩, -⟩ := ry
  have hB := hw.2.2.1
  simp only [pc252_0, pc252_0n, pc252_1, pc252_1n, pc252_2, pc252_5, pc252_6, pc252_7, pc252_7n, pc252_8, pc252_11, pc252_12, pc252_13, px_op_some, px_kv_ap, px_ki_ap, px_kl_ap, px_kn_ap, px_kh_ap, px_op_none, px_K_some, px_K_none, px_K_thr, px_kill, ↓reduceIte, if_true, if_false, true_and, and_true, px_gf, px_pf, px_ai, px_aj, px_aa, px_wi, px_wj, px_wa, px_an, px_cls, tg_i1, h6, at_656 hS, at_663 hS, mf_50, mf_57, it, ct, hgv, and_self]
  refine m_find hg hB d2 h6 d1 e1 (fun v hv => ?_)
  rcases hv with ⟨rfl, hno⟩ | ⟨p, hp, rfl, hpd, -⟩
  · have m0 : ((0 : Int32) ≤ -1) = False := by decide
    simp only [px_K_some, pc252_16, pc252_17, pc252_18, pc252_21, pc252_21n, pc252_22, pc252_23, pc252_24, px_kill, m0, if_false, hc6, true_and]
    refine m_finish (.inl rfl) ht h6 (at_655 hS) (at_661 hS) ?_
    simp only [px_K_some, pc252_27]
    exact hN (fun ⟨p, hp, e⟩ => hno p hp ((e2 p hp).trans e))
  · have k0 : (0 : Int32) ≤ nI p := nI_le (a := 0) (by omega) (by omega)
    obtain ⟨x1, u0, x2, x3, x4⟩ := f7 p hp
    have v6 := hw.2.2.2.2.2.1 p hp
    have v7 := hw.2.2.2.2.2.2
    have v1 := hw.1
    simp only [px_K_some, pc252_16, pc252_17, pc252_18, pc252_28, pc252_28n, pc252_29, pc252_29n, pc252_30, pc252_33, pc252_34, pc252_35, pc252_36, px_op_some, px_kv_ap, px_ki_ap, px_kl_ap, px_kn_ap, px_kh_ap, px_op_none, px_K_some, px_K_none, px_K_thr, px_kill, ↓reduceIte, if_true, if_false, true_and, and_true, px_gf, px_pf, px_ai, px_aj, px_aa, px_wi, px_wj, px_wa, px_an, px_cls, tg_i1, px_kill, if_pos k0, h6, at_656 hS, mf_50, it, ct, hgv, and_self]
    refine m_rowFromBlob (u := u0) (l := yL S p) (bb := fun m => yJ S (yP S p + m)) (by omega) hg (by omega) h6 (at_636 hS) f1 f2 f3 x2 x1 (by omega) (fun m hm => by rw [x4 m hm]; exact v7 _ (by omega)) (fun row' w => ?_)
    have hq := fun o => hY p row' o hp ((e2 p hp).symm.trans hpd)
    unfold givH at hq
    have y6 : (outH h (px_up V 17 (nI (yL S p))) row').2[619]? = _ := outH_o (by omega)
    have yr : (outH h (px_up V 17 (nI (yL S p))) row').2[636]? = _ := outH_r (by omega)
    have yo : ∀ {r : Nat} {x : px_C}, h.2[r]? = some x → 636 ≠ r → 619 ≠ r → (outH h (px_up V 17 (nI (yL S p))) row').2[r]? = some x := fun e p1 p2 => by rw [outH_at p1 p2]; exact e
    have yl : (outH h (px_up V 17 (nI (yL S p))) row').2.length = h.2.length := outH_len
    have y67 := yo (at_667 hS) (by decide) (by decide)
    have y66 := yo (at_666 hS) (by decide) (by decide)
    have y60 := yo (at_660 hS) (by decide) (by decide)
    have y58 := yo (at_658 hS) (by decide) (by decide)
    generalize outH h (px_up V 17 (nI (yL S p))) row' = H at y6 yr yl y67 y66 y60 y58 hq ⊢
    simp only [px_K_none, pc252_39, pc252_39n, pc252_40, pc252_43, pc252_44, pc252_44n, pc252_45, pc252_48, pc252_49, pc252_50, px_op_some, px_kv_ap, px_ki_ap, px_kl_ap, px_kn_ap, px_kh_ap, px_op_none, px_K_some, px_K_none, px_K_thr, px_kill, ↓reduceIte, if_true, if_false, true_and, and_true, px_gf, px_pf, px_ai, px_aj, px_aa, px_wi, px_wj, px_wa, px_an, px_cls, tg_i1, y6, y67, mf_61, mf_17, up_same, it, ct, and_self, n1]
    have e1 : px_wr H 667 (.inr (1, 4, .inl (px_up (iA h 667) t (nI (yL S p))))) = px_wr (px_wr H 667 (.inr (1, 4, .inl (px_up (iA h 667) t (nI (yL S p)))))) 666 (.inr (1, 24000, .inl (iA h 666))) := (wr_id (by rw [wr_at, if_neg (by decide)]; exact y66)).symm
    rw [e1]
    refine m_giv_l (V1 := px_up V 17 (nI (yL S p))) (row := row') (bb := fun m => yJ S (yP S p + m)) ht (by rw [px_wr_len]; omega) (by rw [wr_at, if_neg (by decide)]; exact y6) (up_same _ _ _) (by rw [wr_at, if_neg (by decide)]; exact yr) (hl4 p hp) (fun m hm => by have := w.2 m hm; rw [Nat.zero_add] at this; exact this) (fun o wo => ?_) (yL S p) 0 (by omega) _ (wroteM_0 _ _ _)
    have s6 : (px_wr (px_wr H 667 (.inr (1, 4, .inl (px_up (iA h 667) t (nI (yL S p)))))) 666 (.inr (1, 24000, .inl o))).2[619]? = some (.inl (11, modF (px_up V 17 (nI (yL S p))))) := by rw [wr_at, if_neg (by decide), wr_at, if_neg (by decide)]; exact y6
    have s60 : (px_wr (px_wr H 667 (.inr (1, 4, .inl (px_up (iA h 667) t (nI (yL S p)))))) 666 (.inr (1, 24000, .inl o))).2[660]? = some (.inr (1, 4, .inl (iA h 660))) := by rw [wr_at, if_neg (by decide), wr_at, if_neg (by decide)]; exact y60
    have s58 : (px_wr (px_wr H 667 (.inr (1, 4, .inl (px_up (iA h 667) t (nI (yL S p)))))) 666 (.inr (1, 24000, .inl o))).2[658]? = some (.inr (1, 4, .inl (iA h 658))) := by rw [wr_at, if_neg (by decide), wr_at, if_neg (by decide)]; exact y58
    simp only [pc252_83, pc252_83n, pc252_84, pc252_87, pc252_88, pc252_89, pc252_90, pc252_91, pc252_92, pc252_93, pc252_93n, pc252_94, pc252_97, pc252_98, pc252_99, pc252_100, pc252_101, px_op_some, px_kv_ap, px_ki_ap, px_kl_ap, px_kn_ap, px_kh_ap, px_op_none, px_K_some, px_K_none, px_K_thr, px_kill, ↓reduceIte, if_true, if_false, true_and, and_true, px_gf, px_pf, px_ai, px_aj, px_aa, px_wi, px_wj, px_wa, px_an, px_cls, tg_i1, s6, s60, s58, mf_54, mf_52, it, ct, and_self, n1, wr_at, Nat.reduceEqDiff]
    exact hq o wo
/-! the parcel's bytes into the row -/
set_option maxRecDepth 16384 in
theorem m_par_l {h1 : px_H} {V1 row0 d bb : Nat → Int32} {l : Nat} (hl1 : 668 < h1.2.length) (ht : t < 4) (h66 : h1.2[666]? = some (.inr (1, 24000, .inl d))) {sz : Nat → Int32} (h67 : h1.2[667]? = some (.inr (1, 4, .inl sz))) (hsz : sz t = nI l) (hl : l ≤ 4120) (hd : ∀ m, m < l → d (6000 * t + m) &&& 255 = bb m)
    (hQ : ∀ row', wroteM row0 row' 0 bb l → px_Wp sx 253 39 [some (.ref 619), some (.int (nI t)), some (.int (nI l))] [] (outH h1 (px_up V1 17 (nI l)) row') Q) :
    ∀ n m, m + n = l → ∀ row, wroteM row0 row 0 bb m → px_Wp sx 253 7 [some (.ref 619), some (.int (nI t)), some (.int (nI m))] [] (outH h1 (px_up V1 17 (nI m)) row) Q := by
  have it : px_in (nI t) 4 = true := px_inb ht (by decide)
  have ct : (nI t).toNatClampNeg = t := nI_clamp (by omega)
  have r66 : ∀ v r, (outH h1 v r).2[666]? = some (.inr (1, 24000, .inl d)) := fun v r => by rw [outH_at (by decide) (by decide)]; exact h66
  have r67 : ∀ v r, (outH h1 v r).2[667]? = some (.inr (1, 4, .inl sz)) := fun v r => by rw [outH_at (by decide) (by decide)]; exact h67
  have r6 : ∀ v r, (outH h1 v r).2[619]? = some (.inl (11, modF v)) := fun v r => outH_o (by omega)
  have hc : ∀ v r, px_cls (outH h1 v r) 619 = some 11 := fun v r => by unfold px_cls; rw [r6]
  intro n
  induction n with
  | zero =>
    intro m hm row w
    have hm : m = l := by omega
    subst hm
    simp only [pc253_7, pc253_8, pc253_8n, pc253_9, pc253_12, pc253_13, pc253_14, px_op_some, px_kv_ap, px_ki_ap, px_kl_ap, px_kn_ap, px_kh_ap, px_op_none, px_K_some, px_K_none, px_K_thr, px_kill, ↓reduceIte, if_true, if_false, true_and, and_true, px_gf, px_ai, tg_i1, r6, r67, mf_61, it, ct, hsz, and_self, if_pos (Int32.le_refl (nI m))]
    exact hQ row w
  | succ n ih =>
    intro m hm row w
    have hge : ¬ nI l ≤ nI m := nI_ge (by omega) (by omega)
    have im : px_in (nI (6000 * t + m)) 24000 = true := px_inb (by omega) (by decide)
    have cm : (nI (6000 * t + m)).toNatClampNeg = 6000 * t + m := nI_clamp (by omega)
    rw [pc253_7]
    simp only [pc253_8, pc253_8n, pc253_9, pc253_12, pc253_13, pc253_14, pc253_17, pc253_17n, pc253_18, pc253_18n, pc253_19, pc253_22, pc253_25, pc253_26, pc253_27, pc253_28, pc253_29, pc253_30, px_op_some, px_kv_ap, px_ki_ap, px_kl_ap, px_kn_ap, px_kh_ap, px_op_none, px_K_some, px_K_none, px_K_thr, px_kill, ↓reduceIte, if_true, if_false, true_and, and_true, px_gf, px_ai, tg_i1, r6, r66, r67, mf_60, mf_61, it, ct, hsz, and_self, if_neg hge, mul_6000 ht, nI_add, im, cm, hc]
    refine m_emit (by omega) (up_same _ _ _) (by omega) ?_
    simp only [px_K_none, pc253_33, pc253_36, px_kill, nI_1, up_up]
    refine ih (m + 1) (by omega) _ ?_
    have := wroteM_up (x := d (6000 * t + m) &&& 255) w (hd m (by omega))
    rw [Nat.zero_add] at this
    exact this
end MGIVE
