/-! A LINE BEHIND THE FIRST, the reference's -/
/-- the reference's numbers behind a line -/
def liV (V V' : Nat → Int32) (x a b : Nat) : Prop := V' 43 = nI x ∧ V' 45 = V 45 + nI a ∧ V' 46 = V 46 + nI b ∧ V' 2 = V 2 ∧ V' 44 = V 44 ∧ V' 0 = V 0
set_option maxRecDepth 16384 in
theorem flF_le {B : Nat → Nat} {m : aM} {e : Nat} (ok : imOK m) : ∀ f p o, (flF B m e f p o).1 ≤ o.1 + 12 * f
  | 0, p, o => Nat.le_add_right _ _
  | f + 1, p, o => by
    unfold flF
    by_cases x : e ≤ p
    · rw [if_pos x]; exact Nat.le_add_right _ _
    · rw [if_neg x]
      by_cases y : B p = 36
      · rw [if_pos y]
        have h1 := flF_le (B := B) (e := e) ok f (lend B (p + 1) (min (e - (p + 1)) 8)) (cat o (vOf m (patF B (p + 1) (lend B (p + 1) (min (e - (p + 1)) 8) - (p + 1)))))
        have h2 := (vOf_12 ok (q := patF B (p + 1) (lend B (p + 1) (min (e - (p + 1)) 8) - (p + 1)))).1
        have h3 : (cat o (vOf m (patF B (p + 1) (lend B (p + 1) (min (e - (p + 1)) 8) - (p + 1))))).1 = o.1 + (vOf m (patF B (p + 1) (lend B (p + 1) (min (e - (p + 1)) 8) - (p + 1)))).1 := rfl
        omega
      · rw [if_neg y]
        have h1 := flF_le (B := B) (e := e) ok f (p + 1) (cat o (1, fun _ => B p))
        have h3 : (cat o (1, fun _ => B p)).1 = o.1 + 1 := rfl
        omega
section NEXT
variable {sx : Nat × (Nat → Int32)} {h : px_H} {q n p e : Nat} {S : yS} {m : aM} {V g : Nat → Int32} {B : Nat → Nat} {Q : px_O → px_H → Prop}
set_option maxRecDepth 16384 in
theorem m_nextLine (hq : q < 2) (rc : rC h q S m V) (ok : bOK S m) (hA : h.2[620]? = some (.inr (1, 600, .inl g))) (hB : txM g n B) (hn : n ≤ 600) (hs : p < e) (he : e ≤ n) (hf : V 43 = 0)
    (hQ : ∀ h' x S' m' a b V', nlR S m B p e x S' m' a b → rC h' q S' m' V' → liV V V' x a b → rOth h h' q → frm rlA h h' → Q (.inl none) h') :
    px_Wp sx 158 0 [some (.ref 619), some (.int (nI q)), some (.int (nI p)), some (.int (nI e)), none, none] [] h Q := by
  obtain ⟨hS, ry, im, h6⟩ := id rc
  obtain ⟨o1, o2, o3⟩ := id ok
  have hcls : px_cls h 619 = some 11 := by unfold px_cls; rw [h6]
  have l6 : 619 < h.2.length := (List.getElem?_eq_some_iff.mp h6).1
  have rF := fnd_rng (B := B) (c := 32) (e - p) p
  have hB' : ∀ j, j < n → B j < 256 := fun j hj => (hB j hj).2
  -- a step
  have step : ∀ cp, rcW B p (fnd B 32 p (e - p)) cp → px_Wp sx 158 78 [some (.ref 619), some (.int (nI q)), some (.int (nI p)), some (.int (nI e)), some (.int (nI (fnd B 32 p (e - p)))), some (.int (if cp = true then 1 else 0))] [] h Q := fun cp rw_ => by
    simp only [pc158_78, pc158_78n, pc158_79, pc158_80, pc158_81, hcls, true_and]
    refine m_substitute hS h6 im o2 hA hB hn (by omega) he (fun h1 su => ?_)
    have su : suS h h1 V (fil B m p e) := su
    obtain ⟨V1, T, c6, v47, ve, hX, tx, fr, sh⟩ := su
    have hS1 := sh hS
    have hc1 : px_cls h1 619 = some 11 := by unfold px_cls; rw [c6]
    have l61 : 619 < h1.2.length := (List.getElem?_eq_some_iff.mp c6).1
    have ne1 : ∀ r, r ≠ 619 → r ≠ 654 → h1.2[r]? = h.2[r]? := fun r x y => fr.2.2 r (by unfold suA; omega)
    have im1 : imR h1 V1 m := imR_su im ve fr
    have ry1 : RY h1 q S := RY_frm ry (fun r x y => ne1 r (by omega) (by omega))
    have fb1 : frm rlA h h1 := frm_mono fr (fun r hr => by unfold suA at hr; unfold rlA; omega)
    have ot1 : rOth h h1 q := fun q2 S2 _ _ _ r2 => RY_frm r2 (fun r x y => ne1 r (by omega) (by omega))
    have v431 : V1 43 = 0 := by rw [ve 43 (by decide)]; exact hf
    have v36 := im1.1
    have big : ¬ ((fil B m p e).1 ≤ 200 ∧ iL m < 12) → px_Wp sx 158 103 [some (.ref 619), some (.int (nI q)), some (.int (nI p)), some (.int (nI e)), some (.int (nI (fnd B 32 p (e - p)))), some (.int (if cp = true then 1 else 0))] [] h1 Q := fun no => by
      simp only [pc158_103, pc158_103n, pc158_104, pc158_105, hc1, true_and]
      refine m_fail (x := 4) c6 v431 ?_
      simp only [px_K_none, pc158_108, pc158_128]
      have ne2 : ∀ r, r ≠ 619 → (px_wr h1 619 (.inl (11, modF (px_up V1 43 4)))).2[r]? = h1.2[r]? := fun r hr => by rw [wr_at, if_neg (fun z => hr z.symm)]
      refine hQ _ 4 S m 0 0 (px_up V1 43 4) (.inr (.inr ⟨cp, rw_, .inl ⟨no, rfl, rfl, rfl, rfl, rfl⟩⟩)) ⟨shape_mod hS1, RY_frm ry1 (fun r x y => ne2 r (by omega)), imR_f im1 (up_ne (by decide)) (up_ne (by decide)) (fun r x y => ne2 r (by omega)), by rw [wr_at, if_pos rfl, if_pos l61]⟩ ⟨up_same _ _ _, ?_, ?_, ?_, ?_⟩ (fun q2 S2 a b c r2 => RY_frm (ot1 q2 S2 a b c r2) (fun r x y => ne2 r (by omega))) (frm_wr fb1 (.inl rfl))
      · rw [up_ne (by decide), ve 45 (by decide)]; exact (Int32.add_zero _).symm
      · rw [up_ne (by decide), ve 46 (by decide)]; exact (Int32.add_zero _).symm
      · rw [up_ne (by decide), ve 2 (by decide)]
      · exact ⟨by rw [up_ne (by decide), ve 44 (by decide)], by rw [up_ne (by decide), ve 0 (by decide)]⟩
    have l8 : (fil B m p e).1 ≤ 0 + 12 * (e - p) := flF_le (B := B) (m := m) (e := e) o2 (e - p) p (0, fun _ => 0)
    have f9 : (fil B m p e).1 < 2 ^ 31 := by omega
    by_cases l200 : (fil B m p e).1 ≤ 200
    rotate_left
    · have gt : 200 < nI (fil B m p e).1 := nI_lt (a := 200) (by omega) f9
      simp only [px_K_none, pc158_84, pc158_84n, pc158_85, pc158_88, pc158_91, px_op_some, px_kv_ap, px_ki_ap, px_kl_ap, px_kn_ap, px_kh_ap, px_op_none, px_K_some, px_K_none, px_K_thr, px_kill, ↓reduceIte, if_true, if_false, true_and, and_true, px_gf, c6, mf_47, v47, gt]
      exact big (fun z => l200 z.1)
    have ngt : ¬ 200 < nI (fil B m p e).1 := fun z => Int32.lt_irrefl (Int32.lt_of_lt_of_le z (nI_le (b := 200) l200 (by decide)))
    by_cases h12 : iL m < 12
    rotate_left
    · have e12 : nI (iL m) = 12 := by rw [show iL m = 12 by have := o2.1; omega]; rfl
      simp only [px_K_none, pc158_84, pc158_84n, pc158_85, pc158_88, pc158_91, pc158_94, pc158_94n, pc158_95, pc158_98, pc158_100, px_op_some, px_kv_ap, px_ki_ap, px_kl_ap, px_kn_ap, px_kh_ap, px_op_none, px_K_some, px_K_none, px_K_thr, px_kill, ↓reduceIte, if_true, if_false, true_and, and_true, px_gf, c6, mf_36, mf_47, v36, v47, ngt, e12, not_true_eq_false]
      exact big (fun z => h12 z.2)
    have n12 : ¬ nI (iL m) = 12 := fun z => by have := (nI_eq (b := 12) (by omega) (by decide)).mp z; omega
    simp only [px_K_none, pc158_84, pc158_84n, pc158_85, pc158_88, pc158_91, pc158_94, pc158_94n, pc158_95, pc158_98, pc158_100, pc158_111, pc158_111n, pc158_112, pc158_113, pc158_114, pc158_115, pc158_117, px_op_some, px_kv_ap, px_ki_ap, px_kl_ap, px_kn_ap, px_kh_ap, px_op_none, px_K_some, px_K_none, px_K_thr, px_kill, ↓reduceIte, if_true, if_false, true_and, and_true, px_gf, c6, mf_36, mf_47, v36, v47, ngt, n12, not_false_eq_true, hc1]
    refine m_step (L := fil B m p e) (cp := cp) (n := n) hq ⟨hS1, ry1, im1, c6⟩ ok h12 ((ne1 620 (by decide) (by decide)).trans hA) hB hn (by omega) he hX tx l200 v47 (fun c => ?_) v431 rfl (fun h2 x S' m' hit V2 bs rc2 sv ot2 fr2 => ?_)
    · rcases rw_ with ⟨c0, -⟩ | ⟨-, w⟩
      · rw [c0] at c; exact absurd c (by decide)
      · exact fl_copy (by omega) w
    · simp only [px_K_none, pc158_120, pc158_128]
      obtain ⟨s1, s2, s3, s4, s5, s0⟩ := sv
      refine hQ h2 x S' m' (if x = 0 then 1 else 0) hit V2 (.inr (.inr ⟨cp, rw_, .inr ⟨⟨l200, h12⟩, bs, rfl⟩⟩)) rc2 ⟨s1, ?_, by rw [s3, ve 46 (by decide)], by rw [s4, ve 2 (by decide)], by rw [s5, ve 44 (by decide)], by rw [s0, ve 0 (by decide)]⟩ (fun q2 S2 a b c r2 => ot2 q2 S2 a b c (ot1 q2 S2 a b c r2)) (frm_trans fb1 fr2)
      rw [s2, ve 45 (by decide)]
      by_cases x0 : x = 0
      · rw [if_pos x0, if_pos x0]; rfl
      · rw [if_neg x0, if_neg x0]; rfl
  simp only [pc158_0, pc158_0n, pc158_1, pc158_4, pc158_5, pc158_6, px_op_some, px_kv_ap, px_ki_ap, px_kl_ap, px_kn_ap, px_kh_ap, px_op_none, px_K_some, px_K_none, px_K_thr, px_kill, ↓reduceIte, if_true, if_false, true_and, and_true, px_gf, h6, mf_1]
  refine m_wordEnd hA (by decide) hB hn (by omega) he ?_
  simp only [px_K_some, pc158_9, pc158_11, pc158_11n, pc158_12, pc158_15, pc158_16, pc158_18, pc158_21, pc158_23, px_op_some, px_kv_ap, px_ki_ap, px_kl_ap, px_kn_ap, px_kh_ap, px_op_none, px_K_some, px_K_none, px_K_thr, px_kill, ↓reduceIte, if_true, if_false, true_and, and_true, px_gf, h6, mf_1, px_kill]
  refine m_isWord hA (by decide) hB hn rF.1 (by omega) pk_copy (fun xc hxc => ?_)
  simp only [px_K_some, pc158_26, pc158_28, pc158_28n, pc158_29, pc158_32, pc158_33, pc158_35, pc158_38, pc158_40, px_op_some, px_kv_ap, px_ki_ap, px_kl_ap, px_kn_ap, px_kh_ap, px_op_none, px_K_some, px_K_none, px_K_thr, px_kill, ↓reduceIte, if_true, if_false, true_and, and_true, px_gf, h6, mf_1, px_kill]
  refine m_isWord hA (by decide) hB hn rF.1 (by omega) pk_env (fun xe hxe => ?_)
  rcases hxe with ⟨rfl, env⟩ | ⟨rfl, env⟩
  · have f3 : fnd B 32 p (e - p) = p + 3 := env.1
    simp only [px_K_some, pc158_43, pc158_46, pc158_46n, pc158_47, pc158_48, pc158_49, ne_1_0, if_false, hcls, true_and]
    refine m_settingLine h6 im o2 hA hB hn (by omega) he hf (fun x m' V' h' sl im' v43 ve c6 fr sh => ?_)
    have ne1 : ∀ r, ¬ mtA r → h'.2[r]? = h.2[r]? := fr.2.2
    simp only [px_K_none, pc158_52, pc158_128]
    exact hQ h' x S m' 0 0 V' (.inl ⟨env, sl, rfl, rfl, rfl⟩) ⟨sh hS, RY_frm ry (fun r x y => ne1 r (by unfold mtA; omega)), im', c6⟩ ⟨v43, by rw [ve 45 (by decide) (by decide)]; exact (Int32.add_zero _).symm, by rw [ve 46 (by decide) (by decide)]; exact (Int32.add_zero _).symm, ve 2 (by decide) (by decide), ve 44 (by decide) (by decide), ve 0 (by decide) (by decide)⟩ (fun q2 S2 _ _ _ r2 => RY_frm r2 (fun r x y => ne1 r (by unfold mtA; omega))) (frm_mono fr (fun r hr => by unfold mtA at hr; unfold rlA; omega))
  · rcases hxc with ⟨rfl, cop⟩ | ⟨rfl, cop⟩
    · simp only [px_K_some, pc158_43, pc158_55, pc158_57, ne_1_0, not_false_eq_true, if_true]
      exact step true (.inr ⟨rfl, cop⟩)
    · simp only [px_K_some, pc158_43, pc158_55, pc158_57, pc158_60, pc158_60n, pc158_61, pc158_64, pc158_65, pc158_67, pc158_70, pc158_72, px_op_some, px_kv_ap, px_ki_ap, px_kl_ap, px_kn_ap, px_kh_ap, px_op_none, px_K_some, px_K_none, px_K_thr, px_kill, ↓reduceIte, if_true, if_false, true_and, and_true, px_gf, h6, mf_1, not_true_eq_false]
      refine m_isWord hA (by decide) hB hn rF.1 (by omega) pk_run (fun xr hxr => ?_)
      rcases hxr with ⟨rfl, run⟩ | ⟨rfl, run⟩
      · simp only [px_K_some, pc158_75, ne_1_0, if_false]
        exact step false (.inl ⟨rfl, run⟩)
      · simp only [px_K_some, pc158_75, pc158_123, pc158_123n, pc158_124, pc158_125, if_true, hcls, true_and]
        refine m_fail (x := 1) h6 hf ?_
        simp only [px_K_none, pc158_128]
        have ne2 : ∀ r, r ≠ 619 → (px_wr h 619 (.inl (11, modF (px_up V 43 1)))).2[r]? = h.2[r]? := fun r hr => by rw [wr_at, if_neg (fun z => hr z.symm)]
        refine hQ _ 1 S m 0 0 (px_up V 43 1) (.inr (.inl ⟨env, fun cp z => ?_, rfl, rfl, rfl, rfl, rfl⟩)) ⟨shape_mod hS, RY_frm ry (fun r x y => ne2 r (by omega)), imR_f im (up_ne (by decide)) (up_ne (by decide)) (fun r x y => ne2 r (by omega)), by rw [wr_at, if_pos rfl, if_pos l6]⟩ ⟨up_same _ _ _, ?_, ?_, up_ne (by decide), up_ne (by decide), up_ne (by decide)⟩ (fun q2 S2 _ _ _ r2 => RY_frm r2 (fun r x y => ne2 r (by omega))) (frm_wr (frm_refl _ _) (.inl rfl))
        · rcases z with ⟨-, z⟩ | ⟨-, z⟩
          · exact run z
          · exact cop z
        · rw [up_ne (by decide)]; exact (Int32.add_zero _).symm
        · rw [up_ne (by decide)]; exact (Int32.add_zero _).symm
end NEXT
