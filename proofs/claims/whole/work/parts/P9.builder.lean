/-! THE BUILDER, the class's: keeping a layer -/
def bdF (b : Nat → Int32) (k : Int64) : List Value := [.int (b 0), .int (b 1), .int (b 2), .int (b 3), .int (b 4), .int (b 5), .int (b 6), .long k, .ref 48, .ref 81, .ref 83, .ref 85, .ref 87, .ref 249, .ref 411, .ref 414]
section BDF
variable {b : Nat → Int32} {k k' : Int64} {x : Int32}
set_option maxRecDepth 16384 in
theorem bd_0 : (bdF b k)[0]? = some (.int (b 0)) := rfl
set_option maxRecDepth 16384 in
theorem bd_1 : (bdF b k)[1]? = some (.int (b 1)) := rfl
set_option maxRecDepth 16384 in
theorem bd_2 : (bdF b k)[2]? = some (.int (b 2)) := rfl
set_option maxRecDepth 16384 in
theorem bd_3 : (bdF b k)[3]? = some (.int (b 3)) := rfl
set_option maxRecDepth 16384 in
theorem bd_4 : (bdF b k)[4]? = some (.int (b 4)) := rfl
set_option maxRecDepth 16384 in
theorem bd_5 : (bdF b k)[5]? = some (.int (b 5)) := rfl
set_option maxRecDepth 16384 in
theorem bd_6 : (bdF b k)[6]? = some (.int (b 6)) := rfl
set_option maxRecDepth 16384 in
theorem bd_7 : (bdF b k)[7]? = some (.long k) := rfl
set_option maxRecDepth 16384 in
theorem bd_8 : (bdF b k)[8]? = some (.ref 48) := rfl
set_option maxRecDepth 16384 in
theorem bd_9 : (bdF b k)[9]? = some (.ref 81) := rfl
set_option maxRecDepth 16384 in
theorem bd_10 : (bdF b k)[10]? = some (.ref 83) := rfl
set_option maxRecDepth 16384 in
theorem bd_11 : (bdF b k)[11]? = some (.ref 85) := rfl
set_option maxRecDepth 16384 in
theorem bd_12 : (bdF b k)[12]? = some (.ref 87) := rfl
set_option maxRecDepth 16384 in
theorem bd_13 : (bdF b k)[13]? = some (.ref 249) := rfl
set_option maxRecDepth 16384 in
theorem bd_14 : (bdF b k)[14]? = some (.ref 411) := rfl
set_option maxRecDepth 16384 in
theorem bd_15 : (bdF b k)[15]? = some (.ref 414) := rfl
set_option maxRecDepth 16384 in
theorem bd_len : (bdF b k).length = 16 := rfl
set_option maxRecDepth 16384 in
theorem bds_0 : (bdF b k).set 0 (.int x) = bdF (px_up b 0 x) k := rfl
set_option maxRecDepth 16384 in
theorem bds_1 : (bdF b k).set 1 (.int x) = bdF (px_up b 1 x) k := rfl
set_option maxRecDepth 16384 in
theorem bds_2 : (bdF b k).set 2 (.int x) = bdF (px_up b 2 x) k := rfl
set_option maxRecDepth 16384 in
theorem bds_3 : (bdF b k).set 3 (.int x) = bdF (px_up b 3 x) k := rfl
set_option maxRecDepth 16384 in
theorem bds_4 : (bdF b k).set 4 (.int x) = bdF (px_up b 4 x) k := rfl
set_option maxRecDepth 16384 in
theorem bds_5 : (bdF b k).set 5 (.int x) = bdF (px_up b 5 x) k := rfl
set_option maxRecDepth 16384 in
theorem bds_6 : (bdF b k).set 6 (.int x) = bdF (px_up b 6 x) k := rfl
set_option maxRecDepth 16384 in
theorem bds_7 : (bdF b k).set 7 (.long k') = bdF b k' := rfl
end BDF
def fbF (b : Nat → Int32) (x : Nat) (y : Int32) : Nat → Int32 := if x = 0 then b else px_up (px_up b 0 (nI x)) 1 y
/-- what the builder changes -/
def blA (q r : Nat) : Prop := (2 + 11 * q ≤ r ∧ r ≤ 12 + 11 * q) ∨ (47 ≤ r ∧ r ≤ 420)
/-- how the builder stands -/
def bC (h : px_H) (q : Nat) (S : yS) (m : aM) (b : Nat → Int32) (key : Int64) : Prop := shape h ∧ CY h (2 + 11 * q) S ∧ (∃ P, inj6 P ∧ imC h 48 P m) ∧ h.2[47]? = some (.inl (10, bdF b key)) ∧ tre h 87 ∧ tre h 249
section BLD
variable {sx : Nat × (Nat → Int32)} {h : px_H} {q : Nat} {S : yS} {m : aM} {b : Nat → Int32} {key : Int64} {t u : aT} {Q : px_O → px_H → Prop}
set_option maxRecDepth 16384 in
theorem shape_47 {b' : Nat → Int32} {k' : Int64} (hs : shape h) : shape (px_wr h 47 (.inl (10, bdF b' k'))) := shape_wr hs (r := 47) rfl
set_option maxRecDepth 16384 in
theorem c_fail {x : Nat} {y : Int32} (hb : h.2[47]? = some (.inl (10, bdF b key))) (hx : x ≤ 5) (hQ : Q (.inl none) (px_wr h 47 (.inl (10, bdF (fbF b x y) key)))) : px_Wp sx 134 0 [some (.ref 47), some (.int (nI x)), some (.int y)] [] h Q := by
  have hl : 47 < h.2.length := (List.getElem?_eq_some_iff.mp hb).1
  by_cases x0 : x = 0
  · subst x0
    have e0 : nI 0 = 0 := rfl
    have e : fbF b 0 y = b := if_pos rfl
    rw [e, wr_id hb] at hQ
    simp only [pc134_0, pc134_1, pc134_14, e0, if_true]
    exact hQ
  · have n0 : ¬ nI x = 0 := fun z => x0 ((nI_eq (b := 0) (by omega) (by decide)).mp z)
    have e : fbF b x y = px_up (px_up b 0 (nI x)) 1 y := if_neg x0
    have h2 : ∀ z : px_C, (px_wr h 47 z).2[47]? = some z := fun z => by rw [wr_at, if_pos rfl, if_pos hl]
    rw [e] at hQ
    simp only [pc134_0, pc134_1, pc134_4, pc134_4n, pc134_5, pc134_6, pc134_9, pc134_9n, pc134_10, pc134_11, pc134_14, px_op_some, px_kv_ap, px_ki_ap, px_kl_ap, px_kn_ap, px_kh_ap, px_op_none, px_K_some, px_K_none, px_K_thr, px_kill, ↓reduceIte, if_true, if_false, true_and, and_true, px_pf, hb, h2, bd_len, bds_0, bds_1, n0, Nat.reduceLT, px_fit, and_self, px_wr_wr]
    exact hQ
set_option maxRecDepth 16384 in
theorem c_addLy {P : Nat → Nat} {d : Int64} (im : imC h 48 P m) (h12 : iL m < 12) (hQ : ∀ h', imC h' 48 P (addL m d) → frm (fun r => r = 48 ∨ r = 49) h h' → (shape h → shape h') → Q (.inl none) h') : px_Wp sx 83 0 [some (.ref 48), some (.long d), none] [] h Q := by
  obtain ⟨i1, ⟨L, ⟨o1, o2⟩, o3⟩, i3⟩ := im
  have o1 : h.2[48]? = some (.inl (6, [.ref 49, .int (nI (iL m)), .ref 50, .int (nI (iS m))])) := o1
  have o2 : h.2[49]? = some (.inr (2, 12, .inr (.inl L))) := o2
  have hc : px_cls h 48 = some 6 := by unfold px_cls; rw [o1]
  have l8 : 48 < h.2.length := (List.getElem?_eq_some_iff.mp o1).1
  have l9 : 49 < h.2.length := (List.getElem?_eq_some_iff.mp o2).1
  have lt : nI (iL m) < nI 12 := nI_lt h12 (by decide)
  have lt' : nI (iL m) < Int32.ofNat 12 := lt
  have ii : px_in (nI (iL m)) 12 = true := px_inb h12 (by decide)
  have ci : (nI (iL m)).toNatClampNeg = iL m := nI_clamp (by omega)
  generalize hh1 : px_wr h 49 (.inr (2, 12, .inr (.inl (px_up L (iL m) d)))) = h1
  have c8 : h1.2[48]? = some (.inl (6, [.ref 49, .int (nI (iL m)), .ref 50, .int (nI (iS m))])) := by rw [← hh1, wr_at, if_neg (by decide)]; exact o1
  have c9 : h1.2[49]? = some (.inr (2, 12, .inr (.inl (px_up L (iL m) d)))) := by rw [← hh1, wr_at, if_pos rfl, if_pos l9]
  have l8' : 48 < h1.2.length := (List.getElem?_eq_some_iff.mp c8).1
  simp only [pc83_0, pc83_0n, pc83_1, pc84_0, pc84_0n, pc84_1, pc84_4, pc84_4n, pc84_5, pc84_8, pc84_9, pc84_12, pc84_13, pc84_16, pc84_17, px_op_some, px_kv_ap, px_ki_ap, px_kl_ap, px_kn_ap, px_kh_ap, px_op_none, px_K_some, px_K_none, px_K_thr, px_kill, ↓reduceIte, if_true, if_false, true_and, and_true, px_gf, px_an, o1, o2, List.getElem?_cons_zero, List.getElem?_cons_succ, lt, lt', hc, tg_2, and_self, nar_0, px_K_some, pc83_4, pc83_7, pc83_7n, pc83_8, pc83_11, pc83_11n, pc83_12, pc83_15, pc83_16, pc83_17, pc83_17n, pc83_18, pc83_18r, pc83_19, pc83_22, pc83_23, pc83_24, pc83_27, px_wj, px_pf, ii, ci, hh1, c8, not_true_eq_false, List.length_cons, List.length_nil, List.set_cons_zero, List.set_cons_succ, px_fit, Nat.reduceAdd, Nat.reduceLT, nI_p1]
  refine hQ _ ⟨?_, ⟨px_up L (iL m) d, ⟨?_, ?_⟩, fun i hi => ?_⟩, fun s hs => ?_⟩ ?_ (fun s => ?_)
  · exact imS_up i1 (fun r a b => by rw [wr_at, if_neg (by omega), ← hh1, wr_at, if_neg (by omega)])
  · rw [wr_at, if_pos rfl, if_pos l8']; rfl
  · rw [wr_at, if_neg (by decide)]; exact c9
  · have hi' : i < iL m + 1 := hi
    show px_up L (iL m) d i = px_up (iD m) (iL m) d i
    by_cases x : i = iL m
    · subst x; rw [up_same, up_same]
    · rw [up_ne x, up_ne x]; exact o3 i (by omega)
  · obtain ⟨F, G, y1, y2, y3, y4⟩ := i3 s hs
    have e : ∀ r, r ≠ 48 → r ≠ 49 → (px_wr h1 48 (.inl (6, [.ref 49, .int (nI (iL m + 1)), .ref 50, .int (nI (iS m))]))).2[r]? = h.2[r]? := fun r x y => by rw [wr_at, if_neg (fun z => x z.symm), ← hh1, wr_at, if_neg (fun z => y z.symm)]
    exact ⟨F, G, row_f y1 (e _ (by omega) (by omega)) (e _ (by omega) (by omega)), y2, row_f y3 (e _ (by omega) (by omega)) (e _ (by omega) (by omega)), y4⟩
  · rw [← hh1]; exact frm_wr (frm_wr (frm_refl _ _) (.inr rfl)) (.inl rfl)
  · exact shape_int (k := 1) (by rw [← hh1]; exact shape_la s o2) c8 rfl
set_option maxRecDepth 16384 in
theorem bC_up {h' : px_H} {b' : Nat → Int32} {k' : Int64} (w : bC h q S m b key) (e : h' = px_wr h 47 (.inl (10, bdF b' k'))) (ok : imOK m) (hq : q < 2) : bC h' q S m b' k' := by
  obtain ⟨w1, w2, ⟨P, w3, w4⟩, w5, w6, w7⟩ := w
  have hl : 47 < h.2.length := (List.getElem?_eq_some_iff.mp w5).1
  have ne : ∀ r, r ≠ 47 → h'.2[r]? = h.2[r]? := fun r hr => by rw [e, wr_at, if_neg (fun z => hr z.symm)]
  exact ⟨by rw [e]; exact shape_47 w1, CY_frm w2 (fun r x y => ne r (by omega)), ⟨P, w3, imC_frm w4 (fun r hr => ne r (by unfold imA at hr; omega)) ok⟩, by rw [e, wr_at, if_pos rfl, if_pos hl], tre_frm w6 (ne 88 (by decide)), tre_frm w7 (ne 250 (by decide))⟩
set_option maxRecDepth 16384 in
theorem c_keepLayer (hq : q < 2) (bc : bC h q S m b key) (ok : bOK S m) (h12 : iL m < 12) (t87 : trR h 87 t.1 t.2) (t249 : trR h 249 u.1 u.2) (sh : tSH t.1 t.2) (sh' : tSH u.1 u.2) (hb : tBY u)
    (hQ : ∀ h' x S' m', klR S m key (lyF t u) x S' m' → x ≤ 5 → bC h' q S' m' (if x = 0 then px_up b 2 (b 2 + 1) else b) key → frm (blA q) h h' → Q (.inl (some (.int (nI x)))) h') :
    px_Wp sx 139 0 [some (.ref 47), some (.ref (2 + 11 * q)), none, none] [] h Q := by
  obtain ⟨hS, cy, ⟨P, hP, im⟩, w47, te87, te249⟩ := bc
  obtain ⟨o1, o2, o3⟩ := ok
  have hl := hS.1
  have hw := (yOK_good o1).1
  have ly := lyF_ok sh sh' hb
  have hc14 : px_cls h 411 = some 4 := by unfold px_cls; rw [at_411 hS]
  simp only [pc139_0, pc139_0n, pc139_1, pc139_4, pc139_4n, pc139_5, pc139_8, pc139_8n, pc139_9, pc139_12, pc139_12n, pc139_13, pc139_16, px_op_some, px_kv_ap, px_ki_ap, px_kl_ap, px_kn_ap, px_kh_ap, px_op_none, px_K_some, px_K_none, px_K_thr, px_kill, ↓reduceIte, if_true, if_false, true_and, and_true, px_gf, w47, bd_11, bd_12, bd_13, bd_14, hc14]
  refine c_changes (by omega) (at_85 hS) (at_86 hS) t87 t249 (by decide) (by decide) sh sh' (fun f' bt => ?_)
  have bt : bytA f' (lyF t u).1 (lyF t u).2 := bt
  show px_K sx 139 19 _ [] Q (.inl none) (rowH h 85 4120 (lyF t u).1 f')
  generalize hh1 : rowH h 85 4120 (lyF t u).1 f' = h1
  have ne1 : ∀ r, r ≠ 85 → r ≠ 86 → h1.2[r]? = h.2[r]? := fun r x y => by rw [← hh1]; exact rowH_at (fun z => x z.symm) (fun z => y z.symm)
  have r85 : rowAt h1 85 4120 (lyF t u).1 f' := by rw [← hh1]; exact rowAt_rowH (by omega) ly.1 (by decide)
  have hS1 : shape h1 := by
    rw [← hh1]
    unfold rowH
    exact shape_wr (shape_wr hS rfl) rfl
  have fr1 : frm (blA q) h h1 := by rw [← hh1]; exact frm_row (frm_refl _ _) (.inr ⟨by decide, by decide⟩) (.inr ⟨by decide, by decide⟩)
  have w47' : h1.2[47]? = some (.inl (10, bdF b key)) := (ne1 47 (by decide) (by decide)).trans w47
  have r1 := r85.1
  have hc85 : px_cls h1 85 = some 1 := by unfold px_cls; rw [r1]
  have cy1 : CY h1 (2 + 11 * q) S := CY_frm cy (fun r x y => ne1 r (by omega) (by omega))
  have hcY : px_cls h1 (2 + 11 * q) = some 7 := by unfold px_cls; rw [cy1.2.1]
  have im1 : imC h1 48 P m := imC_frm im (fun r hr => ne1 r (by unfold imA at hr; omega) (by unfold imA at hr; omega)) o2
  have te1 : tre h1 87 := tre_frm te87 (ne1 88 (by decide) (by decide))
  have te1' : tre h1 249 := tre_frm te249 (ne1 250 (by decide) (by decide))
  have hf : ∀ k, k < (lyF t u).1 → f' (0 + k) &&& 255 = (lyF t u).2 k := fun k hk => by rw [Nat.zero_add]; exact bt k hk
  simp only [px_K_none, pc139_19, pc139_19n, pc139_20, pc139_23, pc139_24, pc139_24n, pc139_25, pc139_28, pc139_31, px_op_some, px_kv_ap, px_ki_ap, px_kl_ap, px_kn_ap, px_kh_ap, px_op_none, px_K_some, px_K_none, px_K_thr, px_kill, ↓reduceIte, if_true, if_false, true_and, and_true, px_gf, w47', bd_11, r1, List.getElem?_cons_zero, List.getElem?_cons_succ, hc85]
  refine c_digest (s := 0) r85 (by omega) hf ?_
  simp only [px_K_some, pc139_34, pc139_35, pc139_35n, pc139_36, pc139_36n, pc139_37, pc139_40, pc139_41, pc139_41n, pc139_42, pc139_45, pc139_48, px_op_some, px_kv_ap, px_ki_ap, px_kl_ap, px_kn_ap, px_kh_ap, px_op_none, px_K_some, px_K_none, px_K_thr, px_kill, ↓reduceIte, if_true, if_false, true_and, and_true, px_gf, w47', bd_11, r1, List.getElem?_cons_zero, List.getElem?_cons_succ, hcY, px_kill]
  refine cy_keep2 (a := 0) hw cy1 (by omega) r85 (by omega) (by omega) hf (fun S1 h2 k1 cy2 f2 s2 => ?_) (fun kn => ?_)
  rotate_left
  · simp only [px_K_some, pc139_51, pc139_66, pc139_67, if_true]
    exact hQ h1 5 S m (.inl ⟨kn, rfl, rfl, rfl⟩) (by decide) ⟨hS1, cy1, ⟨P, hP, im1⟩, w47', te1, te1'⟩ fr1
  have ok1 := keep_ok o1 ly.1 ly.2 k1
  have hS2 := s2 hS1
  have ne2 : ∀ r, ¬ cyA (2 + 11 * q) r → h2.2[r]? = h1.2[r]? := f2.2.2
  have fr2 : frm (blA q) h h2 := frm_trans fr1 (frm_mono f2 (fun r hr => by unfold cyA at hr; exact .inl (by omega)))
  have w472 : h2.2[47]? = some (.inl (10, bdF b key)) := (ne2 47 (by unfold cyA; omega)).trans w47'
  have im2 : imC h2 48 P m := imC_frm im1 (fun r hr => ne2 r (by unfold imA at hr; unfold cyA; omega)) o2
  have te2 : tre h2 87 := tre_frm te1 (ne2 88 (by unfold cyA; omega))
  have te2' : tre h2 249 := tre_frm te1' (ne2 250 (by unfold cyA; omega))
  have hcY2 : px_cls h2 (2 + 11 * q) = some 7 := by unfold px_cls; rw [cy2.2.1]
  simp only [px_K_some, pc139_51, pc139_54, pc139_54n, pc139_55, pc139_55n, pc139_56, pc139_59, pc139_60, px_op_some, px_kv_ap, px_ki_ap, px_kl_ap, px_kn_ap, px_kh_ap, px_op_none, px_K_some, px_K_none, px_K_thr, px_kill, ↓reduceIte, if_true, if_false, true_and, and_true, px_gf, w472, bd_7, ne_1_0, hcY2]
  refine cy_rem2 (yOK_good ok1).1 (yOK_good ok1).2.1 cy2 (fun S2 h3 k2 cy3 f3 s3 => ?_) (fun rn => ?_)
  rotate_left
  · simp only [px_K_some, pc139_63, pc139_66, pc139_67, not_true_eq_false, if_false]
    exact hQ h2 5 S1 m (.inr ⟨S1, k1, .inl ⟨rn, rfl, rfl, rfl⟩⟩) (by decide) ⟨hS2, cy2, ⟨P, hP, im2⟩, w472, te2, te2'⟩ fr2
  have hS3 := s3 hS2
  have ne3 : ∀ r, ¬ cyA (2 + 11 * q) r → h3.2[r]? = h2.2[r]? := f3.2.2
  have fr3 : frm (blA q) h h3 := frm_trans fr2 (frm_mono f3 (fun r hr => by unfold cyA at hr; exact .inl (by omega)))
  have w473 : h3.2[47]? = some (.inl (10, bdF b key)) := (ne3 47 (by unfold cyA; omega)).trans w472
  have im3 : imC h3 48 P m := imC_frm im2 (fun r hr => ne3 r (by unfold imA at hr; unfold cyA; omega)) o2
  have te3 : tre h3 87 := tre_frm te2 (ne3 88 (by unfold cyA; omega))
  have te3' : tre h3 249 := tre_frm te2' (ne3 250 (by unfold cyA; omega))
  have hc48 : px_cls h3 48 = some 6 := by obtain ⟨-, ⟨L, ⟨y1, -⟩, -⟩, -⟩ := im3; unfold px_cls; rw [y1]
  simp only [px_K_some, pc139_63, pc139_68, pc139_68n, pc139_69, pc139_72, pc139_73, px_op_some, px_kv_ap, px_ki_ap, px_kl_ap, px_kn_ap, px_kh_ap, px_op_none, px_K_some, px_K_none, px_K_thr, px_kill, ↓reduceIte, if_true, if_false, true_and, and_true, px_gf, w473, bd_8, ne_1_0, not_false_eq_true, hc48]
  refine c_addLy (d := dig (lyF t u).2 (lyF t u).1) im3 h12 (fun h4 im4 f4 s4 => ?_)
  have ne4 : ∀ r, r ≠ 48 → r ≠ 49 → h4.2[r]? = h3.2[r]? := fun r x y => f4.2.2 r (by omega)
  have w474 : h4.2[47]? = some (.inl (10, bdF b key)) := (ne4 47 (by decide) (by decide)).trans w473
  have b4 : bC h4 q S2 (addL m (dig (lyF t u).2 (lyF t u).1)) b key := ⟨s4 hS3, CY_frm cy3 (fun r x y => ne4 r (by omega) (by omega)), ⟨P, hP, im4⟩, w474, tre_frm te3 (ne4 88 (by decide) (by decide)), tre_frm te3' (ne4 250 (by decide) (by decide))⟩
  simp only [px_K_none, pc139_76, pc139_76n, pc139_77, pc139_77r, pc139_78, pc139_81, pc139_82, pc139_83, pc139_86, pc139_87, px_op_some, px_kv_ap, px_ki_ap, px_kl_ap, px_kn_ap, px_kh_ap, px_op_none, px_K_some, px_K_none, px_K_thr, px_kill, ↓reduceIte, if_true, if_false, true_and, and_true, px_gf, px_pf, w474, bd_2, bd_len, bds_2, Nat.reduceLT, px_fit, and_self]
  refine hQ _ 0 S2 _ (.inr ⟨S1, k1, .inr ⟨k2, rfl, rfl⟩⟩) (by decide) (bC_up b4 rfl (addL_ok o2 h12) hq) (frm_wr (frm_trans fr3 (frm_mono f4 (fun r hr => .inr (by omega)))) (.inr ⟨by decide, by decide⟩))
end BLD
