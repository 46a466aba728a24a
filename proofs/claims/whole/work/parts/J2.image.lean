/-! IMAGE: how many entries its tree has -/
set_option maxRecDepth 16384 in
theorem grw_congr {S : yS} {nl : Nat} {Ly Ly' : Nat → Int64} {t : Nat × (Nat → aE)} (hL : ∀ i, i < nl → Ly i = Ly' i) (g : grw S nl Ly t) : grw S nl Ly' t := by
  obtain ⟨ts, e0, e1, e⟩ := g
  refine ⟨ts, e0, e1, fun i hi => ?_⟩
  rw [← hL i hi]; exact e i hi
section SHOW
variable {sx : Nat × (Nat → Int32)} {h : px_H} {S : yS} {q j R B k s u l nl ns : Nat} {pos na nv : Nat → Nat} {bb : Nat → Int32} {Q : px_O → px_H → Prop}
set_option maxRecDepth 16384 in
theorem inv_toldJ (ok : yOK S) (cy : CY h (2 + 11 * q) S) (ry : RY h q S) (hj : j < 8) (e : yT S j = true) : ∃ R B k s u l nl ns pos na nv bb, toldI h q (2 + 11 * q) j R B k s u l nl ns pos na nv bb ∧ ∀ i, i < nl → hasD S (layB bb i) := by
  have g := yOK_good ok
  obtain ⟨⟨x1, x2, x3, x4⟩, x5, x6, x7, x8⟩ := yd_nums cy ry
  obtain ⟨k, k1, k2, nl, ns, pos, na, nv, k3, k4⟩ := g.2.2.2 j hj e
  obtain ⟨⟨f, a1, a2⟩, -, ⟨D, d1, d2⟩, ⟨st, s1, s2⟩, -, -, -, -, ⟨G, i1, i2⟩, -⟩ := cy
  obtain ⟨-, -, -, -, ⟨D', e1, e2⟩, ⟨fr, sz, bt, us, U, f1, f2, f3, f4, f5, f6, f7⟩, -, -, -, ⟨G', j1, j2⟩, -⟩ := ry
  obtain ⟨y1, u, y2, y3, y4⟩ := f7 k k1
  have hP := g.1.2.2.2.2.2.1 k k1
  have h4 := g.1.1
  refine ⟨yR S, yB S, k, yP S k, u, yL S k, nl, ns, pos, na, nv, blB S k, ⟨⟨h4, x4, g.1.2.2.1, x2, x5, k1⟩, ?_, fun a b ha hb eab => ?_, fun a ha => ?_, ?_, ⟨?_, hP, ?_, by omega⟩, fun m hm => ?_, fun m hm => ?_, k3⟩, k4⟩
  · rw [lA_of d1, lA_of i1, d2 k k1, i2 j hj e]; exact k2
  · rw [lA_of d1, d2 a ha, d2 b hb] at eab
    exact g.1.2.2.2.2.1 a b ha hb eab
  · rw [lA_of d1, lA_of e1, d2 a ha, e2 a ha]
  · rw [lA_of i1, lA_of j1, i2 j hj e, j2 j hj e]
  · rw [iA_of s1]; exact s2 k k1
  · rw [iA_of f1]; exact y2
  · rw [iA_of (r := 2 + 11 * q + 2) a1.2.1]; exact a2 _ (by omega)
  · rw [iA_of f3]; exact y4 m hm
set_option maxRecDepth 16384 in
theorem c_readJ (hS : shape h) (hq : q < 2) (hj8 : j < 8) (tI : toldI h q (2 + 11 * q) j R B k s u l nl ns pos na nv bb) (i2 : imS h 421 (fun s => s)) (hQ : ∀ h1, tk2 h h1 421 nl ns bb (fun s => s) pos na nv → Q (.inl none) h1) :
    px_Wp sx 89 0 [some (.ref (2 + 11 * q)), some (.int (nI j)), some (.ref 421), none] [] h Q := by
  obtain ⟨⟨r1, r2, r3, r4, r5, r6⟩, r7, r8, r9, r10, ⟨r11, r12, r13, r14⟩, r15, r16, ok⟩ := tI
  obtain ⟨c1, c2, c3, c4, c5, c6, c7⟩ := yd_cells hS hq
  have hYB : h.2[2 + 11 * q]? = some (.inl (7, yrdF (2 + 11 * q) (fI h (2 + 11 * q) 1) (nI B) (fI h (2 + 11 * q) 9))) := by rw [← r4]; exact c1
  have w : rowAt h (2 + 11 * q + 1) 40000 R (iA h (2 + 11 * q + 2)) := ⟨by rw [← r2]; exact c2, c3, r1, by decide⟩
  exact c_readImage (P := fun s => s) (fun a b _ _ e => e) (by omega) hYB w c4 c5 c7 hj8 r3 r6 r7 r8 r11 ok r15 r12 (at_421 hS) (at_422 hS) i2 hQ
set_option maxRecDepth 16384 in
theorem m_takeJ {hX : px_H} {V : Nat → Int32} (hS : shape h) (hq : q < 2) (hj8 : j < 8) (tI : toldI h q (2 + 11 * q) j R B k s u l nl ns pos na nv bb) (hXe : ∀ r, (621 ≤ r ∧ r ≤ 634 ∨ 649 ≤ r ∧ r ≤ 653) → hX.2[r]? = h.2[r]?) (hX6 : hX.2[619]? = some (.inl (11, modF V)))
    (hQ : ∀ h', mtk hX h' (px_up (px_up V 36 (nI nl)) 38 (nI ns)) nl ns bb pos na nv → Q (.inl none) h') :
    px_Wp sx 154 0 [some (.ref 619), some (.int (nI q)), some (.int (nI j)), none] [] hX Q := by
  obtain ⟨⟨r1, r2, r3, r4, r5, r6⟩, r7, r8, r9, r10, ⟨r11, r12, r13, r14⟩, r15, r16, ok⟩ := tI
  have z : ∀ {r : Nat} {x : px_C}, h.2[r]? = some x → (621 ≤ r ∧ r ≤ 634 ∨ 649 ≤ r ∧ r ≤ 653) → hX.2[r]? = some x := fun e p => (hXe _ p).trans e
  exact m_takeTag (B := B) (k := k) (u := u) hX6 (z (at_621 hS) (by decide)) (z (at_622 hS) (by decide)) (z (at_623 hS) (by decide)) (z (at_625 hS) (by decide)) (z (at_627 hS) (by decide)) (z (at_649 hS) (by decide)) (z (at_650 hS) (by decide)) (z (at_651 hS) (by decide)) (z (at_652 hS) (by decide)) (z (at_653 hS) (by decide))
    hq hj8 r3 r5 r6 (by rw [← r9 k r6, r7, r10]) (fun a b ha hb e => r8 a b ha hb (by rw [r9 a ha, r9 b hb]; exact e)) r13 ok (fun m hm => r16 m hm) r14 hQ
set_option maxRecDepth 16384 in
theorem c_growJ {h1 : px_H} (I : Inv h) (hq : q < 2) (ok : yOK S) (cy : CY h (2 + 11 * q) S) (tk : tk2 h h1 421 nl ns bb (fun s => s) pos na nv) (hn : nl ≤ 12) (has : ∀ i, i < nl → hasD S (layB bb i))
    (hQ : ∀ t h2, grw S nl (layB bb) t → clS h1 h2 457 454 t → Q (.inl none) h2) :
    px_Wp sx 65 0 [some (.ref 454), some (.ref (2 + 11 * q)), some (.ref 421), some (.ref 457), none, none] [] h1 Q := by
  obtain ⟨a1, a2, a3, ⟨L, o, hLL⟩, a5⟩ := tk
  have hS1 := a2 I.1
  have hw := (yOK_good ok).1
  have cy1 : CY h1 (2 + 11 * q) S := CY_frm cy (fun r a b => a1.2.2 r (by unfold imA; omega))
  have tr1 : tre h1 457 := tre_frm I.2.2.2.2.1.2.2.2 (a1.2.2 458 (by unfold imA; omega))
  exact c_grow hw cy1 (by omega) entT_455 (at_454 hS1) (ent_it hS1 entT_455 (by decide)) treT_457 (trP_of hS1 treT_457 tr1 (by decide)) (by omega) (by decide) (by decide) o (by unfold clA trA; omega) hn (fun i hi => by rw [hLL i hi]; exact has i hi) (fun t h2 g cs => hQ t h2 (grw_congr hLL g) cs)
set_option maxRecDepth 16384 in
theorem m_growJ {hX h4 : px_H} {V : Nat → Int32} (hS4 : shape h4) (hq : q < 2) (ok : yOK S) (ry4 : RY h4 q S) (tm : mtk hX h4 V nl ns bb pos na nv) (hv : V 36 = nI nl) (hn : nl ≤ 12) (has : ∀ i, i < nl → hasD S (layB bb i))
    (hQ : ∀ t h5, grw S nl (layB bb) t → mgS h4 h5 V t → Q (.inl none) h5) :
    px_Wp sx 174 0 [some (.ref 619), some (.int (nI q)), none] [] h4 Q := by
  obtain ⟨L, NM, NS, VL, VS, ⟨b1, b2, b3, bL, -⟩, x1, -⟩ := tm
  have hw := (yOK_good ok).1
  have hl := hS4.1
  exact m_growTree hw (by omega) hq ry4 b3 hv bL ⟨at_637 hS4, at_638 hS4, at_639 hS4, at_640 hS4, at_641 hS4⟩ (at_636 hS4) (at_647 hS4) hn (fun i hi => by rw [x1 i hi]; exact has i hi) (fun t h5 g ms => hQ t h5 (grw_congr x1 g) ms)
/-- the cells that both sides' trees touch -/
def shA (r : Nat) : Prop := imA 421 r ∨ clA 457 454 r ∨ mtA r ∨ mGA r
set_option maxRecDepth 16384 in
theorem Inv_sh {h1 h2 h3 h4 h5 : px_H} {V5 : Nat → Int32} {t : Nat × (Nat → aE)} (I : Inv h) (tk : tk2 h h1 421 nl ns bb (fun s => s) pos na nv) (cs : clS h1 h2 457 454 t) (s5 : shape h5) (e3 : ∀ r, r < 668 → r ≠ 619 → h3.2[r]? = h2.2[r]?) (f4 : ∀ r, ¬ mtA r → h4.2[r]? = h3.2[r]?) (f5 : ∀ r, ¬ mGA r → h5.2[r]? = h4.2[r]?) (b6 : h5.2[619]? = some (.inl (11, modF V5))) (v5 : ∀ k, k = 2 ∨ k = 44 ∨ k = 45 ∨ k = 46 → V5 k = fI h 619 k) : Inv h5 := by
  have back : ∀ r, r < 668 → r ≠ 619 → ¬ mtA r → ¬ mGA r → h5.2[r]? = h2.2[r]? := fun r a b c d => (f5 r d).trans ((f4 r c).trans (e3 r a b))
  have ne : ∀ r, (r ≤ 86 ∨ r = 88 ∨ r = 250 ∨ r = 620 ∨ 621 ≤ r ∧ r ≤ 634 ∨ 655 ≤ r ∧ r ≤ 667) → h5.2[r]? = h.2[r]? := fun r hr => by
    rw [back r (by omega) (by omega) (by unfold mtA; omega) (by unfold mGA mEL mEB mEA; omega), cs.2.2.2.1.2.2 r (by unfold clA trA; omega), tk.1.2.2 r (by unfold imA; omega)]
  refine Inv_gr I s5 ne ?_ ?_ (fun k hk => ?_)
  · refine imS_up tk.2.2.1 (fun r a b => ?_)
    rw [back r (by omega) (by omega) (by unfold mtA; omega) (by unfold mGA mEL mEB mEA; omega), cs.2.2.2.1.2.2 r (by unfold clA trA; omega)]
  · refine tre_frm (tre_of cs.1) ?_
    exact back 458 (by decide) (by decide) (by unfold mtA; omega) (by unfold mGA mEL mEB mEA; omega)
  · rw [fI_mod b6 hk]; exact v5 k hk
set_option maxRecDepth 16384 in
theorem told_1 (cy : CY h (2 + 11 * q) S) (ry : RY h q S) (hj : j < 8) (te : yT S j = true) : iA h (2 + 11 * q + 10) j = 1 ∧ iA h 628 (8 * q + j) = 1 := by
  obtain ⟨-, -, -, -, -, -, -, -, -, T, j1, j2⟩ := cy
  obtain ⟨-, -, -, -, -, -, -, -, -, -, T', l1, l2⟩ := ry
  exact ⟨by rw [iA_of j1, j2 j hj, if_pos te], by rw [iA_of l1, l2 j hj, if_pos te]⟩
set_option maxRecDepth 16384 in
theorem st_image_2 {i : Nat} {a b c : Option Value} (hL : sx.1 ≤ 3072) (hi : i + 6 ≤ sx.1) (hx : sx.2 (i + 1) = nI q) (hw : sx.2 (i + 2) = nI j) (h3 : sx.2 (i + 3) = 2) (I : Inv h) (hq : q < 2) (hj8 : j < 8) (ok : yOK S) (cy : CY h (2 + 11 * q) S) (ry : RY h q S) (te : yT S j = true) (hQ : beh sx i h Q) : px_Wp sx 277 531 (lawL (nI i) a b c) [] h Q := by
  have hS := I.1
  have hl := hS.1
  obtain ⟨R, B, k, s, u, l, nl, ns, pos, na, nv, bb, tI, has⟩ := inv_toldJ ok cy ry hj8 te
  have nl12 : nl ≤ 12 := tI.2.2.2.2.2.2.2.2.1
  have hw0 := (yOK_good ok).1
  obtain ⟨c1, c2, c3, c4, c5, c6, c7⟩ := yd_cells hS hq
  obtain ⟨t1, t2⟩ := told_1 cy ry hj8 te
  have hj : px_in (nI (i + 1)) sx.1 = true := px_inb (by omega) (by omega)
  have hk : (nI (i + 1)).toNatClampNeg = i + 1 := nI_clamp (by omega)
  have hj2 : px_in (nI (i + 2)) sx.1 = true := px_inb (by omega) (by omega)
  have hk2 : (nI (i + 2)).toNatClampNeg = i + 2 := nI_clamp (by omega)
  have hj3 : px_in (nI (i + 3)) sx.1 = true := px_inb (by omega) (by omega)
  have hk3 : (nI (i + 3)).toNatClampNeg = i + 3 := nI_clamp (by omega)
  have y0 : ¬ nI q < 0 := nI_pos (by omega)
  have y1 : ¬ (1 : Int32) < nI q := nI_nlt (a := 1) (by omega) (by decide)
  have iq2 : px_in (nI q) 2 = true := px_inb hq (by decide)
  have cq2 : (nI q).toNatClampNeg = q := nI_clamp (by omega)
  have m8 := mul_8 hq
  have g : ¬ nI j < 0 := nI_pos (by omega)
  have g' : ¬ (7 : Int32) < nI j := nI_nlt (a := 7) (by omega) (by decide)
  have i8 : px_in (nI j) 8 = true := px_inb hj8 (by decide)
  have i16 : px_in (nI (8 * q + j)) 16 = true := px_inb (by omega) (by decide)
  have c8 : (nI j).toNatClampNeg = j := nI_clamp (by omega)
  have c16 : (nI (8 * q + j)).toNatClampNeg = 8 * q + j := nI_clamp (by omega)
  have hyr := yrd_at hq
  have hY1 := c1
  unfold yrdF at hY1
  simp only [lawL, pc277_531, pc277_531n, pc277_531s, pc277_532, pc277_532n, pc277_532s, pc277_533, pc277_535, pc277_536, pc277_537, pc277_538, pc277_538n, pc277_538s, pc277_539, pc277_541, pc277_542, pc277_543, pc277_544, pc277_544n, pc277_544s, pc277_545, pc277_547, pc277_548, pc277_549, pc277_550, pc277_550n, pc277_550s, pc277_551, pc277_554, pc277_556, pc277_556n, pc277_556s, pc277_557, pc277_557n, pc277_557s, pc277_558, pc277_560, pc277_561, pc277_562, pc277_563, pc277_563n, pc277_563s, pc277_564, pc277_566, pc277_567, pc277_568, pc277_569, pc277_569n, pc277_569s, pc277_570, pc277_572, pc277_573, pc277_574, pc277_575, pc277_578, pc277_580, pc277_580n, pc277_580s, pc277_581, pc277_584, pc277_586, pc277_589, pc277_590, pc277_591, pc277_593, pc277_596, pc277_596n, pc277_596s, pc277_597, pc277_598, pc277_599, pc277_601, pc277_602, pc277_603, pc277_606, pc277_607, pc277_608, pc263_0, pc263_0n, pc263_2, pc263_3, pc263_3n, pc263_4, pc263_5, pc263_6, pc263_7, pc263_10, pc263_11, pc263_12, pc263_15, pc263_15n, pc263_17, pc263_18, pc263_19, pc263_19n, pc263_21, pc263_22, pc263_23, pc263_24, pc11_0, pc11_0n, pc11_1, pc11_2, pc11_5, pc11_5n, pc11_7, pc11_8, pc11_11, pc11_11n, pc11_13, pc11_14, pc11_17, pc11_17n, pc11_19, pc11_20, pc11_20n, pc11_21, pc11_24, pc4_0, pc4_1, pc4_4, pc4_5, pc4_5n, pc4_6, pc4_9, pc4_10, pc4_13, pc4_16, pc4_16r, pc4_21, pc4_21n, pc4_22, pc4_25, pc4_26, pc4_27n, pc4_27, pc5_0, pc5_1, pc5_4, pc5_5, pc5_7, pc5_10, pc5_13, pc5_13r, pc5_18, pc9_0, pc9_0n, pc9_1, pc9_4, pc9_5, pc9_6, pc9_9, pc9_12, pc9_12r, pc9_17, px_op_some, px_kv_ap, px_ki_ap, px_kl_ap, px_kn_ap, px_kh_ap, px_op_none, px_K_some, px_K_none, px_K_thr, px_kill, ↓reduceIte, if_true, if_false, true_and, and_true, px_gf, px_pf, px_ai, px_aj, px_aa, px_wi, px_wj, px_wa, px_an, px_cls, yr_0, yr_1, tr_0, tr_1, tr_2, tr_3, px_rf, of_2, of_4, in_02, in_12, in_04, in_14, in_24, in_34, Nat.reduceLeDiff, in_01, lgc_self, Int32.reduceToNatClampNeg, wr_at, al_at, px_wr_len, px_al_len, px_wr_1, px_al_1, tg_0, tg_1, tg_2, tg_3, tg_12, tg_15, tg_17, tg_18, tg_i1, tg_b0, tg_b3, px_fit, Nat.reduceEqDiff, Nat.reduceLT, Nat.reduceAdd, Option.some.injEq, up_at, px_wr_wr, i32_le, Int32.reduceLE, Int32.reduceLT, mf_len, nar_0, nar_1, px_KH_some, px_KH_none, px_KH_thr, List.length_cons, List.length_nil, List.getElem?_cons_zero, List.getElem?_cons_succ, List.set_cons_zero, List.set_cons_succ, ↓reduceIte, Nat.lt_irrefl, ne_0_1, ne_0_2, ne_0_3, ne_0_4, ne_0_5, ne_1_0, ne_1_2, ne_1_3, ne_1_4, ne_1_5, ne_2_0, ne_2_1, ne_2_3, ne_2_4, ne_2_5, ne_3_0, ne_3_1, ne_3_2, ne_3_4, ne_3_5, ne_4_0, ne_4_1, ne_4_2, ne_4_3, ne_4_5, ne_5_0, ne_5_1, ne_5_2, ne_5_3, ne_5_4, hd_256_12, hd_256_16, hd_257_12, hd_258_12, hd_259_12, hd_260_12, hd_261_12, hd_261_13, hd_261_16, hd_262_12, hd_262_13, hd_262_16, hd_263_12, hd_263_13, hd_264_12, hd_264_13, hd_264_14, hd_265_12, hd_265_13, hd_265_14, hd_266_12, hd_267_12, hd_267_13, hd_267_14, hd_268_12, hd_269_12, hd_269_14, hd_270_12, hd_271_12, hd_272_12, hd_273_12, hd_273_13, hd_273_15, hd_274_12, hd_274_15, hd_275_12, hd_275_15, hd_276_12, nI_p1, nI_p2, nI_p3, nI_p4, nI_p5, not_true_eq_false, not_false_eq_true, and_self, mf_0, mf_1, mf_2, mf_3, mf_4, mf_5, mf_6, mf_7, mf_8, mf_9, mf_10, mf_11, mf_12, mf_13, mf_14, mf_15, mf_16, mf_17, mf_18, mf_19, mf_20, mf_21, mf_22, mf_23, mf_24, mf_25, mf_26, mf_27, mf_28, mf_29, mf_30, mf_31, mf_32, mf_33, mf_34, mf_35, mf_36, mf_37, mf_38, mf_39, mf_40, mf_41, mf_42, mf_43, mf_44, mf_45, mf_46, mf_47, mf_48, mf_49, mf_50, mf_51, mf_52, mf_53, mf_54, mf_55, mf_56, mf_57, mf_58, mf_59, mf_60, mf_61, mfs_0, mfs_2, mfs_17, mfs_20, mfs_26, mfs_32, mfs_34, mfs_36, mfs_38, mfs_43, mfs_44, mfs_45, mfs_46, mfs_47, iy_0, iy_1, iy_2, iy_3, iy_4, iy_5, iy_6, at_0 hS, at_1 hS, at_619 hS, shape_1 hS, shape_2 hS, hj, hk, hx, hj2, hk2, hw, hj3, hk3, h3, lt_2, ge_8, y0, y1, iq2, cq2, hyr, hY1, c6, c7, g, g', i8, c8, t1]
  refine c_readJ hS hq hj8 tI I.2.2.2.1 (fun h1 tk => ?_)
  have hS1 := tk.2.1 hS
  have f1 := tk.1
  have z0 : h1.2[0]? = _ := frm_at f1 (fun z => by have := z.1; omega) (at_0 hS)
  simp only [px_K_none, pc11_27, pc11_28, pc11_56, pc11_56n, pc11_57, pc11_60, pc11_63, pc11_64, pc11_64n, pc11_65, pc11_68, pc11_71, pc11_72, pc11_72n, pc11_73, pc11_76, pc11_76n, pc11_78, pc11_78n, pc11_79, pc11_82, pc11_82n, pc11_83, pc11_86, px_op_some, px_kv_ap, px_ki_ap, px_kl_ap, px_kn_ap, px_kh_ap, px_op_none, px_K_some, px_K_none, px_K_thr, px_kill, ↓reduceIte, if_true, if_false, true_and, and_true, px_gf, px_pf, px_ai, px_aj, px_aa, px_wi, px_wj, px_wa, px_an, px_cls, yr_0, yr_1, tr_0, tr_1, tr_2, tr_3, px_rf, of_2, of_4, in_02, in_12, in_04, in_14, in_24, in_34, Nat.reduceLeDiff, in_01, lgc_self, Int32.reduceToNatClampNeg, wr_at, al_at, px_wr_len, px_al_len, px_wr_1, px_al_1, tg_0, tg_1, tg_2, tg_3, tg_12, tg_15, tg_17, tg_18, tg_i1, tg_b0, tg_b3, px_fit, Nat.reduceEqDiff, Nat.reduceLT, Nat.reduceAdd, Option.some.injEq, up_at, px_wr_wr, i32_le, Int32.reduceLE, Int32.reduceLT, mf_len, nar_0, nar_1, px_KH_some, px_KH_none, px_KH_thr, List.length_cons, List.length_nil, List.getElem?_cons_zero, List.getElem?_cons_succ, List.set_cons_zero, List.set_cons_succ, ↓reduceIte, Nat.lt_irrefl, ne_0_1, ne_0_2, ne_0_3, ne_0_4, ne_0_5, ne_1_0, ne_1_2, ne_1_3, ne_1_4, ne_1_5, ne_2_0, ne_2_1, ne_2_3, ne_2_4, ne_2_5, ne_3_0, ne_3_1, ne_3_2, ne_3_4, ne_3_5, ne_4_0, ne_4_1, ne_4_2, ne_4_3, ne_4_5, ne_5_0, ne_5_1, ne_5_2, ne_5_3, ne_5_4, hd_256_12, hd_256_16, hd_257_12, hd_258_12, hd_259_12, hd_260_12, hd_261_12, hd_261_13, hd_261_16, hd_262_12, hd_262_13, hd_262_16, hd_263_12, hd_263_13, hd_264_12, hd_264_13, hd_264_14, hd_265_12, hd_265_13, hd_265_14, hd_266_12, hd_267_12, hd_267_13, hd_267_14, hd_268_12, hd_269_12, hd_269_14, hd_270_12, hd_271_12, hd_272_12, hd_273_12, hd_273_13, hd_273_15, hd_274_12, hd_274_15, hd_275_12, hd_275_15, hd_276_12, nI_p1, nI_p2, nI_p3, nI_p4, nI_p5, not_true_eq_false, not_false_eq_true, and_self, mf_0, mf_1, mf_2, mf_3, mf_4, mf_5, mf_6, mf_7, mf_8, mf_9, mf_10, mf_11, mf_12, mf_13, mf_14, mf_15, mf_16, mf_17, mf_18, mf_19, mf_20, mf_21, mf_22, mf_23, mf_24, mf_25, mf_26, mf_27, mf_28, mf_29, mf_30, mf_31, mf_32, mf_33, mf_34, mf_35, mf_36, mf_37, mf_38, mf_39, mf_40, mf_41, mf_42, mf_43, mf_44, mf_45, mf_46, mf_47, mf_48, mf_49, mf_50, mf_51, mf_52, mf_53, mf_54, mf_55, mf_56, mf_57, mf_58, mf_59, mf_60, mf_61, mfs_0, mfs_2, mfs_17, mfs_20, mfs_26, mfs_32, mfs_34, mfs_36, mfs_38, mfs_43, mfs_44, mfs_45, mfs_46, mfs_47, iy_0, iy_1, iy_2, iy_3, iy_4, iy_5, iy_6, z0, at_454 hS1]
  refine c_growJ I hq ok cy tk nl12 has (fun t h2 g2 cs => ?_)
  have hS2 := cs.2.2.2.2 hS1
  have f2 := cs.2.2.2.1
  have n4 : ∀ r, 619 ≤ r → h2.2[r]? = h.2[r]? := fun r hr => (f2.2.2 r (by unfold clA trA; omega)).trans (f1.2.2 r (by unfold imA; omega))
  have z0' : h2.2[0]? = _ := (f2.2.2 0 (by unfold clA trA; omega)).trans z0
  have z457 := cs.1.1
  have z619 : h2.2[619]? = _ := (n4 619 (by decide)).trans (at_619 hS)
  have z628 : h2.2[628]? = _ := (n4 628 (by decide)).trans (at_628 hS)
  have z668 : h2.2[668]? = _ := (n4 668 (by decide)).trans (at_668 hS)
  have hl2 := hS2.1
  simp only [px_K_none, lawL, pc277_531, pc277_531n, pc277_531s, pc277_532, pc277_532n, pc277_532s, pc277_533, pc277_535, pc277_536, pc277_537, pc277_538, pc277_538n, pc277_538s, pc277_539, pc277_541, pc277_542, pc277_543, pc277_544, pc277_544n, pc277_544s, pc277_545, pc277_547, pc277_548, pc277_549, pc277_550, pc277_550n, pc277_550s, pc277_551, pc277_554, pc277_556, pc277_556n, pc277_556s, pc277_557, pc277_557n, pc277_557s, pc277_558, pc277_560, pc277_561, pc277_562, pc277_563, pc277_563n, pc277_563s, pc277_564, pc277_566, pc277_567, pc277_568, pc277_569, pc277_569n, pc277_569s, pc277_570, pc277_572, pc277_573, pc277_574, pc277_575, pc277_578, pc277_580, pc277_580n, pc277_580s, pc277_581, pc277_584, pc277_586, pc277_589, pc277_590, pc277_591, pc277_593, pc277_596, pc277_596n, pc277_596s, pc277_597, pc277_598, pc277_599, pc277_601, pc277_602, pc277_603, pc277_606, pc277_607, pc277_608, pc263_0, pc263_0n, pc263_2, pc263_3, pc263_3n, pc263_4, pc263_5, pc263_6, pc263_7, pc263_10, pc263_11, pc263_12, pc263_15, pc263_15n, pc263_17, pc263_18, pc263_19, pc263_19n, pc263_21, pc263_22, pc263_23, pc263_24, pc11_89, pc11_89n, pc11_90, pc11_93, pc11_96, pc229_0, pc229_1, pc229_2, pc229_5, pc229_7, pc229_9, pc229_12, pc229_12n, pc229_13, pc229_16, pc229_18, pc229_19, pc229_20, pc229_21, pc229_22, pc229_23, pc229_26, pc229_27, pc229_30, pc229_31, pc229_33, pc229_35, pc229_38, pc229_38n, pc229_39, pc229_41, pc229_44, pc229_45, pc229_48, pc229_49, pc229_51, pc229_52, pc229_55, pc229_55r, pc229_56, pc229_57, pc229_58, pc229_58n, pc229_59, pc229_60, pc229_61, pc229_62, pc229_65, pc229_68, pc229_69, pc229_72, pc229_73, pc229_74, pc229_75, pc229_78, pc229_81, pc229_82, pc229_83, pc229_83n, pc229_84, pc229_85, pc229_86, pc148_0, pc148_1, pc148_4, pc148_7, pc148_8, pc148_9, pc148_11, pc148_14, pc148_17, pc148_18, pc148_21, pc148_22, pc149_0, pc149_1, pc149_2, pc149_3, pc149_6, pc144_0, pc144_1, pc144_2, pc144_5, pc144_6, pc144_7, pc144_10, pc144_11, pc144_14, pc144_15, pc145_0, pc145_0n, pc145_1, pc145_2, pc145_5, pc145_6, pc145_9, pc145_10, pc145_13, pc145_14, pc145_17, pc145_18, pc145_21, pc145_22, pc145_25, pc145_26, pc145_29, pc145_29n, pc145_30, pc145_33, pc145_36, pc145_37, pc145_40, pc145_41, pc142_0, pc142_0n, pc142_1, pc142_4, px_op_some, px_kv_ap, px_ki_ap, px_kl_ap, px_kn_ap, px_kh_ap, px_op_none, px_K_some, px_K_none, px_K_thr, px_kill, ↓reduceIte, if_true, if_false, true_and, and_true, px_gf, px_pf, px_ai, px_aj, px_aa, px_wi, px_wj, px_wa, px_an, px_cls, yr_0, yr_1, tr_0, tr_1, tr_2, tr_3, px_rf, of_2, of_4, in_02, in_12, in_04, in_14, in_24, in_34, Nat.reduceLeDiff, in_01, lgc_self, Int32.reduceToNatClampNeg, wr_at, al_at, px_wr_len, px_al_len, px_wr_1, px_al_1, tg_0, tg_1, tg_2, tg_3, tg_12, tg_15, tg_17, tg_18, tg_i1, tg_b0, tg_b3, px_fit, Nat.reduceEqDiff, Nat.reduceLT, Nat.reduceAdd, Option.some.injEq, up_at, px_wr_wr, i32_le, Int32.reduceLE, Int32.reduceLT, mf_len, nar_0, nar_1, px_KH_some, px_KH_none, px_KH_thr, List.length_cons, List.length_nil, List.getElem?_cons_zero, List.getElem?_cons_succ, List.set_cons_zero, List.set_cons_succ, ↓reduceIte, Nat.lt_irrefl, ne_0_1, ne_0_2, ne_0_3, ne_0_4, ne_0_5, ne_1_0, ne_1_2, ne_1_3, ne_1_4, ne_1_5, ne_2_0, ne_2_1, ne_2_3, ne_2_4, ne_2_5, ne_3_0, ne_3_1, ne_3_2, ne_3_4, ne_3_5, ne_4_0, ne_4_1, ne_4_2, ne_4_3, ne_4_5, ne_5_0, ne_5_1, ne_5_2, ne_5_3, ne_5_4, hd_256_12, hd_256_16, hd_257_12, hd_258_12, hd_259_12, hd_260_12, hd_261_12, hd_261_13, hd_261_16, hd_262_12, hd_262_13, hd_262_16, hd_263_12, hd_263_13, hd_264_12, hd_264_13, hd_264_14, hd_265_12, hd_265_13, hd_265_14, hd_266_12, hd_267_12, hd_267_13, hd_267_14, hd_268_12, hd_269_12, hd_269_14, hd_270_12, hd_271_12, hd_272_12, hd_273_12, hd_273_13, hd_273_15, hd_274_12, hd_274_15, hd_275_12, hd_275_15, hd_276_12, nI_p1, nI_p2, nI_p3, nI_p4, nI_p5, not_true_eq_false, not_false_eq_true, and_self, mf_0, mf_1, mf_2, mf_3, mf_4, mf_5, mf_6, mf_7, mf_8, mf_9, mf_10, mf_11, mf_12, mf_13, mf_14, mf_15, mf_16, mf_17, mf_18, mf_19, mf_20, mf_21, mf_22, mf_23, mf_24, mf_25, mf_26, mf_27, mf_28, mf_29, mf_30, mf_31, mf_32, mf_33, mf_34, mf_35, mf_36, mf_37, mf_38, mf_39, mf_40, mf_41, mf_42, mf_43, mf_44, mf_45, mf_46, mf_47, mf_48, mf_49, mf_50, mf_51, mf_52, mf_53, mf_54, mf_55, mf_56, mf_57, mf_58, mf_59, mf_60, mf_61, mfs_0, mfs_2, mfs_17, mfs_20, mfs_26, mfs_32, mfs_34, mfs_36, mfs_38, mfs_43, mfs_44, mfs_45, mfs_46, mfs_47, iy_0, iy_1, iy_2, iy_3, iy_4, iy_5, iy_6, z0', z457, z619, z628, z668, shape_1 hS2, shape_2 hS2, hj, hk, hx, hj2, hk2, hw, hj3, hk3, h3, y0, y1, g, g', i16, c16, t2, m8, nI_add, Int32.reduceLT, Int32.reduceLE]
  generalize hX : px_wr (px_wr h2 668 (.inr (2, 1, .inr (.inl (px_up (lA h 668) 0 (nI t.1).toInt64))))) 619 (.inl (11, modF (px_up (fI h 619) 0 0))) = h3
  have hX6 : h3.2[619]? = some (.inl (11, modF (px_up (fI h 619) 0 0))) := by rw [← hX, wr_at, if_pos rfl, if_pos (by rw [px_wr_len]; omega)]
  have hXe : ∀ r, r < 668 → r ≠ 619 → h3.2[r]? = h2.2[r]? := fun r a b => by rw [← hX, wr_at, if_neg (fun z => b z.symm), wr_at, if_neg (by omega)]
  have hX8 : h3.2[668]? = some (.inr (2, 1, .inr (.inl (px_up (lA h 668) 0 (nI t.1).toInt64)))) := by rw [← hX, wr_at, if_neg (by decide), wr_at, if_pos rfl, if_pos (by omega)]
  have hS3 : shape h3 := by
    rw [← hX]
    exact shape_int (r := 619) (k := 0) (shape_la hS2 z668) (by rw [wr_at, if_neg (by decide)]; exact z619) rfl
  have hXl : h3.2.length = h.2.length ∧ h3.1 = h.1 := by
    rw [← hX]
    exact ⟨by rw [px_wr_len, px_wr_len, f2.2.1, f1.2.1], f2.1.trans f1.1⟩
  refine m_takeJ hS hq hj8 tI (fun r hr => (hXe r (by omega) (by omega)).trans (n4 r (by omega))) hX6 (fun h4 tm => ?_)
  have tm' := tm
  obtain ⟨L2, NM, NS, VL, VS, ⟨b1, b2, b3, bL, -⟩, x1, -⟩ := tm'
  have hS4 := b2 hS3
  have ry4 : RY h4 q S := RY_frm ry (fun r a b => (b1.2.2 r (by unfold mtA; omega)).trans ((hXe r (by omega) (by omega)).trans (n4 r (by omega))))
  simp only [px_K_none, pc229_89, pc229_90, pc229_91, pc229_94, pc229_94n, pc229_95, pc229_96, px_op_some, px_kv_ap, px_ki_ap, px_kl_ap, px_kn_ap, px_kh_ap, px_op_none, px_K_some, px_K_none, px_K_thr, px_kill, ↓reduceIte, if_true, if_false, true_and, and_true, px_gf, px_pf, px_ai, px_aj, px_aa, px_wi, px_wj, px_wa, px_an, px_cls, yr_0, yr_1, tr_0, tr_1, tr_2, tr_3, px_rf, of_2, of_4, in_02, in_12, in_04, in_14, in_24, in_34, Nat.reduceLeDiff, in_01, lgc_self, Int32.reduceToNatClampNeg, wr_at, al_at, px_wr_len, px_al_len, px_wr_1, px_al_1, tg_0, tg_1, tg_2, tg_3, tg_12, tg_15, tg_17, tg_18, tg_i1, tg_b0, tg_b3, px_fit, Nat.reduceEqDiff, Nat.reduceLT, Nat.reduceAdd, Option.some.injEq, up_at, px_wr_wr, i32_le, Int32.reduceLE, Int32.reduceLT, mf_len, nar_0, nar_1, px_KH_some, px_KH_none, px_KH_thr, List.length_cons, List.length_nil, List.getElem?_cons_zero, List.getElem?_cons_succ, List.set_cons_zero, List.set_cons_succ, ↓reduceIte, Nat.lt_irrefl, ne_0_1, ne_0_2, ne_0_3, ne_0_4, ne_0_5, ne_1_0, ne_1_2, ne_1_3, ne_1_4, ne_1_5, ne_2_0, ne_2_1, ne_2_3, ne_2_4, ne_2_5, ne_3_0, ne_3_1, ne_3_2, ne_3_4, ne_3_5, ne_4_0, ne_4_1, ne_4_2, ne_4_3, ne_4_5, ne_5_0, ne_5_1, ne_5_2, ne_5_3, ne_5_4, hd_256_12, hd_256_16, hd_257_12, hd_258_12, hd_259_12, hd_260_12, hd_261_12, hd_261_13, hd_261_16, hd_262_12, hd_262_13, hd_262_16, hd_263_12, hd_263_13, hd_264_12, hd_264_13, hd_264_14, hd_265_12, hd_265_13, hd_265_14, hd_266_12, hd_267_12, hd_267_13, hd_267_14, hd_268_12, hd_269_12, hd_269_14, hd_270_12, hd_271_12, hd_272_12, hd_273_12, hd_273_13, hd_273_15, hd_274_12, hd_274_15, hd_275_12, hd_275_15, hd_276_12, nI_p1, nI_p2, nI_p3, nI_p4, nI_p5, not_true_eq_false, not_false_eq_true, and_self, mf_0, mf_1, mf_2, mf_3, mf_4, mf_5, mf_6, mf_7, mf_8, mf_9, mf_10, mf_11, mf_12, mf_13, mf_14, mf_15, mf_16, mf_17, mf_18, mf_19, mf_20, mf_21, mf_22, mf_23, mf_24, mf_25, mf_26, mf_27, mf_28, mf_29, mf_30, mf_31, mf_32, mf_33, mf_34, mf_35, mf_36, mf_37, mf_38, mf_39, mf_40, mf_41, mf_42, mf_43, mf_44, mf_45, mf_46, mf_47, mf_48, mf_49, mf_50, mf_51, mf_52, mf_53, mf_54, mf_55, mf_56, mf_57, mf_58, mf_59, mf_60, mf_61, mfs_0, mfs_2, mfs_17, mfs_20, mfs_26, mfs_32, mfs_34, mfs_36, mfs_38, mfs_43, mfs_44, mfs_45, mfs_46, mfs_47, iy_0, iy_1, iy_2, iy_3, iy_4, iy_5, iy_6, b3]
  refine m_growJ hS4 hq ok ry4 tm (by rw [up_ne (by decide), up_same]) nl12 has (fun t' h5 g5 ms => ?_)
  have et : t = t' := grw_det hw0 (fun _ _ => rfl) g2 g5
  subst et
  obtain ⟨V5, b6, v20, vj, -, -, -, -, f5, s5⟩ := ms
  have v0 : V5 0 = 0 := by rw [vj 0 (by decide) (by decide) (by decide), up_ne (by decide), up_ne (by decide), up_same]
  have z2s : h5.2[668]? = some (.inr (2, 1, .inr (.inl (px_up (lA h 668) 0 (nI t.1).toInt64)))) := (f5.2.2 668 (by unfold mGA mEL mEB mEA; omega)).trans ((b1.2.2 668 (by unfold mtA; omega)).trans hX8)
  simp only [px_K_none, lawL, pc277_531, pc277_531n, pc277_531s, pc277_532, pc277_532n, pc277_532s, pc277_533, pc277_535, pc277_536, pc277_537, pc277_538, pc277_538n, pc277_538s, pc277_539, pc277_541, pc277_542, pc277_543, pc277_544, pc277_544n, pc277_544s, pc277_545, pc277_547, pc277_548, pc277_549, pc277_550, pc277_550n, pc277_550s, pc277_551, pc277_554, pc277_556, pc277_556n, pc277_556s, pc277_557, pc277_557n, pc277_557s, pc277_558, pc277_560, pc277_561, pc277_562, pc277_563, pc277_563n, pc277_563s, pc277_564, pc277_566, pc277_567, pc277_568, pc277_569, pc277_569n, pc277_569s, pc277_570, pc277_572, pc277_573, pc277_574, pc277_575, pc277_578, pc277_580, pc277_580n, pc277_580s, pc277_581, pc277_584, pc277_586, pc277_589, pc277_590, pc277_591, pc277_593, pc277_596, pc277_596n, pc277_596s, pc277_597, pc277_598, pc277_599, pc277_601, pc277_602, pc277_603, pc277_606, pc277_607, pc277_608, pc229_99, pc229_100, pc229_103, pc229_103n, pc229_104, pc229_107, pc229_110, pc229_111, pc229_112, pc229_115, pc229_115n, pc229_116, pc229_119, pc229_122, pc229_122n, pc229_123, pc229_126, pc142_0, pc142_0n, pc142_1, pc142_4, px_op_some, px_kv_ap, px_ki_ap, px_kl_ap, px_kn_ap, px_kh_ap, px_op_none, px_K_some, px_K_none, px_K_thr, px_kill, ↓reduceIte, if_true, if_false, true_and, and_true, px_gf, px_pf, px_ai, px_aj, px_aa, px_wi, px_wj, px_wa, px_an, px_cls, yr_0, yr_1, tr_0, tr_1, tr_2, tr_3, px_rf, of_2, of_4, in_02, in_12, in_04, in_14, in_24, in_34, Nat.reduceLeDiff, in_01, lgc_self, Int32.reduceToNatClampNeg, wr_at, al_at, px_wr_len, px_al_len, px_wr_1, px_al_1, tg_0, tg_1, tg_2, tg_3, tg_12, tg_15, tg_17, tg_18, tg_i1, tg_b0, tg_b3, px_fit, Nat.reduceEqDiff, Nat.reduceLT, Nat.reduceAdd, Option.some.injEq, up_at, px_wr_wr, i32_le, Int32.reduceLE, Int32.reduceLT, mf_len, nar_0, nar_1, px_KH_some, px_KH_none, px_KH_thr, List.length_cons, List.length_nil, List.getElem?_cons_zero, List.getElem?_cons_succ, List.set_cons_zero, List.set_cons_succ, ↓reduceIte, Nat.lt_irrefl, ne_0_1, ne_0_2, ne_0_3, ne_0_4, ne_0_5, ne_1_0, ne_1_2, ne_1_3, ne_1_4, ne_1_5, ne_2_0, ne_2_1, ne_2_3, ne_2_4, ne_2_5, ne_3_0, ne_3_1, ne_3_2, ne_3_4, ne_3_5, ne_4_0, ne_4_1, ne_4_2, ne_4_3, ne_4_5, ne_5_0, ne_5_1, ne_5_2, ne_5_3, ne_5_4, hd_256_12, hd_256_16, hd_257_12, hd_258_12, hd_259_12, hd_260_12, hd_261_12, hd_261_13, hd_261_16, hd_262_12, hd_262_13, hd_262_16, hd_263_12, hd_263_13, hd_264_12, hd_264_13, hd_264_14, hd_265_12, hd_265_13, hd_265_14, hd_266_12, hd_267_12, hd_267_13, hd_267_14, hd_268_12, hd_269_12, hd_269_14, hd_270_12, hd_271_12, hd_272_12, hd_273_12, hd_273_13, hd_273_15, hd_274_12, hd_274_15, hd_275_12, hd_275_15, hd_276_12, nI_p1, nI_p2, nI_p3, nI_p4, nI_p5, not_true_eq_false, not_false_eq_true, and_self, mf_0, mf_1, mf_2, mf_3, mf_4, mf_5, mf_6, mf_7, mf_8, mf_9, mf_10, mf_11, mf_12, mf_13, mf_14, mf_15, mf_16, mf_17, mf_18, mf_19, mf_20, mf_21, mf_22, mf_23, mf_24, mf_25, mf_26, mf_27, mf_28, mf_29, mf_30, mf_31, mf_32, mf_33, mf_34, mf_35, mf_36, mf_37, mf_38, mf_39, mf_40, mf_41, mf_42, mf_43, mf_44, mf_45, mf_46, mf_47, mf_48, mf_49, mf_50, mf_51, mf_52, mf_53, mf_54, mf_55, mf_56, mf_57, mf_58, mf_59, mf_60, mf_61, mfs_0, mfs_2, mfs_17, mfs_20, mfs_26, mfs_32, mfs_34, mfs_36, mfs_38, mfs_43, mfs_44, mfs_45, mfs_46, mfs_47, iy_0, iy_1, iy_2, iy_3, iy_4, iy_5, iy_6, b6, v20, v0, z2s]
  refine hQ h5 _ _ _ (Inv_sh I tk cs (s5 hS4) hXe b1.2.2 f5.2.2 b6 (fun k hk => ?_)) (by rw [f5.2.1, b1.2.1]; omega) (by rw [f5.1, b1.1]; omega)
  rw [vj k (by omega) (by omega) (by omega), up_ne (by omega), up_ne (by omega), up_ne (by omega)]
end SHOW
