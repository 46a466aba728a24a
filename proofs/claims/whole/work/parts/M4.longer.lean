/-! COMMANDS, the class's: add, join -/
/-- an entry with m bytes more -/
def ctE (e : aE) (m : Nat) (c : Nat → Int32) : aE := (eL e, eP e, 2, eN e + m, fun j => if j < eN e then eC e j else c (j - eN e))
section LONGER
variable {sx : Nat × (Nat → Int32)} {h : px_H} {r N n s c : Nat} {f : Nat → Int32} {Q : px_O → px_H → Prop}
set_option maxRecDepth 16384 in
theorem r_addAllG {r' N' n' : Nat} {f' : Nat → Int32} (w : rowAt h r N n f) (w' : rowAt h r' N' n' f') (hs : s + c ≤ n') (hc : n + c ≤ N) (hQ : Q (.inl none) (rowH h r N (n + c) (va_cpy f' f s n c))) :
    px_Wp sx 33 0 [some (.ref r), some (.ref r'), some (.int (nI s)), some (.int (nI c))] [] h Q := by
  have hn := w.2.2
  have hn' := w'.2.2
  have hl := rowAt_lt w
  have hcl : px_cls h r = some 1 := by unfold px_cls; rw [w.1]
  have s0 : ¬ nI s < 0 := nI_pos (by omega)
  have c0 : ¬ nI c < 0 := nI_pos (by omega)
  have g1 : ¬ nI (n' - s) < nI c := nI_nlt (by omega) (by omega)
  have g2 : ¬ nI (N - n) < nI c := nI_nlt (by omega) (by omega)
  have n0 : ¬ nI n < 0 := nI_pos (by omega)
  have cs : (nI s).toNatClampNeg = s := nI_clamp (by omega)
  have cc : (nI c).toNatClampNeg = c := nI_clamp (by omega)
  have cn : (nI n).toNatClampNeg = n := nI_clamp (by omega)
  obtain ⟨w1, w2, -⟩ := w
  obtain ⟨u1, u2, -⟩ := w'
  have hp : px_cp h (r' + 1) (r + 1) (nI s) (nI n) (nI c) = some (px_wr h (r + 1) (.inr (0, N, .inl (va_cpy f' f s n c)))) := by
    unfold px_cp
    rw [u2, w2]
    simp only [cs, cc, cn]
    rw [if_pos ⟨⟨s0, n0, c0⟩, by omega, by omega⟩]
    rfl
  have e : r + 1 ≠ r := by omega
  simp only [pc33_0, pc33_1, pc33_4, pc33_5, pc33_8, pc33_9, pc33_9n, pc33_10, pc33_13, pc33_14, pc33_15, pc33_18, pc33_18n, pc33_19, pc33_20, px_gf, u1, if_true, List.getElem?_cons_zero, List.getElem?_cons_succ, px_op_some, px_kv_ap, px_ki_ap, px_kl_ap, px_kn_ap, px_kh_ap, if_neg s0, if_neg c0, nI_sub (show s ≤ n' by omega), if_neg g1, hcl, true_and]
  rw [r_hasRoom ⟨w1, w2, hn⟩, if_neg g2]
  have e3 : (r + 1 = r) = False := eq_false e
  simp only [px_K_some, pc33_23, pc33_26, pc33_26n, pc33_27, pc33_30, pc33_31, pc33_31n, pc33_32, pc33_35, pc33_35n, pc33_36, pc33_39, pc33_40, pc33_43, pc33_43n, pc33_44, pc33_44r, pc33_45, pc33_48, pc33_49, pc33_50, pc33_53, ne_1_0, if_false, px_gf, u1, w1, if_true, List.getElem?_cons_zero, List.getElem?_cons_succ, px_op_some, px_kv_ap, px_ki_ap, px_kl_ap, px_kn_ap, px_kh_ap, hp, wr_at, e3, px_pf, px_fit, List.length_cons, List.length_nil, Nat.reduceAdd, Nat.reduceLT, and_self, List.set_cons_succ, List.set_cons_zero, nI_add, true_and]
  exact hQ
end LONGER
section LONGER2
variable {sx : Nat × (Nat → Int32)} {h : px_H} {T n l M : Nat} {E : Nat → aE} {p : Nat → Nat} {f : Nat → Int32} {x4 : Int32} {Q : px_O → px_H → Prop}
set_option maxRecDepth 16384 in
theorem row_uniq {r N N' n n' : Nat} {f f' : Nat → Int32} (w : rowAt h r N n f) (w' : rowAt h r N' n' f') : N = N' ∧ n = n' ∧ f = f' := by
  obtain ⟨a1, a2, a3, a4⟩ := w
  obtain ⟨b1, b2, b3, b4⟩ := w'
  rw [a1] at b1
  rw [a2] at b2
  injection b1 with b1; injection b1 with b1; injection b1 with _ b1; injection b1 with _ b1; injection b1 with b1; injection b1 with b1
  injection b2 with b2; injection b2 with b2; injection b2 with _ b2; injection b2 with c1 b2; injection b2 with b2
  exact ⟨c1, (nI_eq (by omega) (by omega)).mp b1, b2⟩
/-! what stands in the shell's row is not lost when it grows -/
set_option maxRecDepth 16384 in
theorem ent_made {h' : px_H} {O M' : Nat} {e : aE} {f' : Nat → Int32} (w : entR h O e) (m : rowAt h 415 26000 M f) (m' : rowAt h' 415 26000 M' f') (hM : M ≤ M') (hf : ∀ k, k < M → f' k = f k) (ne : ∀ k, k ≠ 415 → k ≠ 416 → h'.2[k]? = h.2[k]?) (hO : O ≠ 415 ∧ O ≠ 416 ∧ O ≠ 414) : entR h' O e := by
  obtain ⟨src, st, cn, g, o2, o3, o4, o5⟩ := w
  refine ⟨src, st, cn, g, by rw [ne _ hO.1 hO.2.1]; exact o2, by rw [ne _ (by omega) (by omega)]; exact o3, o4, ?_⟩
  rcases o5 with o5 | ⟨k2, r, s, N, nr, ff, s1, s2, s3, s4, s5, s6, s7⟩
  · exact .inl o5
  · by_cases x : r = 415
    · subst x
      obtain ⟨rfl, rfl, rfl⟩ := row_uniq s5 m
      exact .inr ⟨k2, 415, s, 26000, M', f', s1, s2, s3, s4, m', by omega, fun k hk => by rw [hf _ (by omega)]; exact s7 k hk⟩
    · unfold srcT at s1
      exact .inr ⟨k2, r, s, N, nr, ff, s1, s2, s3, s4, ⟨by rw [ne _ (by omega) (by omega)]; exact s5.1, by rw [ne _ (by omega) (by omega)]; exact s5.2.1, s5.2.2⟩, s6, s7⟩
set_option maxRecDepth 16384 in
theorem tr_made {h' : px_H} {M' : Nat} {f' : Nat → Int32} (t : trR h T n E) (hn : n ≤ 80) (hT : T + 162 ≤ 414 ∨ 417 ≤ T) (m : rowAt h 415 26000 M f) (m' : rowAt h' 415 26000 M' f') (hM : M ≤ M') (hf : ∀ k, k < M → f' k = f k) (ne : ∀ k, k ≠ 415 → k ≠ 416 → h'.2[k]? = h.2[k]?) : trR h' T n E := by
  obtain ⟨t1, t2, ra, t3, t4, t5⟩ := t
  refine ⟨by rw [ne _ (by omega) (by omega)]; exact t1, fun k hk => itC_frm (t2 k hk) (ne _ (by omega) (by omega)) (ne _ (by omega) (by omega)), ra, by rw [ne _ (by omega) (by omega)]; exact t3, t4, fun i hi => ?_⟩
  obtain ⟨O, o1, o2⟩ := t5 i hi
  obtain ⟨k, k1, k2⟩ := prm_at t4 (show i < 80 by omega)
  rw [o1] at k2
  have hO := Option.some.inj k2
  exact ⟨O, o1, ent_made o2 m m' hM hf ne ⟨by omega, by omega, by omega⟩⟩
set_option maxRecDepth 16384 in
theorem tr_congr {E' : Nat → aE} (t : trR h T n E) (e : ∀ i, i < n → eL (E' i) = eL (E i) ∧ eP (E' i) = eP (E i) ∧ eK (E' i) = eK (E i) ∧ eN (E' i) = eN (E i) ∧ ∀ k, k < eN (E i) → eC (E' i) k = eC (E i) k) : trR h T n E' := by
  obtain ⟨t1, t2, ra, t3, t4, t5⟩ := t
  refine ⟨t1, t2, ra, t3, t4, fun i hi => ?_⟩
  obtain ⟨O, o1, src, st, cn, g, o2, o3, o4, o5⟩ := t5 i hi
  obtain ⟨e1, e2, e3, e4, e5⟩ := e i hi
  refine ⟨O, o1, src, st, cn, g, by rw [e1, e3]; exact o2, o3, by rw [e1, e2]; exact o4, ?_⟩
  rw [e3, e4]
  rcases o5 with o5 | ⟨k2, r, s, N, nr, ff, s1, s2, s3, s4, s5, s6, s7⟩
  · exact .inl o5
  · exact .inr ⟨k2, r, s, N, nr, ff, s1, s2, s3, s4, s5, s6, fun k hk => by rw [e5 k hk]; exact s7 k hk⟩
def mdA (T r : Nat) : Prop := trA T r ∨ r = 415 ∨ r = 416
set_option maxRecDepth 16384 in
theorem c_lengthen {r N nr s m : Nat} {ff c : Nat → Int32} (hSh : h.2[414]? = some (.inl (9, [.ref 415, .ref 417, .ref 419, .int x4]))) (a : enP h 417 l p) (hp : pth p l) (t : trR h T n E) (ok : tOK n E) (hT : treT T) (hTd : T + 162 ≤ 414) (hT9 : T = 249)
    (md : rowAt h 415 26000 M f) (hM : M + 1000 + m ≤ 26000) (sr : srcOK r) (w : rowAt h r N nr ff) (hs : s + m ≤ nr) (hf : ∀ j, j < m → ff (s + j) &&& 255 = c j)
    (hQ1 : ∀ i h' M' f', i < n → eP (E i) = p → eK (E i) = 2 → trR h' T n (px_up E i (ctE (E i) m c)) → rowAt h' 415 26000 M' f' → M' ≤ M + (if m = 0 then 0 else eN (E i) + m) → frm (mdA T) h h' → (shape h → shape h') → Q (.inl (some (.int 1))) h')
    (hQ0 : (¬ ∃ i, i < n ∧ eP (E i) = p ∧ eK (E i) = 2) → Q (.inl (some (.int 0))) h) :
    px_Wp sx 126 0 [some (.ref 414), some (.ref T), some (.ref r), some (.int (nI s)), some (.int (nI m)), none, none, none] [] h Q := by
  have cutp := cutP_all hp
  have h80 := ok.1
  obtain ⟨⟨kd, src, st, cn, o1⟩, -⟩ := id a
  have t1 := t.1
  have hcT : px_cls h T = some 3 := by unfold px_cls; rw [t1]
  have hN := w.2.2
  simp only [pc126_0, pc126_0n, pc126_1, pc126_1n, pc126_2, pc126_5, pc126_5n, pc126_6, pc126_9, pc126_12, px_op_some, px_kv_ap, px_ki_ap, px_kl_ap, px_kn_ap, px_kh_ap, px_op_none, px_K_some, px_K_none, px_K_thr, px_kill, ↓reduceIte, if_true, if_false, true_and, and_true, px_gf, hSh, o1, List.getElem?_cons_zero, List.getElem?_cons_succ, hcT]
  refine c_search t ok a hp (Nat.le_refl _) hp.1 (fun x hx => ?_)
  rw [cutp] at hx
  rcases hx with ⟨i, i1, rfl, i2⟩ | ⟨g, g1, rfl⟩
  · have li : eL (E i) = l := pth_len (ok.2.1 i i1).1 (by rw [i2]; exact hp)
    simp only [px_K_some, pc126_15, pc126_17, pc126_17n, pc126_18, pc126_20, px_op_some, px_kv_ap, px_ki_ap, px_kl_ap, px_kn_ap, px_kh_ap, px_op_none, px_K_some, px_K_none, px_K_thr, px_kill, ↓reduceIte, if_true, if_false, true_and, and_true, px_kill, hcT]
    refine c_kind_in t ok i1 ?_
    by_cases k2 : eK (E i) = 2
    · have e2 : nI (eK (E i)) = 2 := by rw [k2]; rfl
      have n1000 := eN_le (ok.2.1 i i1)
      by_cases m0 : m = 0
      · subst m0
        have le : nI 0 ≤ (0 : Int32) := by decide
        simp only [px_K_some, pc126_23, pc126_24, pc126_27, pc126_28, pc126_29, pc126_31, pc126_114, pc126_115, px_op_some, px_kv_ap, px_ki_ap, px_kl_ap, px_kn_ap, px_kh_ap, px_op_none, px_K_some, px_K_none, px_K_thr, px_kill, ↓reduceIte, if_true, if_false, true_and, and_true, e2, le, nar_1]
        refine hQ1 i h M f i1 i2 k2 (tr_congr t (fun j hj => ?_)) md (by rw [if_pos rfl]; omega) (frm_refl _ _) (fun z => z)
        by_cases x : j = i
        · subst x
          rw [up_same]
          exact ⟨rfl, rfl, k2.symm, rfl, fun k hk => if_pos hk⟩
        · rw [up_ne x]; exact ⟨rfl, rfl, rfl, rfl, fun _ _ => rfl⟩
      · have le : ¬ nI m ≤ (0 : Int32) := nI_nle (by omega) (by omega)
        have ii : px_in (nI i) 80 = true := px_inb (by omega) (by decide)
        have ci : (nI i).toNatClampNeg = i := nI_clamp (by omega)
        have t' := t
        obtain ⟨-, t2, ra, t3, t4, t5⟩ := t'
        obtain ⟨O, p1, src', st', cn', g', p2, p3, p4, p5⟩ := t5 i i1
        rcases p5 with ⟨k1, -⟩ | ⟨-, r', s', N', n', f', s1, rfl, rfl, rfl, s5, s6, s7⟩
        · omega
        obtain ⟨kk, q1, q2⟩ := prm_at t4 (show i < 80 by omega)
        rw [p1] at q2
        have hO := Option.some.inj q2
        have p2' := p2
        unfold enF at p2'
        have md1 := md.1
        have hc4 : px_cls h 415 = some 1 := by unfold px_cls; rw [md1]
        have lm := rowAt_lt md
        simp only [px_K_some, pc126_23, pc126_24, pc126_27, pc126_28, pc126_29, pc126_31, pc126_34, pc126_34n, pc126_35, pc126_38, pc126_40, pc126_41, pc126_41n, pc126_43, pc126_43n, pc126_44, pc126_47, pc126_50, pc126_52, pc126_52n, pc126_54, pc126_57n, pc126_57, pc126_60, pc126_60n, pc126_61, pc126_64, pc126_64n, pc126_66, pc126_69, pc126_69n, pc126_71, pc126_74, pc126_74n, pc126_76, pc126_79, px_op_some, px_kv_ap, px_ki_ap, px_kl_ap, px_kn_ap, px_kh_ap, px_op_none, px_K_some, px_K_none, px_K_thr, px_kill, ↓reduceIte, if_true, if_false, true_and, and_true, px_gf, px_aa, e2, le, t1, t3, hSh, md1, List.getElem?_cons_zero, List.getElem?_cons_succ, ii, ci, p1, p2', px_rf, tg_12, Nat.reduceLeDiff, and_self, px_kill, hc4]
        refine r_addAllG md s5 s6 (by omega) ?_
        generalize hh1 : rowH h 415 26000 (M + eN (E i)) (va_cpy f' f s' M (eN (E i))) = h1
        have md_1 : rowAt h1 415 26000 (M + eN (E i)) (va_cpy f' f s' M (eN (E i))) := by rw [← hh1]; exact rowAt_rowH lm (by omega) (by decide)
        have a1 : ∀ k, k ≠ 415 → k ≠ 416 → h1.2[k]? = h.2[k]? := fun k x y => by rw [← hh1, rowH_at (fun z => x z.symm) (fun z => y z.symm)]
        have old1 : ∀ k, k < M → va_cpy f' f s' M (eN (E i)) k = f k := fun k hk => by unfold va_cpy; rw [if_neg (by omega)]
        have new1 : ∀ k, k < eN (E i) → va_cpy f' f s' M (eN (E i)) (M + k) = f' (s' + k) := fun k hk => by unfold va_cpy; rw [if_pos ⟨by omega, by omega⟩, Nat.add_sub_cancel_left]
        -- the row that is added, in the new heap
        have wr1 : ∃ N2 n2 f2, rowAt h1 r N2 n2 f2 ∧ s + m ≤ n2 ∧ ∀ j, j < m → f2 (s + j) &&& 255 = c j := by
          by_cases x : r = 415
          · subst x
            obtain ⟨rfl, rfl, rfl⟩ := row_uniq w md
            exact ⟨_, _, _, md_1, by omega, fun j hj => by rw [old1 _ (by omega)]; exact hf j hj⟩
          · unfold srcOK at sr
            exact ⟨N, nr, ff, ⟨by rw [a1 _ (by omega) (by omega)]; exact w.1, by rw [a1 _ (by omega) (by omega)]; exact w.2.1, w.2.2⟩, hs, hf⟩
        obtain ⟨N2, n2, f2, w2, hs2, hf2⟩ := wr1
        have sh1 : h1.2[414]? = _ := (a1 414 (by decide) (by decide)).trans hSh
        have md11 := md_1.1
        have hc41 : px_cls h1 415 = some 1 := by unfold px_cls; rw [md11]
        have lm1 := rowAt_lt md_1
        simp only [px_K_none, pc126_82, pc126_82n, pc126_83, pc126_86, pc126_86n, pc126_87, pc126_88, pc126_90, px_op_some, px_kv_ap, px_ki_ap, px_kl_ap, px_kn_ap, px_kh_ap, px_op_none, px_K_some, px_K_none, px_K_thr, px_kill, ↓reduceIte, if_true, if_false, true_and, and_true, px_gf, sh1, List.getElem?_cons_zero, List.getElem?_cons_succ, hc41]
        refine r_addAllG md_1 w2 hs2 (by omega) ?_
        generalize hh2 : rowH h1 415 26000 (M + eN (E i) + m) (va_cpy f2 (va_cpy f' f s' M (eN (E i))) s (M + eN (E i)) m) = h2
        generalize hf3 : va_cpy f2 (va_cpy f' f s' M (eN (E i))) s (M + eN (E i)) m = f3 at hh2
        have md_2 : rowAt h2 415 26000 (M + eN (E i) + m) f3 := by rw [← hh2]; exact rowAt_rowH lm1 (by omega) (by decide)
        have a2 : ∀ k, k ≠ 415 → k ≠ 416 → h2.2[k]? = h.2[k]? := fun k x y => by rw [← hh2, rowH_at (fun z => x z.symm) (fun z => y z.symm)]; exact a1 k x y
        have old2 : ∀ k, k < M + eN (E i) → f3 k = va_cpy f' f s' M (eN (E i)) k := fun k hk => by rw [← hf3]; unfold va_cpy; rw [if_neg (by omega)]
        have new2 : ∀ k, k < m → f3 (M + eN (E i) + k) = f2 (s + k) := fun k hk => by rw [← hf3]; unfold va_cpy; rw [if_pos ⟨by omega, by omega⟩, Nat.add_sub_cancel_left]
        have tr2 : trR h2 T n E := tr_made t h80 (.inl hTd) md md_2 (by omega) (fun k hk => by rw [old2 k (by omega), old1 k hk]) a2
        obtain ⟨F, tx⟩ := trX_of tr2 i1
        have tx' := tx
        obtain ⟨-, -, ⟨kF, sF, stF, cF, gF, oF, pF, qF⟩, rb, x3, x4', x5, -⟩ := tx'
        have eF : F = O := by
          have e := x3.symm.trans ((a2 (T + 1) (by omega) (by omega)).trans t3)
          injection e with e; injection e with e; injection e with _ e; injection e with _ e; injection e with e; injection e with e
          rw [e, p1] at x5
          exact (Option.some.inj x5).symm
        subst eF
        have sh2 : h2.2[414]? = _ := (a2 414 (by decide) (by decide)).trans hSh
        have md21 := md_2.1
        have hcF : px_cls h2 F = some 2 := by unfold px_cls; rw [oF]
        have sb : nI (M + eN (E i) + m) - nI M = nI (eN (E i) + m) := by rw [nI_sub (by omega), show M + eN (E i) + m - M = eN (E i) + m by omega]
        simp only [px_K_none, pc126_93, pc126_93n, pc126_95, pc126_95n, pc126_96, pc126_99, pc126_101, pc126_101n, pc126_102, pc126_105, pc126_108, pc126_110, pc126_111, px_op_some, px_kv_ap, px_ki_ap, px_kl_ap, px_kn_ap, px_kh_ap, px_op_none, px_K_some, px_K_none, px_K_thr, px_kill, ↓reduceIte, if_true, if_false, true_and, and_true, px_gf, sh2, md21, List.getElem?_cons_zero, List.getElem?_cons_succ, sb, hcF]
        refine c_becomeFile oF ?_
        have hsrc : ∀ k, k < eN (E i) + m → f3 (M + k) &&& 255 = if k < eN (E i) then eC (E i) k else c (k - eN (E i)) := fun k hk => by
          by_cases x : k < eN (E i)
          · rw [if_pos x, old2 _ (by omega), new1 k x]; exact s7 k x
          · rw [if_neg x, show M + k = M + eN (E i) + (k - eN (E i)) by omega, new2 _ (by omega)]; exact hf2 _ (by omega)
        have hTF : 249 ≤ F ∧ F < 411 := by
          obtain ⟨kz, w1, w2⟩ := prm_at x4' (show i < 80 by omega)
          rw [x5] at w2
          have := Option.some.inj w2
          omega
        obtain ⟨z1, kf, y1, y2⟩ := trX_set (e := ctE (E i) m c) (kd := 2) (src := .ref 415) (st := nI M) (cn := nI (eN (E i) + m)) tx h80 (by omega) rfl rfl rfl hT.2.2.2 (.inr ⟨rfl, 415, M, 26000, _, f3, .inr ⟨rfl, hTF⟩, rfl, rfl, rfl, md_2, by show M + (eN (E i) + m) ≤ _; omega, hsrc⟩)
        · simp only [px_K_none, pc126_114, pc126_115, px_op_some, px_kv_ap, px_ki_ap, px_kl_ap, px_kn_ap, px_kh_ap, px_op_none, px_K_some, px_K_none, px_K_thr, px_kill, ↓reduceIte, if_true, if_false, true_and, and_true, nar_1]
          refine hQ1 i _ _ f3 i1 i2 k2 z1 ⟨by rw [wr_at, if_neg (by omega)]; exact md_2.1, by rw [wr_at, if_neg (by omega)]; exact md_2.2.1, md_2.2.2⟩ (by rw [if_neg m0]; omega) ?_ (fun z => ?_)
          · refine frm_wr ?_ (.inl (by unfold trA; omega))
            rw [← hh2, ← hh1]
            exact frm_row (frm_row (frm_refl _ _) (.inr (.inl rfl)) (.inr (.inr rfl))) (.inr (.inl rfl)) (.inr (.inr rfl))
          · rw [y2]
            refine ent_shape (hT.2.2.1 kf y1) ?_
            rw [← hh2]
            refine shape_row ?_ md_1
            rw [← hh1]
            exact shape_row z md
    · have e2 : ¬ nI (eK (E i)) = 2 := fun z => k2 ((nI_eq (b := 2) (by rcases (ok.2.1 i i1).2 with ⟨z, -⟩ | ⟨z, -⟩ <;> omega) (by decide)).mp z)
      simp only [px_K_some, pc126_23, pc126_24, pc126_27, pc126_28, px_op_some, px_kv_ap, px_ki_ap, px_kl_ap, px_kn_ap, px_kh_ap, px_op_none, px_K_some, px_K_none, px_K_thr, px_kill, ↓reduceIte, if_true, if_false, true_and, and_true, e2, nar_0]
      exact hQ0 (fun ⟨j, j1, j2, j3⟩ => by rw [srt_uniq ok j1 i1 (j2.trans i2.symm)] at j3; exact k2 j3)
  · have gn := g1.1
    have e2 : ¬ (0 : Int32) = 2 := by decide
    simp only [px_K_some, pc126_15, pc126_17, pc126_17n, pc126_18, pc126_20, px_op_some, px_kv_ap, px_ki_ap, px_kl_ap, px_kn_ap, px_kh_ap, px_op_none, px_K_some, px_K_none, px_K_thr, px_kill, ↓reduceIte, if_true, if_false, true_and, and_true, px_kill, hcT]
    refine c_kind_no t (by omega) ?_
    simp only [px_K_some, pc126_23, pc126_24, pc126_27, pc126_28, px_op_some, px_kv_ap, px_ki_ap, px_kl_ap, px_kn_ap, px_kh_ap, px_op_none, px_K_some, px_K_none, px_K_thr, px_kill, ↓reduceIte, if_true, if_false, true_and, and_true, e2, nar_0]
    exact hQ0 (fun ⟨j, j1, j2, _⟩ => gap_not g1 ⟨j, j1, j2⟩)
end LONGER2
