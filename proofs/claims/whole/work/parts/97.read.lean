/-! THE IMAGE THAT A TAG TELLS, on both sides -/
set_option maxRecDepth 16384 in
theorem fst_is {f : Nat → Int64} {B k : Nat} {d : Int64} {v : Int32} (h : fstM (fun j => f j = d) B v) (hk : k < B) (hd : f k = d) (hu : ∀ i j, i < B → j < B → f i = f j → i = j) : v = nI k := by
  rcases h with ⟨_, n⟩ | ⟨j, hj, e, p, _⟩
  · exact absurd hd (n k hk)
  · rw [e, hu j k hj hk (p.trans hd.symm)]
set_option maxRecDepth 16384 in
theorem lst_is {f : Nat → Int64} {B k : Nat} {d : Int64} {v : Int32} (h : lstM (fun j => f j = d) B v) (hk : k < B) (hd : f k = d) (hu : ∀ i j, i < B → j < B → f i = f j → i = j) : v = nI k := by
  rcases h with ⟨_, n⟩ | ⟨j, hj, e, p, _⟩
  · exact absurd hd (n k hk)
  · rw [e, hu j k hj hk (p.trans hd.symm)]
set_option maxRecDepth 16384 in
theorem nI_nm1 {k : Nat} (hk : k < 1000) : (nI k = -1) = False := eq_false (fun q => by
  have h1 : ¬ nI k < 0 := nI_pos (by omega)
  rw [q] at h1
  exact h1 (by decide))
set_option maxRecDepth 16384 in
theorem mul_61 {q : Nat} (hq : q < 2) : 61 * nI q = nI (61 * q) := by
  match q, hq with
  | 0, _ => rfl
  | 1, _ => rfl
section READ
variable {sx : Nat × (Nat → Int32)} {h : px_H} {Q : px_O → px_H → Prop} {bb : Nat → Int32} {l nl ns : Nat} {pos na nv : Nat → Nat}
set_option maxRecDepth 16384 in
theorem c_readImage {Y I j k s R B : Nat} {P : Nat → Nat} {x y x1 y1 : Int32} {f st : Nat → Int32} {D G L : Nat → Int64} (hP : ∀ a b, a < 6 → b < 6 → P a = P b → a = b) (hYI : Y + 11 ≤ I) (hY : h.2[Y]? = some (.inl (7, yrdF Y x (nI B) y))) (w : rowAt h (Y + 1) 40000 R f) (hD : h.2[Y + 3]? = some (.inr (2, 60, .inr (.inl D)))) (hst : h.2[Y + 4]? = some (.inr (1, 60, .inl st))) (hG : h.2[Y + 9]? = some (.inr (2, 8, .inr (.inl G))))
    (hj : j < 8) (hB : B ≤ 60) (hk : k < B) (hd : D k = G j) (hu : ∀ a b, a < B → b < B → D a = D b → a = b) (hs : st k = nI s) (ok : imgOK bb l nl ns pos na nv) (hf : ∀ m, m < l → f (s + m) &&& 255 = bb m) (hsl : s + l ≤ R)
    (i0 : h.2[I]? = some (.inl (6, [.ref (I + 1), .int x1, .ref (I + 2), .int y1]))) (i1 : h.2[I + 1]? = some (.inr (2, 12, .inr (.inl L)))) (i2 : imS h I P)
    (hQ : ∀ h', tk2 h h' I nl ns bb P pos na nv → Q (.inl none) h') :
    px_Wp sx 89 0 [some (.ref Y), some (.int (nI j)), some (.ref I), none] [] h Q := by
  have hl : I + 1 < h.2.length := (List.getElem?_eq_some_iff.mp i1).1
  have ij : px_in (nI j) 8 = true := px_inb hj (by decide)
  have cj : (nI j).toNatClampNeg = j := nI_clamp (by omega)
  have ik : px_in (nI k) 60 = true := px_inb (by omega) (by decide)
  have ck : (nI k).toNatClampNeg = k := nI_clamp (by omega)
  have hcY : px_cls h Y = some 7 := by unfold px_cls; rw [hY]
  have hcI : px_cls h I = some 6 := by unfold px_cls; rw [i0]
  have hY1 := hY
  unfold yrdF at hY1
  have c1 : ∀ r, I ≠ r → (px_wr h I (.inl (6, [.ref (I + 1), .int 0, .ref (I + 2), .int 0]))).2[r]? = h.2[r]? := fun r hr => by rw [wr_at, if_neg hr]
  have e0 : (px_wr h I (.inl (6, [.ref (I + 1), .int 0, .ref (I + 2), .int y1]))).2[I]? = some (.inl (6, [.ref (I + 1), .int 0, .ref (I + 2), .int y1])) := by rw [wr_at, if_pos rfl, if_pos (by omega)]
  have s0 : shape h → shape (px_wr h I (.inl (6, [.ref (I + 1), .int 0, .ref (I + 2), .int 0]))) := fun hsh => by
    have s1 := shape_int (k := 1) (x := x1) (y := 0) hsh i0 rfl
    have s2 := shape_int (k := 3) (x := y1) (y := 0) s1 e0 rfl
    rw [show (px_wr h I (.inl (6, List.set [.ref (I + 1), .int x1, .ref (I + 2), .int y1] 1 (.int 0)))) = px_wr h I (.inl (6, [.ref (I + 1), .int 0, .ref (I + 2), .int y1])) from rfl] at s2
    rw [px_wr_wr] at s2
    exact s2
  have f0 : frm (imA I) h (px_wr h I (.inl (6, [.ref (I + 1), .int 0, .ref (I + 2), .int 0]))) := frm_wr (frm_refl _ _) ⟨by omega, by omega⟩
  have o0 : (px_wr h I (.inl (6, [.ref (I + 1), .int 0, .ref (I + 2), .int 0]))).2[I]? = some (.inl (6, [.ref (I + 1), .int 0, .ref (I + 2), .int 0])) := by rw [wr_at, if_pos rfl, if_pos (by omega)]
  simp only [pc89_0, pc89_0n, pc89_1, pc89_1n, pc89_2, pc89_5, pc89_6, pc89_7, px_gf, px_aj, hY1, hG, if_true, List.getElem?_cons_zero, List.getElem?_cons_succ, px_op_some, px_kv_ap, px_ki_ap, px_kl_ap, px_kn_ap, px_kh_ap, ij, cj, and_self, hcY, true_and]
  refine c_find hB hY hD (fun v hv => ?_)
  rw [fst_is hv hk hd hu]
  simp only [px_K_some, pc89_10, pc89_11, pc89_11n, pc89_12, px_kill, hcI, true_and, pc81_0, pc81_0n, pc81_1, pc81_2, pc81_5, pc81_5n, pc81_6, pc81_7, pc81_10, px_op_some, px_kv_ap, px_ki_ap, px_kl_ap, px_kn_ap, px_kh_ap, px_op_none, px_K_some, px_K_none, px_K_thr, px_kill, ↓reduceIte, if_true, if_false, true_and, and_true, px_pf, i0, e0, List.length_cons, List.length_nil, Nat.reduceAdd, Nat.reduceLT, px_fit, and_self, List.set_cons_succ, List.set_cons_zero, px_wr_wr]
  generalize hh0 : px_wr h I (.inl (6, [.ref (I + 1), .int 0, .ref (I + 2), .int 0])) = h0 at c1 s0 f0 o0 ⊢
  have hY0 : h0.2[Y]? = _ := (c1 Y (by omega)).trans hY1
  have st0 : h0.2[Y + 4]? = _ := (c1 (Y + 4) (by omega)).trans hst
  have w0 : rowAt h0 (Y + 1) 40000 R f := ⟨(c1 _ (by omega)).trans w.1, (c1 _ (by omega)).trans w.2.1, w.2.2⟩
  have hcI0 : px_cls h0 I = some 6 := by unfold px_cls; rw [o0]
  simp only [pc89_15, pc89_16, pc89_17, pc89_20, pc89_20n, pc89_21, pc89_21n, pc89_22, pc89_25, pc89_25n, pc89_26, pc89_29, pc89_30, pc89_31, nI_nm1 (k := k) (by omega), if_false, px_gf, px_ai, tg_i1, hY0, st0, if_true, List.getElem?_cons_zero, List.getElem?_cons_succ, px_op_some, px_kv_ap, px_ki_ap, px_kl_ap, px_kn_ap, px_kh_ap, ik, ck, hs, and_self, hcI0, true_and]
  refine c_take hP w0 (fun z => by have := z.1; omega) (fun z => by have := z.1; omega) ok hf hsl o0 ((c1 _ (by omega)).trans i1) (imS_up i2 (fun r hr _ => c1 r (by omega))) (fun h' t => ?_)
  simp only [px_K_none, pc89_34]
  exact hQ h' ⟨frm_trans f0 t.1, fun z => t.2.1 (s0 z), t.2.2⟩
set_option maxRecDepth 16384 in
theorem m_takeTag {q j k u B : Nat} {V fb fr : Nat → Int32} {d : Nat → Int32} {D G L : Nat → Int64} {NM NS VL VS : Nat → Int32} (h6 : h.2[619]? = some (.inl (11, modF V))) (h621 : h.2[621]? = some (.inr (1, 2, .inl fb))) (h622 : h.2[622]? = some (.inr (2, 122, .inr (.inl D)))) (h623 : h.2[623]? = some (.inr (1, 122, .inl fr))) (h625 : h.2[625]? = some (.inr (1, 80000, .inl d))) (h627 : h.2[627]? = some (.inr (2, 16, .inr (.inl G))))
    (hL : h.2[649]? = some (.inr (2, 13, .inr (.inl L)))) (hNM : h.2[650]? = some (.inr (1, 56, .inl NM))) (hNS : h.2[651]? = some (.inr (1, 7, .inl NS))) (hVL : h.2[652]? = some (.inr (1, 84, .inl VL))) (hVS : h.2[653]? = some (.inr (1, 7, .inl VS)))
    (hq : q < 2) (hj : j < 8) (hB : B ≤ 60) (hb : fb q = nI B) (hk : k < B) (hd : D (61 * q + k) = G (8 * q + j)) (hu : ∀ a b, a < B → b < B → D (61 * q + a) = D (61 * q + b) → a = b) (hs : fr (61 * q + k) = nI u) (ok : imgOK bb l nl ns pos na nv) (hf : ∀ m, m < l → d (40000 * q + u + m) = bb m) (hul : u + l ≤ 40000)
    (hQ : ∀ h', mtk h h' (px_up (px_up V 36 (nI nl)) 38 (nI ns)) nl ns bb pos na nv → Q (.inl none) h') :
    px_Wp sx 154 0 [some (.ref 619), some (.int (nI q)), some (.int (nI j)), none] [] h Q := by
  have i16 : px_in (nI (8 * q + j)) 16 = true := px_inb (by omega) (by decide)
  have c16 : (nI (8 * q + j)).toNatClampNeg = 8 * q + j := nI_clamp (by omega)
  have ik : px_in (nI (61 * q + k)) 122 = true := px_inb (by omega) (by decide)
  have ck : (nI (61 * q + k)).toNatClampNeg = 61 * q + k := nI_clamp (by omega)
  have hc6 : px_cls h 619 = some 11 := by unfold px_cls; rw [h6]
  simp only [pc154_0, pc154_0n, pc154_1, pc154_2, pc154_2n, pc154_3, pc154_6, pc154_8, pc154_9, pc154_10, pc154_11, pc154_12, pc154_13, px_gf, px_aj, h6, h627, mf_9, if_true, px_op_some, px_kv_ap, px_ki_ap, px_kl_ap, px_kn_ap, px_kh_ap, mul_8 hq, nI_add, i16, c16, and_self, hc6, true_and]
  refine m_find hq hB hb h6 h621 h622 (fun v hv => ?_)
  rw [lst_is (f := fun j => D (61 * q + j)) hv hk hd hu]
  simp only [px_K_some, pc154_16, pc154_17, pc154_17n, pc154_18, pc154_18n, pc154_19, pc154_22, pc154_24, pc154_25, pc154_26, pc154_26n, pc154_27, pc154_30, pc154_32, pc154_33, pc154_34, pc154_35, pc154_36, pc154_37, pc154_38, px_kill, px_gf, px_ai, tg_i1, h6, h623, mf_5, mf_7, if_true, px_op_some, px_kv_ap, px_ki_ap, px_kl_ap, px_kn_ap, px_kh_ap, mul_61 hq, mul_40000 hq, nI_add, ik, ck, hs, and_self, hc6, true_and]
  refine m_takeImage (p := 40000 * q + u) h625 (fun z => by unfold mtA at z; omega) (by decide) ok hf (by omega) h6 hL hNM hNS hVL hVS (fun h' t => ?_)
  simp only [px_K_none, pc154_41]
  exact hQ h' t
end READ
