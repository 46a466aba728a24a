/-! AN IMAGE OUT OF ITS BYTES, the class's -/
/-- an image's bytes: numbers of layers and settings, where each setting begins, signs of its name and value -/
def nmF (bb : Nat → Int32) (p n : Nat) : Nat → Nat := fun j => if j < n then (bb (p + 1 + j)).toNatClampNeg else 0
/-- the names of the settings are small letters, in their order -/
def srtN (bb : Nat → Int32) (ns : Nat) (pos na : Nat → Nat) : Prop := (∀ s j, s < ns → j < na s → ∃ c, bb (pos s + 1 + j) = nI c ∧ 97 ≤ c ∧ c ≤ 122) ∧ ∀ s t, s < t → t < ns → ∃ k, (∀ j, j < k → nmF bb (pos s) (na s) j = nmF bb (pos t) (na t) j) ∧ nmF bb (pos s) (na s) k < nmF bb (pos t) (na t) k
set_option maxRecDepth 16384 in
theorem srt_congr {b b' : Nat → Int32} {ns : Nat} {pos na : Nat → Nat} (h : srtN b ns pos na) (e : ∀ s j, s < ns → j < na s → b' (pos s + 1 + j) = b (pos s + 1 + j)) : srtN b' ns pos na := by
  have en : ∀ s, s < ns → nmF b' (pos s) (na s) = nmF b (pos s) (na s) := fun s hs => funext fun j => by
    unfold nmF
    by_cases x : j < na s
    · rw [if_pos x, if_pos x, e s j hs x]
    · rw [if_neg x, if_neg x]
  refine ⟨fun s j hs hj => by rw [e s j hs hj]; exact h.1 s j hs hj, fun s t st ht => ?_⟩
  rw [en s (by omega), en t ht]; exact h.2 s t st ht
def imgOK (bb : Nat → Int32) (l nl ns : Nat) (pos na nv : Nat → Nat) : Prop := nl ≤ 12 ∧ ns ≤ 6 ∧ (bb 0 = nI 77 ∧ srtN bb ns pos na) ∧ bb 1 = nI nl ∧ bb (2 + 8 * nl) = nI ns ∧ pos 0 = 3 + 8 * nl ∧ (∀ s, s < ns → (1 ≤ na s ∧ na s ≤ 8 ∧ 1 ≤ nv s ∧ nv s ≤ 12) ∧ bb (pos s) = nI (na s) ∧ bb (pos s + 1 + na s) = nI (nv s) ∧ pos (s + 1) = pos s + 2 + na s + nv s) ∧ pos ns = l
set_option maxRecDepth 16384 in
theorem img_pos {bb : Nat → Int32} {l nl ns : Nat} {pos na nv : Nat → Nat} (h : imgOK bb l nl ns pos na nv) : ∀ k s, s + k = ns → pos s ≤ l := by
  obtain ⟨-, -, -, -, -, -, h7, h8⟩ := h
  intro k
  induction k with
  | zero => intro s hs; have : s = ns := by omega
            subst this; omega
  | succ k ih =>
    intro s hs
    have := ih (s + 1) (by omega)
    have := (h7 s (by omega)).2.2.2
    omega
/-- an image's layer -/
def layB (bb : Nat → Int32) (i : Nat) : Int64 := lgA (fun k => bb (2 + 8 * i + k)) 8
def imA (I r : Nat) : Prop := I ≤ r ∧ r < I + 33
def imO (h : px_H) (I lc sc : Nat) (L : Nat → Int64) : Prop := h.2[I]? = some (.inl (6, [.ref (I + 1), .int (nI lc), .ref (I + 2), .int (nI sc)])) ∧ h.2[I + 1]? = some (.inr (2, 12, .inr (.inl L)))
def imS (h : px_H) (I : Nat) (P : Nat → Nat) : Prop := ∃ sf, h.2[I + 2]? = some (.inr (15, 6, .inr (.inr sf))) ∧ ∀ s, s < 6 → sf s = some (I + 3 + 5 * P s) ∧ P s < 6 ∧ h.2[I + 3 + 5 * P s]? = some (.inl (5, [.ref (I + 3 + 5 * P s + 1), .ref (I + 3 + 5 * P s + 3)])) ∧ (∃ n f, rowAt h (I + 3 + 5 * P s + 1) 8 n f) ∧ ∃ n f, rowAt h (I + 3 + 5 * P s + 3) 12 n f
set_option maxRecDepth 16384 in
theorem imS_up {h h' : px_H} {I : Nat} {P : Nat → Nat} (w : imS h I P) (e : ∀ r, I + 2 ≤ r → r < I + 33 → h'.2[r]? = h.2[r]?) : imS h' I P := by
  obtain ⟨sf, h1, h2⟩ := w
  refine ⟨sf, by rw [e _ (by omega) (by omega)]; exact h1, fun s hs => ?_⟩
  obtain ⟨a, b, c, ⟨n, f, d⟩, n', f', d'⟩ := h2 s hs
  exact ⟨a, b, by rw [e _ (by omega) (by omega)]; exact c, ⟨n, f, by rw [e _ (by omega) (by omega)]; exact d.1, by rw [e _ (by omega) (by omega)]; exact d.2.1, d.2.2⟩, n', f', by rw [e _ (by omega) (by omega)]; exact d'.1, by rw [e _ (by omega) (by omega)]; exact d'.2.1, d'.2.2⟩
/-- a setting's rows hold the signs that begin at p -/
def setOK (h : px_H) (S : Nat) (bb : Nat → Int32) (p a v : Nat) : Prop := ∃ F G, rowAt h (S + 1) 8 a F ∧ (∀ k, k < a → F k &&& 255 = bb (p + 1 + k)) ∧ rowAt h (S + 3) 12 v G ∧ ∀ k, k < v → G k &&& 255 = bb (p + 2 + a + k)
section TAKE
variable {sx : Nat × (Nat → Int32)} {h : px_H} {r N n s : Nat} {f bb : Nat → Int32} {Q : px_O → px_H → Prop}
set_option maxRecDepth 16384 in
theorem row_0 {h : px_H} {r N n : Nat} {f : Nat → Int32} (w : rowAt h r N n f) : px_wr h r (.inl (1, [.ref (r + 1), .int 0])) = rowH h r N 0 f := by
  unfold rowH; rw [wr_id w.2.1]; rfl
set_option maxRecDepth 16384 in
theorem c_setName {S c n0 : Nat} {f0 : Nat → Int32} {z : Nat} (hS : h.2[S]? = some (.inl (5, [.ref (S + 1), .ref z]))) (w0 : rowAt h (S + 1) 8 n0 f0) (w : rowAt h r N n f) (h1 : S + 1 ≠ r) (h2 : S + 2 ≠ r) (h3 : S + 1 ≠ r + 1) (hs : s + c ≤ n) (hc : c ≤ 8) (hQ : Q (.inl none) (rowH h (S + 1) 8 c (va_cpy f f0 s 0 c))) :
    px_Wp sx 77 0 [some (.ref S), some (.ref r), some (.int (nI s)), some (.int (nI c))] [] h Q := by
  have hl := rowAt_lt w0
  have e0 := row_0 w0
  have hSn : (rowH h (S + 1) 8 0 f0).2[S]? = some (.inl (5, [.ref (S + 1), .ref z])) := by rw [rowH_at (by omega) (by omega)]; exact hS
  have hcl : px_cls (rowH h (S + 1) 8 0 f0) (S + 1) = some 1 := by unfold px_cls; rw [rowH_r hl]
  simp only [pc77_0, pc77_0n, pc77_1, pc77_4, pc77_5, pc77_8, pc77_8n, pc77_9, pc77_12, pc77_12n, pc77_13, pc77_14, pc77_15, px_gf, px_pf, hS, w0.1, if_true, List.getElem?_cons_zero, List.length_cons, List.length_nil, Nat.reduceAdd, Nat.reduceLT, px_fit, and_self, px_op_some, px_kv_ap, px_ki_ap, px_kl_ap, px_kn_ap, px_kh_ap, List.set_cons_succ, List.set_cons_zero, e0, hSn, hcl, true_and]
  refine r_addAll (rowAt_rowH hl (by omega) (by omega)) (n' := n) (N' := N) (f' := f) ⟨by rw [rowH_at (by omega) (by omega)]; exact w.1, by rw [rowH_at (by omega) (by omega)]; exact w.2.1, w.2.2⟩ h1 h2 h3 hs (by omega) ?_
  simp only [px_K_none, pc77_18, rowH_rowH, Nat.zero_add]
  exact hQ
set_option maxRecDepth 16384 in
theorem c_setValue {S c n0 : Nat} {f0 : Nat → Int32} {z : Nat} (hS : h.2[S]? = some (.inl (5, [.ref z, .ref (S + 3)]))) (w0 : rowAt h (S + 3) 12 n0 f0) (w : rowAt h r N n f) (h1 : S + 3 ≠ r) (h2 : S + 4 ≠ r) (h3 : S + 3 ≠ r + 1) (hs : s + c ≤ n) (hc : c ≤ 12) (hQ : Q (.inl none) (rowH h (S + 3) 12 c (va_cpy f f0 s 0 c))) :
    px_Wp sx 78 0 [some (.ref S), some (.ref r), some (.int (nI s)), some (.int (nI c))] [] h Q := by
  have hl := rowAt_lt w0
  have e0 := row_0 w0
  have hSn : (rowH h (S + 3) 12 0 f0).2[S]? = some (.inl (5, [.ref z, .ref (S + 3)])) := by rw [rowH_at (by omega) (by omega)]; exact hS
  have hcl : px_cls (rowH h (S + 3) 12 0 f0) (S + 3) = some 1 := by unfold px_cls; rw [rowH_r hl]
  simp only [pc78_0, pc78_0n, pc78_1, pc78_4, pc78_5, pc78_8, pc78_8n, pc78_9, pc78_12, pc78_12n, pc78_13, pc78_14, pc78_15, px_gf, px_pf, hS, w0.1, if_true, List.getElem?_cons_zero, List.getElem?_cons_succ, List.length_cons, List.length_nil, Nat.reduceAdd, Nat.reduceLT, px_fit, and_self, px_op_some, px_kv_ap, px_ki_ap, px_kl_ap, px_kn_ap, px_kh_ap, List.set_cons_succ, List.set_cons_zero, e0, hSn, hcl, true_and]
  refine r_addAll (rowAt_rowH hl (by omega) (by omega)) (n' := n) (N' := N) (f' := f) ⟨by rw [rowH_at (by omega) (by omega)]; exact w.1, by rw [rowH_at (by omega) (by omega)]; exact w.2.1, w.2.2⟩ h1 h2 h3 hs (by omega) ?_
  simp only [px_K_none, pc78_18, rowH_rowH, Nat.zero_add]
  exact hQ
set_option maxRecDepth 16384 in
theorem c_addLayer {I k : Nat} {L : Nat → Int64} {v : Int64} {sc : Nat} (o : imO h I k sc L) (hk : k < 12) (hQ : Q (.inl none) (px_wr (px_wr h (I + 1) (.inr (2, 12, .inr (.inl (px_up L k v))))) I (.inl (6, [.ref (I + 1), .int (nI (k + 1)), .ref (I + 2), .int (nI sc)])))) :
    px_Wp sx 83 0 [some (.ref I), some (.long v), none] [] h Q := by
  obtain ⟨o1, o2⟩ := o
  have hge : nI k < Int32.ofNat 12 := nI_lt (b := 12) (by omega) (by decide)
  have ik : px_in (nI k) 12 = true := px_inb hk (by decide)
  have ck : (nI k).toNatClampNeg = k := nI_clamp (by omega)
  have hcl : px_cls h I = some 6 := by unfold px_cls; rw [o1]
  have e1 : (I + 1 = I) = False := eq_false (by omega)
  simp only [pc83_0, pc83_0n, pc83_1, hcl, true_and, pc84_0, pc84_0n, pc84_1, pc84_4, pc84_4n, pc84_5, pc84_8, pc84_9, pc84_12, pc84_13, pc84_16, pc84_17, px_op_some, px_kv_ap, px_ki_ap, px_kl_ap, px_kn_ap, px_kh_ap, px_op_none, px_K_some, px_K_none, px_K_thr, px_kill, ↓reduceIte, if_true, if_false, true_and, and_true, px_gf, px_an, o1, o2, List.getElem?_cons_zero, List.getElem?_cons_succ, tg_2, hge, nar_0, pc83_4, pc83_7, pc83_7n, pc83_8, pc83_11, pc83_11n, pc83_12, pc83_15, pc83_16, pc83_17, pc83_17n, pc83_18, pc83_18r, pc83_19, pc83_22, pc83_23, pc83_24, pc83_27, px_wj, ik, ck, and_self, wr_at, e1, px_pf, px_fit, List.length_cons, List.length_nil, Nat.reduceAdd, Nat.reduceLT, List.set_cons_succ, List.set_cons_zero, nI_1, not_true_eq_false]
  exact hQ
/-- what stands when k layers are taken -/
def tk1 (h h' : px_H) (I k : Nat) (bb : Nat → Int32) (P : Nat → Nat) : Prop := frm (imA I) h h' ∧ (shape h → shape h') ∧ imS h' I P ∧ ∃ L, imO h' I k 0 L ∧ ∀ i, i < k → L i = layB bb i
set_option maxRecDepth 16384 in
theorem tk1_up {h h' : px_H} {I k : Nat} {P : Nat → Nat} {L : Nat → Int64} {v : Int64} (t1 : frm (imA I) h h') (t2 : shape h → shape h') (t3 : imS h' I P) (o : imO h' I k 0 L) (hL : ∀ i, i < k → L i = layB bb i) (hv : v = layB bb k) :
    tk1 h (px_wr (px_wr h' (I + 1) (.inr (2, 12, .inr (.inl (px_up L k v))))) I (.inl (6, [.ref (I + 1), .int (nI (k + 1)), .ref (I + 2), .int (nI 0)]))) I (k + 1) bb P := by
  have hl : I + 1 < h'.2.length := (List.getElem?_eq_some_iff.mp o.2).1
  refine ⟨frm_wr (frm_wr t1 ⟨by omega, by omega⟩) ⟨by omega, by omega⟩, fun hs => ?_, imS_up t3 (fun r hr _ => by rw [wr_at, if_neg (by omega), wr_at, if_neg (by omega)]), px_up L k v, ⟨?_, ?_⟩, fun i hi => ?_⟩
  · have s1 := shape_la (g := px_up L k v) (t2 hs) o.2
    have e : (px_wr h' (I + 1) (.inr (2, 12, .inr (.inl (px_up L k v))))).2[I]? = some (.inl (6, [.ref (I + 1), .int (nI k), .ref (I + 2), .int (nI 0)])) := by rw [wr_at, if_neg (by omega)]; exact o.1
    exact shape_int (k := 1) (x := nI k) (y := nI (k + 1)) s1 e rfl
  · rw [wr_at, if_pos rfl, if_pos (by rw [px_wr_len]; omega)]
  · rw [wr_at, if_neg (by omega), wr_at, if_pos rfl, if_pos hl]
  · by_cases e : i = k
    · subst e; rw [up_same, hv]
    · rw [up_ne e]; exact hL i (by omega)
set_option maxRecDepth 16384 in
theorem c_take_l1 {I nl : Nat} {P : Nat → Nat} (w : rowAt h r N n f) (hr1 : ¬ imA I r) (hr2 : ¬ imA I (r + 1)) (hnl : nl ≤ 12) (hf : ∀ j, j < 2 + 8 * nl → f (s + j) &&& 255 = bb j) (hs : s + (2 + 8 * nl) ≤ n)
    (hQ : ∀ h', tk1 h h' I nl bb P → px_Wp sx 82 51 [some (.ref I), some (.ref r), some (.int (nI s)), some (.int (nI nl)), some (.int (nI nl)), none, none, none] [] h' Q) :
    ∀ m k, k + m = nl → ∀ h', tk1 h h' I k bb P → px_Wp sx 82 15 [some (.ref I), some (.ref r), some (.int (nI s)), some (.int (nI nl)), some (.int (nI k)), none, none, none] [] h' Q := by
  have hn := w.2.2
  intro m
  induction m with
  | zero =>
    intro k hk h' t
    have hk : k = nl := by omega
    subst hk
    simp only [pc82_15, pc82_17, pc82_18, if_pos (Int32.le_refl (nI k))]
    exact hQ h' t
  | succ m ih =>
    intro k hk h' t
    obtain ⟨t1, t2, t3, L, o, hL⟩ := t
    have w' := frm_rowAt t1 hr1 hr2 w
    have hge : ¬ nI nl ≤ nI k := nI_ge (by omega) (by omega)
    have hge2 : ¬ (12 : Int32) ≤ nI k := nI_ge (b := 12) (by omega) (by decide)
    have hcr : px_cls h' r = some 1 := by unfold px_cls; rw [w'.1]
    have hcI : px_cls h' I = some 6 := by unfold px_cls; rw [o.1]
    have e8 : nI s + 2 + 8 * nI k = nI (s + 2 + 8 * k) := by
      have m8 : 8 * nI k = nI (8 * k) := by
        have : k = 0 ∨ k = 1 ∨ k = 2 ∨ k = 3 ∨ k = 4 ∨ k = 5 ∨ k = 6 ∨ k = 7 ∨ k = 8 ∨ k = 9 ∨ k = 10 ∨ k = 11 := by omega
        rcases this with rfl | rfl | rfl | rfl | rfl | rfl | rfl | rfl | rfl | rfl | rfl | rfl <;> rfl
      rw [m8, show (2 : Int32) = nI 2 from rfl, nI_add, nI_add]
    rw [pc82_15]
    simp only [pc82_17, pc82_18, pc82_21, pc82_23, pc82_25, pc82_28, pc82_28n, pc82_29, pc82_29n, pc82_30, pc82_31, pc82_32, pc82_33, pc82_35, pc82_37, pc82_38, pc82_39, if_neg hge, if_neg hge2, e8, hcr, true_and]
    refine c_longAt (g := fun i => bb (2 + 8 * k + i)) w' (by omega) (fun i hi => ?_) ?_
    · rw [← hf (2 + 8 * k + i) (by omega)]; congr 2; omega
    simp only [px_K_some, pc82_42, hcI, true_and]
    refine c_addLayer o (by omega) ?_
    simp only [px_K_none, pc82_45, pc82_48, px_kill, nI_1]
    exact ih (k + 1) (by omega) _ (tk1_up t1 t2 t3 o hL rfl)
/-- what stands when t settings are taken -/
def tk2 (h h' : px_H) (I nl t : Nat) (bb : Nat → Int32) (P pos na nv : Nat → Nat) : Prop := frm (imA I) h h' ∧ (shape h → shape h') ∧ imS h' I P ∧ (∃ L, imO h' I nl t L ∧ ∀ i, i < nl → L i = layB bb i) ∧ ∀ s, s < t → setOK h' (I + 3 + 5 * P s) bb (pos s) (na s) (nv s)
set_option maxRecDepth 16384 in
theorem vcp_at {f g : Nat → Int32} {s c k : Nat} (hk : k < c) : va_cpy f g s 0 c k = f (s + k) := by
  unfold va_cpy; rw [if_pos ⟨by omega, by omega⟩, Nat.sub_zero]
set_option maxRecDepth 16384 in
theorem setOK_keep {h h' : px_H} {S p a v : Nat} (w : setOK h S bb p a v) (e : ∀ r, S + 1 ≤ r → r < S + 5 → h'.2[r]? = h.2[r]?) : setOK h' S bb p a v := by
  obtain ⟨F, G, a1, a2, a3, a4⟩ := w
  exact ⟨F, G, ⟨by rw [e _ (by omega) (by omega)]; exact a1.1, by rw [e _ (by omega) (by omega)]; exact a1.2.1, a1.2.2⟩, a2, ⟨by rw [e _ (by omega) (by omega)]; exact a3.1, by rw [e _ (by omega) (by omega)]; exact a3.2.1, a3.2.2⟩, a4⟩
set_option maxRecDepth 16384 in
theorem c_take_l2 {I nl ns l : Nat} {P pos na nv : Nat → Nat} (hP : ∀ a b, a < 6 → b < 6 → P a = P b → a = b) (w : rowAt h r N n f) (hr1 : ¬ imA I r) (hr2 : ¬ imA I (r + 1)) (ok : imgOK bb l nl ns pos na nv) (hf : ∀ j, j < l → f (s + j) &&& 255 = bb j) (hs : s + l ≤ n)
    (hQ : ∀ h', tk2 h h' I nl ns bb P pos na nv → Q (.inl none) h') :
    ∀ m t, t + m = ns → ∀ h' l6 l7, tk2 h h' I nl t bb P pos na nv → px_Wp sx 82 77 [some (.ref I), some (.ref r), some (.int (nI s)), some (.int (nI ns)), some (.int (nI (s + pos t))), some (.int (nI t)), l6, l7] [] h' Q := by
  have hn := w.2.2
  have hlp := img_pos ok
  obtain ⟨k1, k2, -, k3, k4, k5, k6, k7⟩ := ok
  intro m
  induction m with
  | zero =>
    intro t ht h' l6 l7 u
    have ht : t = ns := by omega
    subst ht
    simp only [pc82_77, pc82_79, pc82_80, pc82_182, if_pos (Int32.le_refl (nI t))]
    exact hQ h' u
  | succ m ih =>
    intro t ht h' l6 l7 u
    obtain ⟨u1, u2, u3, ⟨L, o, hL⟩, u5⟩ := u
    have w' := frm_rowAt u1 hr1 hr2 w
    obtain ⟨⟨b1, b2, b3, b4⟩, b5, b6, b7⟩ := k6 t (by omega)
    have b8 := hlp m (t + 1) (by omega)
    have u3' := u3
    obtain ⟨sf, v1, v2⟩ := u3
    obtain ⟨x1, x2, x3, ⟨n0, f0, x4⟩, n1, f1, x5⟩ := v2 t (by omega)
    have hge : ¬ nI ns ≤ nI t := nI_ge (by omega) (by omega)
    have hge2 : ¬ (6 : Int32) ≤ nI t := nI_ge (b := 6) (by omega) (by decide)
    have hcr : px_cls h' r = some 1 := by unfold px_cls; rw [w'.1]
    have hcS : px_cls h' (I + 3 + 5 * P t) = some 5 := by unfold px_cls; rw [x3]
    have p0 : ¬ nI (s + pos t) < 0 := nI_pos (by omega)
    have p1 : ¬ nI n ≤ nI (s + pos t) := nI_ge (by omega) (by omega)
    have pc : (nI (s + pos t)).toNatClampNeg = s + pos t := nI_clamp (by omega)
    have it : px_in (nI t) 6 = true := px_inb (by omega) (by decide)
    have ct : (nI t).toNatClampNeg = t := nI_clamp (by omega)
    have e1 : f (s + pos t) &&& 255 &&& 255 = nI (na t) := by rw [Int32.and_assoc, Int32.and_self, hf _ (by omega), b5]
    rw [pc82_77]
    simp only [pc82_79, pc82_80, pc82_83, pc82_85, pc82_87, pc82_90, pc82_90n, pc82_91, pc82_93, if_neg hge, if_neg hge2, hcr, true_and]
    rw [r_at w']
    simp only [px_K_some, pc82_96, pc82_99, pc82_100, pc82_102, pc82_102n, pc82_103, pc82_106, pc82_108, pc82_109, pc82_109n, pc82_110, pc82_112, pc82_113, pc82_114, pc82_116, px_kill, if_neg p0, if_neg p1, pc, e1, px_gf, px_aa, o.1, v1, if_true, List.getElem?_cons_zero, List.getElem?_cons_succ, px_op_some, px_kv_ap, px_ki_ap, px_kl_ap, px_kn_ap, px_kh_ap, it, ct, x1, px_rf, tg_15, Nat.reduceLeDiff, and_true, and_self, hcS, true_and, nI_1]
    generalize hSe : I + 3 + 5 * P t = S at x1 x3 x4 x5 hcS ⊢
    have rS : ∀ j, j < 5 → S + j ≠ r ∧ S + j ≠ r + 1 := fun j hj => ⟨fun q => hr1 ⟨by omega, by omega⟩, fun q => hr2 ⟨by omega, by omega⟩⟩
    refine c_setName (s := s + pos t + 1) (z := S + 3) x3 x4 w' (rS 1 (by omega)).1 (rS 2 (by omega)).1 (rS 1 (by omega)).2 (by omega) b2 ?_
    generalize hh1 : rowH h' (S + 1) 8 (na t) (va_cpy f f0 (s + pos t + 1) 0 (na t)) = h1
    have hl4 := rowAt_lt x4
    have hl5 := rowAt_lt x5
    have q1 : ∀ k, S + 1 ≠ k → S + 2 ≠ k → h1.2[k]? = h'.2[k]? := fun k hk hk' => by rw [← hh1, rowH_at hk hk']
    have w1 : rowAt h1 r N n f := ⟨by rw [q1 r (rS 1 (by omega)).1 (rS 2 (by omega)).1]; exact w'.1, by rw [q1 (r + 1) (rS 1 (by omega)).2 (rS 2 (by omega)).2]; exact w'.2.1, w'.2.2⟩
    have x51 : rowAt h1 (S + 3) 12 n1 f1 := ⟨by rw [q1 _ (by omega) (by omega)]; exact x5.1, by rw [q1 _ (by omega) (by omega)]; exact x5.2.1, x5.2.2⟩
    have x31 : h1.2[S]? = some (.inl (5, [.ref (S + 1), .ref (S + 3)])) := by rw [q1 _ (by omega) (by omega)]; exact x3
    have o1 : h1.2[I]? = _ := (q1 I (by omega) (by omega)).trans o.1
    have v11 : h1.2[I + 2]? = _ := (q1 (I + 2) (by omega) (by omega)).trans v1
    have hcr1 : px_cls h1 r = some 1 := by unfold px_cls; rw [w1.1]
    have hcS1 : px_cls h1 S = some 5 := by unfold px_cls; rw [x31]
    have g0 : nI (s + pos t) + (1 + nI (na t)) = nI (s + (pos t + 1 + na t)) := by rw [show (1 : Int32) = nI 1 from rfl, nI_add, nI_add]; congr 1; omega
    have p0' : ¬ nI (s + (pos t + 1 + na t)) < 0 := nI_pos (by omega)
    have p1' : ¬ nI n ≤ nI (s + (pos t + 1 + na t)) := nI_ge (by omega) (by omega)
    have pc' : (nI (s + (pos t + 1 + na t))).toNatClampNeg = s + (pos t + 1 + na t) := nI_clamp (by omega)
    have e2 : f (s + (pos t + 1 + na t)) &&& 255 &&& 255 = nI (nv t) := by rw [Int32.and_assoc, Int32.and_self, hf _ (by omega), b6]
    simp only [px_K_none, pc82_119, pc82_121, pc82_122, pc82_124, pc82_125, pc82_126, pc82_128, pc82_128n, pc82_129, pc82_131, px_kill, g0, hcr1, true_and]
    rw [r_at w1]
    simp only [px_K_some, pc82_134, pc82_137, pc82_138, pc82_140, pc82_140n, pc82_141, pc82_144, pc82_146, pc82_147, pc82_147n, pc82_148, pc82_150, pc82_151, pc82_152, pc82_154, px_kill, if_neg p0', if_neg p1', pc', e2, px_gf, px_aa, o1, v11, if_true, List.getElem?_cons_zero, List.getElem?_cons_succ, px_op_some, px_kv_ap, px_ki_ap, px_kl_ap, px_kn_ap, px_kh_ap, it, ct, x1, px_rf, tg_15, Nat.reduceLeDiff, and_true, and_self, hcS1, true_and, nI_1]
    refine c_setValue (s := s + (pos t + 1 + na t) + 1) (z := S + 1) x31 x51 w1 (rS 3 (by omega)).1 (rS 4 (by omega)).1 (rS 3 (by omega)).2 (by omega) b4 ?_
    generalize hh2 : rowH h1 (S + 3) 12 (nv t) (va_cpy f f1 (s + (pos t + 1 + na t) + 1) 0 (nv t)) = h2
    have q2 : ∀ k, S + 3 ≠ k → S + 4 ≠ k → h2.2[k]? = h1.2[k]? := fun k hk hk' => by rw [← hh2, rowH_at hk hk']
    have o2 : h2.2[I]? = _ := (q2 I (by omega) (by omega)).trans o1
    have g1 : nI (s + (pos t + 1 + na t)) + (1 + nI (nv t)) = nI (s + pos (t + 1)) := by rw [show (1 : Int32) = nI 1 from rfl, nI_add, nI_add, b7]; congr 1; omega
    simp only [px_K_none, pc82_157, pc82_159, pc82_160, pc82_162, pc82_163, pc82_164, pc82_166, pc82_166n, pc82_167, pc82_167r, pc82_168, pc82_171, pc82_172, pc82_173, pc82_176, pc82_179, px_kill, g1, px_gf, px_pf, o2, if_true, List.getElem?_cons_zero, List.getElem?_cons_succ, px_op_some, px_kv_ap, px_ki_ap, px_kl_ap, px_kn_ap, px_kh_ap, List.length_cons, List.length_nil, Nat.reduceAdd, Nat.reduceLT, px_fit, and_self, List.set_cons_succ, List.set_cons_zero, nI_1, true_and]
    refine ih (t + 1) (by omega) _ _ _ ?_
    have lh1 : h1.2.length = h'.2.length := by rw [← hh1, rowH_len]
    have lh2 : h2.2.length = h1.2.length := by rw [← hh2, rowH_len]
    have lS : S + 4 < h'.2.length := hl5
    have q3 : ∀ k, S ≠ k → S + 1 ≠ k → S + 2 ≠ k → S + 3 ≠ k → S + 4 ≠ k → I ≠ k → (px_wr h2 I (.inl (6, [.ref (I + 1), .int (nI nl), .ref (I + 2), .int (nI (t + 1))]))).2[k]? = h'.2[k]? := fun k _ z1 z2 z3 z4 z5 => by rw [wr_at, if_neg z5, q2 k z3 z4, q1 k z1 z2]
    have nm : rowAt (px_wr h2 I (.inl (6, [.ref (I + 1), .int (nI nl), .ref (I + 2), .int (nI (t + 1))]))) (S + 1) 8 (na t) (va_cpy f f0 (s + pos t + 1) 0 (na t)) := by
      refine ⟨?_, ?_, b2, by omega⟩
      · rw [wr_at, if_neg (by omega), q2 _ (by omega) (by omega), ← hh1, rowH_r (by omega)]
      · rw [wr_at, if_neg (by omega), q2 _ (by omega) (by omega), ← hh1, rowH_c (by omega)]
    have vl : rowAt (px_wr h2 I (.inl (6, [.ref (I + 1), .int (nI nl), .ref (I + 2), .int (nI (t + 1))]))) (S + 3) 12 (nv t) (va_cpy f f1 (s + (pos t + 1 + na t) + 1) 0 (nv t)) := by
      refine ⟨?_, ?_, b4, by omega⟩
      · rw [wr_at, if_neg (by omega), ← hh2, rowH_r (by omega)]
      · rw [wr_at, if_neg (by omega), ← hh2, rowH_c (by omega)]
    refine ⟨?_, fun hsh => ?_, ?_, ⟨L, ⟨?_, ?_⟩, hL⟩, fun a ha => ?_⟩
    · refine frm_wr ?_ ⟨by omega, by omega⟩
      rw [← hh2, ← hh1]
      exact frm_row (frm_row u1 ⟨by omega, by omega⟩ ⟨by omega, by omega⟩) ⟨by omega, by omega⟩ ⟨by omega, by omega⟩
    · have s1 : shape h1 := by rw [← hh1]; exact shape_row (u2 hsh) x4
      have s2 : shape h2 := by rw [← hh2]; exact shape_row s1 x51
      exact shape_int (k := 3) (x := nI t) (y := nI (t + 1)) s2 o2 rfl
    · refine ⟨sf, ?_, fun a ha => ?_⟩
      · rw [wr_at, if_neg (by omega), q2 _ (by omega) (by omega)]; exact v11
      obtain ⟨y1, y2, y3, ⟨n2, f2, y4⟩, n3, f3, y5⟩ := v2 a ha
      by_cases ea : a = t
      · subst ea
        rw [hSe]
        exact ⟨x1, x2, by rw [wr_at, if_neg (by omega), q2 _ (by omega) (by omega)]; exact x31, ⟨_, _, nm⟩, _, _, vl⟩
      · have hne : P a ≠ P t := fun q => ea (hP a t ha (by omega) q)
        exact ⟨y1, y2, by rw [q3 _ (by omega) (by omega) (by omega) (by omega) (by omega) (by omega)]; exact y3, ⟨n2, f2, by rw [q3 _ (by omega) (by omega) (by omega) (by omega) (by omega) (by omega)]; exact y4.1, by rw [q3 _ (by omega) (by omega) (by omega) (by omega) (by omega) (by omega)]; exact y4.2.1, y4.2.2⟩, n3, f3, by rw [q3 _ (by omega) (by omega) (by omega) (by omega) (by omega) (by omega)]; exact y5.1, by rw [q3 _ (by omega) (by omega) (by omega) (by omega) (by omega) (by omega)]; exact y5.2.1, y5.2.2⟩
    · rw [wr_at, if_pos rfl, if_pos (by omega)]
    · rw [wr_at, if_neg (by omega), q2 _ (by omega) (by omega), q1 _ (by omega) (by omega)]; exact o.2
    · by_cases ea : a = t
      · subst ea
        rw [hSe]
        refine ⟨_, _, nm, fun k hk => ?_, vl, fun k hk => ?_⟩
        · rw [vcp_at hk, ← hf _ (by omega)]; congr 2; omega
        · rw [vcp_at hk, ← hf _ (by omega)]; congr 2; omega
      · have hne : P a ≠ P t := fun q => ea (hP a t (by omega) (by omega) q)
        have y2 := (v2 a (by omega)).2.1
        exact setOK_keep (u5 a (by omega)) (fun k z1 z2 => q3 k (by omega) (by omega) (by omega) (by omega) (by omega) (by omega))
set_option maxRecDepth 16384 in
theorem mul8 {k : Nat} (hk : k ≤ 12) : 8 * nI k = nI (8 * k) := by
  have : k = 0 ∨ k = 1 ∨ k = 2 ∨ k = 3 ∨ k = 4 ∨ k = 5 ∨ k = 6 ∨ k = 7 ∨ k = 8 ∨ k = 9 ∨ k = 10 ∨ k = 11 ∨ k = 12 := by omega
  rcases this with rfl | rfl | rfl | rfl | rfl | rfl | rfl | rfl | rfl | rfl | rfl | rfl | rfl <;> rfl
set_option maxRecDepth 16384 in
theorem c_take {I nl ns l : Nat} {P pos na nv : Nat → Nat} {x y : Int32} {L : Nat → Int64} (hP : ∀ a b, a < 6 → b < 6 → P a = P b → a = b) (w : rowAt h r N n f) (hr1 : ¬ imA I r) (hr2 : ¬ imA I (r + 1)) (ok : imgOK bb l nl ns pos na nv) (hf : ∀ j, j < l → f (s + j) &&& 255 = bb j) (hs : s + l ≤ n)
    (i0 : h.2[I]? = some (.inl (6, [.ref (I + 1), .int x, .ref (I + 2), .int y]))) (i1 : h.2[I + 1]? = some (.inr (2, 12, .inr (.inl L)))) (i2 : imS h I P)
    (hQ : ∀ h', tk2 h h' I nl ns bb P pos na nv → Q (.inl none) h') :
    px_Wp sx 82 0 [some (.ref I), some (.ref r), some (.int (nI s)), none, none, none, none, none] [] h Q := by
  have hn := w.2.2
  have hl : I + 1 < h.2.length := (List.getElem?_eq_some_iff.mp i1).1
  have hlp := img_pos ok ns 0 (by omega)
  have ok' := ok
  obtain ⟨k1, k2, -, k3, k4, k5, k6, k7⟩ := ok
  have hcI : px_cls h I = some 6 := by unfold px_cls; rw [i0]
  have t0 : tk1 h (px_wr h I (.inl (6, [.ref (I + 1), .int 0, .ref (I + 2), .int 0]))) I 0 bb P := by
    refine ⟨frm_wr (frm_refl _ _) ⟨by omega, by omega⟩, fun hsh => ?_, imS_up i2 (fun k hk _ => by rw [wr_at, if_neg (by omega)]), L, ⟨by rw [wr_at, if_pos rfl, if_pos (by omega)]; rfl, by rw [wr_at, if_neg (by omega)]; exact i1⟩, fun i hi => absurd hi (by omega)⟩
    have s1 := shape_int (k := 1) (x := x) (y := 0) hsh i0 rfl
    have e : (px_wr h I (.inl (6, [.ref (I + 1), .int 0, .ref (I + 2), .int y]))).2[I]? = some (.inl (6, [.ref (I + 1), .int 0, .ref (I + 2), .int y])) := by rw [wr_at, if_pos rfl, if_pos (by omega)]
    have s2 := shape_int (k := 3) (x := y) (y := 0) s1 e rfl
    rw [show (px_wr h I (.inl (6, List.set [.ref (I + 1), .int x, .ref (I + 2), .int y] 1 (.int 0)))) = px_wr h I (.inl (6, [.ref (I + 1), .int 0, .ref (I + 2), .int y])) from rfl] at s2
    rw [px_wr_wr] at s2
    exact s2
  have e0 : (px_wr h I (.inl (6, [.ref (I + 1), .int 0, .ref (I + 2), .int y]))).2[I]? = some (.inl (6, [.ref (I + 1), .int 0, .ref (I + 2), .int y])) := by rw [wr_at, if_pos rfl, if_pos (by omega)]
  generalize hh0 : px_wr h I (.inl (6, [.ref (I + 1), .int 0, .ref (I + 2), .int 0])) = h0 at t0
  have w0 := frm_rowAt t0.1 hr1 hr2 w
  have hcr : px_cls h0 r = some 1 := by unfold px_cls; rw [w0.1]
  simp only [pc82_0, pc82_0n, pc82_1, hcI, true_and, pc81_0, pc81_0n, pc81_1, pc81_2, pc81_5, pc81_5n, pc81_6, pc81_7, pc81_10, px_op_some, px_kv_ap, px_ki_ap, px_kl_ap, px_kn_ap, px_kh_ap, px_op_none, px_K_some, px_K_none, px_K_thr, px_kill, ↓reduceIte, if_true, if_false, true_and, and_true, px_pf, i0, e0, List.length_cons, List.length_nil, Nat.reduceAdd, Nat.reduceLT, px_fit, and_self, List.set_cons_succ, List.set_cons_zero, px_wr_wr, hh0, pc82_4, pc82_4n, pc82_5, pc82_6, pc82_7, pc82_8, hcr, nI_1]
  rw [r_at w0]
  have p0 : ¬ nI (s + 1) < 0 := nI_pos (by omega)
  have p1 : ¬ nI n ≤ nI (s + 1) := nI_ge (by omega) (by omega)
  have pc : (nI (s + 1)).toNatClampNeg = s + 1 := nI_clamp (by omega)
  have e1 : f (s + 1) &&& 255 = nI nl := by rw [hf _ (by omega), k3]
  simp only [px_K_some, pc82_11, pc82_12, pc82_13, px_kill, if_neg p0, if_neg p1, pc, e1]
  refine c_take_l1 w hr1 hr2 k1 (fun j hj => hf j (by omega)) (by omega) (fun h1 t1 => ?_) nl 0 (by omega) h0 t0
  obtain ⟨a1, a2, a3, L1, o, hL⟩ := t1
  have w1 := frm_rowAt a1 hr1 hr2 w
  have hcr1 : px_cls h1 r = some 1 := by unfold px_cls; rw [w1.1]
  have e2 : nI s + 2 + 8 * nI nl = nI (s + (2 + 8 * nl)) := by rw [mul8 k1, show (2 : Int32) = nI 2 from rfl, nI_add, nI_add]; congr 1; omega
  have p0' : ¬ nI (s + (2 + 8 * nl)) < 0 := nI_pos (by omega)
  have p1' : ¬ nI n ≤ nI (s + (2 + 8 * nl)) := nI_ge (by omega) (by omega)
  have pc' : (nI (s + (2 + 8 * nl))).toNatClampNeg = s + (2 + 8 * nl) := nI_clamp (by omega)
  have e3 : f (s + (2 + 8 * nl)) &&& 255 = nI ns := by rw [hf _ (by omega), k4]
  simp only [pc82_51, pc82_52, pc82_53, pc82_54, pc82_56, pc82_56n, pc82_57, pc82_60, pc82_61, pc82_62, pc82_64, pc82_64n, pc82_65, pc82_67, px_gf, o.1, if_true, List.getElem?_cons_zero, List.getElem?_cons_succ, px_op_some, px_kv_ap, px_ki_ap, px_kl_ap, px_kn_ap, px_kh_ap, e2, px_kill, hcr1, true_and]
  rw [r_at w1]
  have e4 : nI (s + (2 + 8 * nl)) + 1 = nI (s + pos 0) := by rw [nI_1, k5]; congr 1; omega
  simp only [px_K_some, pc82_70, pc82_71, pc82_74, pc82_75, px_kill, if_neg p0', if_neg p1', pc', e3, e4]
  exact c_take_l2 hP w hr1 hr2 ok' hf hs hQ ns 0 (by omega) h1 _ _ ⟨a1, a2, a3, ⟨L1, o, hL⟩, fun a ha => absurd ha (by omega)⟩
end TAKE
