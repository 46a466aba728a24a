/-! THE HEAP'S INSTRUCTIONS -/
def px_tyb : FieldType → Nat
  | .int => 0
  | .boolean => 1
  | .long => 2
  | .object _ => 3
  | .array _ => 3
  | _ => 9
/-- what the tables say of the classes -/
def px_GoodC (G : px_G) (cl : List vw_C) (Ts : List Jvm.Cond) : Prop := ∀ (c : Nat) (q : vw_C), cl[c]? = some q →
  (∀ w ∈ u_ws q.1 q.2.1 q.2.2, w ∈ Ts) ∧ (∀ k, k < q.2.2 → parseFieldDescriptor (q.2.1 k).2.2.1 = some ((parseFieldDescriptor (q.2.1 k).2.2.1).getD .int) ∧ (q.2.1 k).1 = q.1) ∧
  (∀ a, a < q.2.2 → ∀ b, b < q.2.2 → a ≠ b → (q.2.1 a).2.1 ≠ (q.2.1 b).2.1) ∧
  (c < px_NC → Jvm.Cond.instantiable q.1 q.2.2 ∈ Ts ∧ Jvm.Cond.initialized q.1 ∈ Ts ∧ (px_Gd G c).length = q.2.2 ∧ (∀ v ∈ px_Gd G c, v = .int 0 ∨ v = .long 0 ∨ v = .null) ∧
    ∀ j, j < q.2.2 → defaultValue ((parseFieldDescriptor (q.2.1 j).2.2.1).getD .int) = vp_V (px_Gd G c) j)
/-- what the tables say of a method's pool -/
def px_GoodM (G : px_G) (cl : List vw_C) (Ts : List Jvm.Cond) (M : px_M) : Prop :=
  (∀ (idx c f t : Nat) (fin : Bool), px_Gf G (px_Mo M) idx = some (c, f, t, fin) → ∃ q : vw_C, cl[c]? = some q ∧ f < q.2.2 ∧ Jvm.Cond.fieldLink (px_Mn M) idx q.1 (q.2.1 f).2.1 (q.2.1 f).2.2.1 ∈ Ts ∧ (q.2.1 f).2.2.2 = fin ∧
    (fin = true → c = px_Mo M → q.1 = px_Mn M) ∧ px_tyb ((parseFieldDescriptor (q.2.1 f).2.2.1).getD .int) = t) ∧
  (∀ (idx c : Nat), px_Gk G (px_Mo M) idx = some c → ∃ q : vw_C, cl[c]? = some q ∧ Jvm.Cond.classLink (px_Mn M) idx q.1 ∈ Ts) ∧
  (∀ (idx : Nat) (v : Int32), px_Gv G (px_Mo M) idx = some (.int v) → Jvm.Cond.constant (px_Mn M) idx v ∈ Ts) ∧
  (∀ (idx : Nat) (v : Int64), px_Gv G (px_Mo M) idx = some (.long v) → Jvm.Cond.constantLong (px_Mn M) idx v ∈ Ts) ∧
  (∀ (idx k : Nat), px_Gv G (px_Mo M) idx = some (.retAddr k) → ∃ (i : Nat) (tx : String), k = i + 1 ∧ px_txt[i]? = some (px_Mn M, idx, tx)) ∧
  (Jvm.Cond.arrayClass .byte ∈ Ts ∧ Jvm.Cond.arrayClass .int ∈ Ts ∧ Jvm.Cond.arrayClass .long ∈ Ts ∧ Jvm.Cond.arrayClass .boolean ∈ Ts)
section PXH
variable {p : Program} {l : Launch} {e : Env} {R : Room} {s : State} {m : MethodId} {args : Array Value} {below : List Frame} {meth : Method} {c : Code} {Q : State → Prop}
variable {G : px_G} {sx : Nat × (Nat → Int32)} {M : px_M} {D : va_G} {cl : List vw_C} {cA : Nat → ClassId} {b0 : Nat} {sc : Nat → Nat} {Ts : List Jvm.Cond} {h0 : px_H}
variable {pc : Nat} {L : px_L} {S : List Value} {h : px_H}
theorem px_size {H : Heap} {hs : List px_C} (P : va_P D cl (px_ws cA b0 sc hs) H) (hne : 0 < hs.length) : b0 + hs.length ≤ H.size := by
  have h1 : hs[hs.length - 1]? = some hs[hs.length - 1] := List.getElem?_eq_getElem (by omega)
  have h2 := (P _ _ (px_ws_at h1)).lt
  simp only at h2
  omega
theorem px_lt {r : Nat} {x : px_C} {hs : List px_C} (h : hs[r]? = some x) : r < hs.length := (List.getElem?_eq_some_iff.mp h).1
/-- behind a write of one cell -/
theorem px_wrote {r : Nat} {x : px_C} {h' : px_H} {locs1 : List Loc} {H1 : Heap} {g : JFrame} (hr : r < h.2.length) (he : h' = (h.1, h.2.set r x)) (hz : s.heap.size = b0 + h0.2.length) (ha : h0.2.length ≤ h.2.length ∧ h.2.length ≤ px_CT)
    (P1 : va_P D cl (px_ws cA b0 sc h'.2) H1)
    (k : H1.size = b0 + h'.2.length → W p l e R s m args below meth c H1 locs1 (h'.2.length - h0.2.length) (h'.1 - h0.1) Q g) : W p l e R s m args below meth c H1 locs1 (h.2.length - h0.2.length) (h.1 - h0.1) Q g := by
  have hl : h'.2.length = h.2.length := by rw [he]; simp
  have h1 : h'.1 = h.1 := by rw [he]
  rw [hl, h1] at k
  intro T hT X
  have hu := X.heapSize
  rw [hT] at hu
  have hlo := px_size P1 (by omega)
  exact k (by omega) T hT X
theorem px_getfield (A : px_Act p s m args meth c M sx D cl cA b0 sc Ts h0) (Gc : px_GoodC G cl Ts) (Gm : px_GoodM G cl Ts M) {idx : Nat} (hd : decode (px_Mb M) pc = .ok (.getfield idx, 3)) {S' : List Value} (h1 : px_get G M idx S h = some S')
    (k : px_W p l e R s m args below meth c Q D cl cA b0 sc h0 (pc + 3) L S' h) : px_W p l e R s m args below meth c Q D cl cA b0 sc h0 pc L S h := by
  obtain ⟨⟨hx, hb, hml, ho, hts⟩, -, ⟨hK, -⟩, -⟩ := A
  unfold px_get at h1
  split at h1
  · next r S0 =>
    split at h1
    · next cc f t fin c' fs hf hr =>
      split at h1
      · next hc =>
        subst hc
        split at h1
        · next v hv =>
          cases h1
          obtain ⟨⟨C, T, N⟩, hq, hfN, hlink, -⟩ := Gm.1 _ _ _ _ _ hf
          obtain ⟨hin, hty, -⟩ := Gc _ _ hq
          intro a b H locs ls z P hS hl
          refine va_get hx hb hts hin ho hK P r (px_ws_at hr) hq f hfN (hts _ hlink) (fun x hx => by rw [(hty f hfN).2] at hx; exact hx) (v := px_rv b0 sc v) (by rw [List.getElem?_map, hv]; rfl) hd ?_
          exact k a b H locs ls z P hS hl
        · cases h1
      · cases h1
    · cases h1
  · cases h1
theorem px_fit_of {t : Nat} {ty : FieldType} {v : Value} (ht : px_tyb ty = t) (h : px_fit t v = true) : narrow ty (px_rv b0 sc v) = px_rv b0 sc v ∧ fits ty (px_rv b0 sc v) = true := by
  subst ht
  cases ty <;> cases v <;> simp [px_tyb, px_fit] at h <;> first | exact ⟨rfl, rfl⟩ | (rcases h with h | h <;> subst h <;> exact ⟨rfl, rfl⟩)
theorem px_putfield (A : px_Act p s m args meth c M sx D cl cA b0 sc Ts h0) (Gc : px_GoodC G cl Ts) (Gm : px_GoodM G cl Ts M) {idx : Nat} (hd : decode (px_Mb M) pc = .ok (.putfield idx, 3)) {S' : List Value} {h' : px_H} (h1 : px_put G M idx S h = some (S', h'))
    (k : px_W p l e R s m args below meth c Q D cl cA b0 sc h0 (pc + 3) L S' h') : px_W p l e R s m args below meth c Q D cl cA b0 sc h0 pc L S h := by
  obtain ⟨⟨hx, hb, hml, ho, hts⟩, ⟨-, -, hnm, -⟩, ⟨hK, -, -, hz, -⟩, -⟩ := A
  unfold px_put at h1
  split at h1
  · next v r S0 =>
    split at h1
    · next cc f t fin c' fs hf hr =>
      split at h1
      · next hq0 =>
        obtain ⟨hc, hfl, hfit, hfin⟩ := hq0
        subst hc
        cases h1
        obtain ⟨⟨C, T, N⟩, hq, hfN, hlink, hfi, hown, htt⟩ := Gm.1 _ _ _ _ _ hf
        obtain ⟨hin, hty, hnd, -⟩ := Gc _ _ hq
        obtain ⟨hn1, hf1⟩ := px_fit_of (b0 := b0) (sc := sc) htt hfit
        intro a b H locs ls z P hS hl
        have key : ∀ (H1 : Heap) (locs1 : List Loc), va_P D cl ((px_ws cA b0 sc h.2).set r (b0 + r, .inr (c', (fs.map (px_rv b0 sc)).set f (px_rv b0 sc v)))) H1 → va_D (fun q => b0 ≤ q) ((px_ws cA b0 sc h.2).set r (b0 + r, .inr (c', (fs.map (px_rv b0 sc)).set f (px_rv b0 sc v)))) → va_S (fun q => b0 ≤ q) s.heap H1 locs1 →
            W p l e R s m args below meth c H1 locs1 (h.2.length - h0.2.length) (h.1 - h0.1) Q (F0 m (pc + 3) ls (S'.map (px_rv b0 sc))) := by
          intro H1 locs1 P1 _ hS1
          rw [show ((b0 + r, Sum.inr (c', (fs.map (px_rv b0 sc)).set f (px_rv b0 sc v))) : Nat × va_E) = (b0 + r, px_E cA b0 sc (.inl (c', fs.set f v))) by simp [px_E, List.map_set], ← px_ws_set] at P1
          exact px_wrote (h := h) (h' := (h.1, h.2.set r (.inl (c', fs.set f v)))) (px_lt hr) rfl hz a P1 fun z1 => k (by simpa using a) b H1 locs1 ls z1 P1 hS1 hl
        cases fin with
        | false => exact va_put hx hb hts hin _ (fun k hk => (hty k hk).1) hnd ho hK P (px_ws_D cA b0 sc h.2) hS r (px_ws_at hr) hq f hfN (hts _ hlink) (fun x hx => by rw [(hty f hfN).2] at hx; exact hx) hfi (hty f hfN).1 hn1 hf1 (by simpa using hfl) hd key
        | true => exact va_putF hx hb hts hin _ (fun k hk => (hty k hk).1) hnd ho hK P (px_ws_D cA b0 sc h.2) hS r (px_ws_at hr) hq f hfN (hts _ hlink) (fun x hx => by rw [(hty f hfN).2] at hx; exact hx) hfi (hnm.trans (hfin rfl).1) ((hty f hfN).2.trans (hown rfl (hfin rfl).2)) (hty f hfN).1 hn1 hf1 (by simpa using hfl) hd key
      · cases h1
    · cases h1
  · cases h1
theorem px_in_of {i : Int32} {n : Nat} (h : px_in i n = true) : vp_in i n := (of_decide_eq_true h : ¬ (i < 0 ∨ n ≤ i.toNatClampNeg))
theorem px_ld1 (A : px_Act p s m args meth c M sx D cl cA b0 sc Ts h0) {i : Instr} {tags : List Nat} (hi : (i = .iaload ∧ tags = [1]) ∨ (i = .baload ∧ tags = [0, 3])) (hd : decode (px_Mb M) pc = .ok (i, 1)) {S' : List Value} (h1 : px_iald sx tags S h = some S')
    (k : px_W p l e R s m args below meth c Q D cl cA b0 sc h0 (pc + 1) L S' h) : px_W p l e R s m args below meth c Q D cl cA b0 sc h0 pc L S h := by
  obtain ⟨⟨hx, hb, hml, ho, hts⟩, -, ⟨hK, hX, hsc, hz, -⟩, -⟩ := A
  unfold px_iald at h1
  split at h1
  · next j r S0 =>
    split at h1
    · next t n f hr =>
      split at h1
      · next hq =>
        cases h1
        intro a b H locs ls z P hS hl
        have hin := px_in_of hq.2
        have kk := k a b H locs ls z P hS hl
        rcases hi with ⟨rfl, rfl⟩ | ⟨rfl, rfl⟩
        · have ht : t = 1 := by simpa using hq.1
          subst ht
          obtain ⟨t0, ht0⟩ := px_tys_at cl cA (t := 1) (by decide)
          exact va_iald hx hb hK P r t0 (px_ws_at hr) ht0 hin hd kk
        · have ht : t = 0 ∨ t = 3 := by simpa using hq.1
          rcases ht with rfl | rfl
          · obtain ⟨t0, ht0⟩ := px_tys_at cl cA (t := 0) (by decide)
            exact va_bald hx hb hK P r t0 (px_ws_at hr) ht0 hin hd kk
          · obtain ⟨t0, ht0⟩ := px_tys_at cl cA (t := 3) (by decide)
            exact va_zald hx hb hK P r t0 (px_ws_at hr) ht0 hin hd kk
      · cases h1
    · cases h1
  · next j S0 =>
    split at h1
    · next hq =>
      cases h1
      intro a b H locs ls z P hS hl
      rcases hi with ⟨rfl, rfl⟩ | ⟨rfl, rfl⟩
      · exact va_sld hx hb hX (by omega) (by omega) hS (px_in_of hq.2) hd (k a b H locs ls z P hS hl)
      · simp at hq
    · cases h1
  · cases h1
theorem px_ldJ (A : px_Act p s m args meth c M sx D cl cA b0 sc Ts h0) (hd : decode (px_Mb M) pc = .ok (.laload, 1)) {S' : List Value} (h1 : px_lald S h = some S')
    (k : px_W p l e R s m args below meth c Q D cl cA b0 sc h0 (pc + 1) L S' h) : px_W p l e R s m args below meth c Q D cl cA b0 sc h0 pc L S h := by
  obtain ⟨⟨hx, hb, hml, ho, hts⟩, -, ⟨hK, -⟩, -⟩ := A
  unfold px_lald at h1
  split at h1
  · next j r S0 =>
    split at h1
    · next t n f hr =>
      split at h1
      · next hq =>
        cases h1
        obtain ⟨rfl, hin⟩ := hq
        intro a b H locs ls z P hS hl
        obtain ⟨t0, ht0⟩ := px_tys_at cl cA (t := 2) (by decide)
        exact va_lald hx hb hK P r t0 (px_ws_at hr) ht0 (px_in_of hin) hd (k a b H locs ls z P hS hl)
      · cases h1
    · cases h1
  · cases h1
theorem px_ty_obj {t : Nat} (h : 10 ≤ t) : px_ty cl t = .object ((cl[t - 10]?).elim "" (fun q => q.1)) := by
  unfold px_ty
  rw [if_neg (by omega), if_neg (by omega), if_neg (by omega), if_neg (by omega)]
theorem px_rf_rv (o : Option Nat) : px_rv b0 sc (px_rf o) = va_rf (o.map (b0 + ·)) := by cases o <;> rfl
theorem px_ldA (A : px_Act p s m args meth c M sx D cl cA b0 sc Ts h0) (hd : decode (px_Mb M) pc = .ok (.aaload, 1)) {S' : List Value} (h1 : px_aald S h = some S')
    (k : px_W p l e R s m args below meth c Q D cl cA b0 sc h0 (pc + 1) L S' h) : px_W p l e R s m args below meth c Q D cl cA b0 sc h0 pc L S h := by
  obtain ⟨⟨hx, hb, hml, ho, hts⟩, -, ⟨hK, -⟩, -⟩ := A
  unfold px_aald at h1
  split at h1
  · next j r S0 =>
    split at h1
    · next t n f hr =>
      split at h1
      · next hq =>
        cases h1
        obtain ⟨⟨htg, ht10⟩, hin⟩ := hq
        intro a b H locs ls z P hS hl
        obtain ⟨t0, ht0⟩ := px_tys_at cl cA htg
        rw [px_ty_obj ht10] at ht0
        have kk := k a b H locs ls z P hS hl
        rw [List.map_cons, px_rf_rv] at kk
        exact va_aldq hx hb hK P r t0 (px_ws_at hr) ht0 (px_in_of hin) hd kk
      · cases h1
    · cases h1
  · cases h1
theorem px_len (A : px_Act p s m args meth c M sx D cl cA b0 sc Ts h0) (hd : decode (px_Mb M) pc = .ok (.arraylength, 1)) {S' : List Value} (h1 : px_alen sx S h = some S')
    (k : px_W p l e R s m args below meth c Q D cl cA b0 sc h0 (pc + 1) L S' h) : px_W p l e R s m args below meth c Q D cl cA b0 sc h0 pc L S h := by
  obtain ⟨⟨hx, hb, hml, ho, hts⟩, -, ⟨hK, hX, hsc, hz, -⟩, -⟩ := A
  unfold px_alen at h1
  split at h1
  · next r S0 =>
    split at h1
    · next t n ar hr =>
      split at h1
      · next hq =>
        cases h1
        intro a b H locs ls z P hS hl
        obtain ⟨t0, ht0⟩ := px_tys_at cl cA hq
        have kk := k a b H locs ls z P hS hl
        rcases ar with f | f | f
        · exact va_alen hx hb hK P r t0 (px_ws_at hr) ht0 rfl hd kk
        · exact va_alen hx hb hK P r t0 (px_ws_at hr) ht0 rfl hd kk
        · exact va_alen hx hb hK P r t0 (px_ws_at hr) ht0 rfl hd kk
      · cases h1
    · cases h1
  · cases h1
    intro a b H locs ls z P hS hl
    exact va_slen hx hb hX (by omega) (by omega) hS hd (k a b H locs ls z P hS hl)
  · cases h1
theorem px_stI (A : px_Act p s m args meth c M sx D cl cA b0 sc Ts h0) {i : Instr} {tags : List Nat} (hi : (i = .iastore ∧ tags = [1]) ∨ (i = .bastore ∧ tags = [0, 3])) (hd : decode (px_Mb M) pc = .ok (i, 1)) {S' : List Value} {h' : px_H} (h1 : px_iast tags S h = some (S', h'))
    (k : px_W p l e R s m args below meth c Q D cl cA b0 sc h0 (pc + 1) L S' h') : px_W p l e R s m args below meth c Q D cl cA b0 sc h0 pc L S h := by
  obtain ⟨⟨hx, hb, hml, ho, hts⟩, -, ⟨hK, -, -, hz, -⟩, -⟩ := A
  unfold px_iast at h1
  split at h1
  · next x j r S0 =>
    split at h1
    · next t n f hr =>
      split at h1
      · next hq =>
        cases h1
        intro a b H locs ls z P hS hl
        have hin := px_in_of hq.2
        have key : ∀ (g : Nat → Int32), g = px_up f j.toNatClampNeg (px_nar t x) → ∀ (H1 : Heap) (locs1 : List Loc), va_P D cl ((px_ws cA b0 sc h.2).set r (b0 + r, .inl (cA t, n, .inl g))) H1 → va_S (fun q => b0 ≤ q) s.heap H1 locs1 →
            W p l e R s m args below meth c H1 locs1 (h.2.length - h0.2.length) (h.1 - h0.1) Q (F0 m (pc + 1) ls (S'.map (px_rv b0 sc))) := by
          intro g hg H1 locs1 P1 hS1
          subst hg
          rw [show ((b0 + r, Sum.inl (cA t, n, Sum.inl (px_up f j.toNatClampNeg (px_nar t x)))) : Nat × va_E) = (b0 + r, px_E cA b0 sc (.inr (t, n, .inl (px_up f j.toNatClampNeg (px_nar t x))))) from rfl, ← px_ws_set] at P1
          exact px_wrote (h := h) (h' := (h.1, h.2.set r (.inr (t, n, .inl (px_up f j.toNatClampNeg (px_nar t x)))))) (px_lt hr) rfl hz a P1 fun z1 => k (by simpa using a) b H1 locs1 ls z1 P1 hS1 hl
        rcases hi with ⟨rfl, rfl⟩ | ⟨rfl, rfl⟩
        · have ht : t = 1 := by simpa using hq.1
          subst ht
          obtain ⟨t0, ht0⟩ := px_tys_at cl cA (t := 1) (by decide)
          exact va_iast hx hb hK P (px_ws_D cA b0 sc h.2) hS r t0 (px_ws_at hr) ht0 hin hd fun H1 locs1 P1 _ hS1 => key _ rfl H1 locs1 P1 hS1
        · have ht : t = 0 ∨ t = 3 := by simpa using hq.1
          rcases ht with rfl | rfl
          · obtain ⟨t0, ht0⟩ := px_tys_at cl cA (t := 0) (by decide)
            exact va_bast hx hb hK P (px_ws_D cA b0 sc h.2) hS r t0 (px_ws_at hr) ht0 hin hd fun H1 locs1 P1 _ hS1 => key _ rfl H1 locs1 P1 hS1
          · obtain ⟨t0, ht0⟩ := px_tys_at cl cA (t := 3) (by decide)
            exact va_zast hx hb hK P (px_ws_D cA b0 sc h.2) hS r t0 (px_ws_at hr) ht0 hin hd fun H1 locs1 P1 _ hS1 => key _ rfl H1 locs1 P1 hS1
      · cases h1
    · cases h1
  · cases h1
theorem px_stJ (A : px_Act p s m args meth c M sx D cl cA b0 sc Ts h0) (hd : decode (px_Mb M) pc = .ok (.lastore, 1)) {S' : List Value} {h' : px_H} (h1 : px_last S h = some (S', h'))
    (k : px_W p l e R s m args below meth c Q D cl cA b0 sc h0 (pc + 1) L S' h') : px_W p l e R s m args below meth c Q D cl cA b0 sc h0 pc L S h := by
  obtain ⟨⟨hx, hb, hml, ho, hts⟩, -, ⟨hK, -, -, hz, -⟩, -⟩ := A
  unfold px_last at h1
  split at h1
  · next x j r S0 =>
    split at h1
    · next t n f hr =>
      split at h1
      · next hq =>
        cases h1
        obtain ⟨rfl, hin⟩ := hq
        intro a b H locs ls z P hS hl
        obtain ⟨t0, ht0⟩ := px_tys_at cl cA (t := 2) (by decide)
        refine va_last hx hb hK P (px_ws_D cA b0 sc h.2) hS r t0 (px_ws_at hr) ht0 (px_in_of hin) hd fun H1 locs1 P1 _ hS1 => ?_
        rw [show ((b0 + r, Sum.inl (cA 2, n, Sum.inr (Sum.inl (vp_updL f j.toNatClampNeg x)))) : Nat × va_E) = (b0 + r, px_E cA b0 sc (.inr (2, n, .inr (.inl (px_up f j.toNatClampNeg x))))) from rfl, ← px_ws_set] at P1
        exact px_wrote (h := h) (h' := (h.1, h.2.set r (.inr (2, n, .inr (.inl (px_up f j.toNatClampNeg x)))))) (px_lt hr) rfl hz a P1 fun z1 => k (by simpa using a) b H1 locs1 ls z1 P1 hS1 hl
      · cases h1
    · cases h1
  · cases h1
theorem px_upmap (f : Nat → Option Nat) (i : Nat) (o : Option Nat) : va_up (fun j => (f j).map (b0 + ·)) i (o.map (b0 + ·)) = fun j => (px_up f i o j).map (b0 + ·) := by
  funext j
  unfold va_up px_up
  split <;> rfl
theorem px_stA (A : px_Act p s m args meth c M sx D cl cA b0 sc Ts h0) (hd : decode (px_Mb M) pc = .ok (.aastore, 1)) {S' : List Value} {h' : px_H} (h1 : px_aast S h = some (S', h'))
    (k : px_W p l e R s m args below meth c Q D cl cA b0 sc h0 (pc + 1) L S' h') : px_W p l e R s m args below meth c Q D cl cA b0 sc h0 pc L S h := by
  obtain ⟨⟨hx, hb, hml, ho, hts⟩, -, ⟨hK, -, -, hz, -⟩, -⟩ := A
  have key : ∀ {t n r : Nat} {f : Nat → Option Nat} {j : Int32} {o : Option Nat} {S0 : List Value} {ls : Array Slot} {H1 : Heap} {locs1 : List Loc}, h.2[r]? = some (.inr (t, n, .inr (.inr f))) → px_W p l e R s m args below meth c Q D cl cA b0 sc h0 (pc + 1) L S0 (h.1, h.2.set r (.inr (t, n, .inr (.inr (px_up f j.toNatClampNeg o))))) →
      (h0.2.length ≤ h.2.length ∧ h.2.length ≤ px_CT) → (h0.1 ≤ h.1 ∧ h.1 ≤ px_ST) → px_loc b0 sc ls L → va_P D cl ((px_ws cA b0 sc h.2).set r (b0 + r, .inl (cA t, n, .inr (.inr (.inr (.inr (va_up (fun j => (f j).map (b0 + ·)) j.toNatClampNeg (o.map (b0 + ·)))))))) ) H1 → va_S (fun q => b0 ≤ q) s.heap H1 locs1 →
      W p l e R s m args below meth c H1 locs1 (h.2.length - h0.2.length) (h.1 - h0.1) Q (F0 m (pc + 1) ls (S0.map (px_rv b0 sc))) := by
    intro t n r f j o S0 ls H1 locs1 hr k a b hl P1 hS1
    rw [px_upmap, show ((b0 + r, Sum.inl (cA t, n, Sum.inr (Sum.inr (Sum.inr (Sum.inr (fun j' => (px_up f j.toNatClampNeg o j').map (b0 + ·))))))) : Nat × va_E) = (b0 + r, px_E cA b0 sc (.inr (t, n, .inr (.inr (px_up f j.toNatClampNeg o))))) from rfl, ← px_ws_set] at P1
    exact px_wrote (h := h) (h' := (h.1, h.2.set r (.inr (t, n, .inr (.inr (px_up f j.toNatClampNeg o)))))) (px_lt hr) rfl hz a P1 fun z1 => k (by simpa using a) b H1 locs1 ls z1 P1 hS1 hl
  unfold px_aast at h1
  split at h1
  · next v j r S0 =>
    split at h1
    · next t n f cv vs hr hv =>
      split at h1
      · next hq =>
        cases h1
        obtain ⟨⟨htg, ht10⟩, hin⟩ := hq
        intro a b H locs ls z P hS hl
        obtain ⟨t0, ht0⟩ := px_tys_at cl cA htg
        have hcv := P _ _ (px_ws_at hv)
        obtain ⟨q, hq, -⟩ : ∃ q : vw_C, cl[cv]? = some q ∧ _ := hcv
        rw [px_ty_obj (by omega), show t - 10 = cv by omega, hq] at ht0
        exact va_astq hx hb hK P (px_ws_D cA b0 sc h.2) hS r t0 v cv (px_ws_at hr) ht0 (px_ws_at hv) hq (px_in_of hin) hd fun H1 locs1 P1 _ hS1 => key (o := some v) hr k a b hl P1 hS1
      · cases h1
    · cases h1
  · next j r S0 =>
    split at h1
    · next t n f hr =>
      split at h1
      · next hq =>
        cases h1
        obtain ⟨⟨htg, ht10⟩, hin⟩ := hq
        intro a b H locs ls z P hS hl
        obtain ⟨t0, ht0⟩ := px_tys_at cl cA htg
        rw [px_ty_obj ht10] at ht0
        exact va_astqN hx hb hK P (px_ws_D cA b0 sc h.2) hS r t0 (px_ws_at hr) ht0 (px_in_of hin) hd fun H1 locs1 P1 _ hS1 => key (o := none) hr k a b hl P1 hS1
      · cases h1
    · cases h1
  · cases h1
/-- behind a new cell -/
theorem px_made {x : px_C} {w q : Nat} {h' : px_H} {locs1 : List Loc} {H1 : Heap} {ls : Array Slot} (he : h' = (h.1 + w, h.2 ++ [x])) (hz : s.heap.size = b0 + h0.2.length) (ha : h0.2.length ≤ h.2.length ∧ h.2.length ≤ px_CT) (hb : h0.1 ≤ h.1 ∧ h.1 ≤ px_ST) (hct : h.2.length + 1 ≤ px_CT) (hst : h.1 + w ≤ px_ST)
    (P1 : va_P D cl (px_ws cA b0 sc h.2 ++ [(q, px_E cA b0 sc x)]) H1) (D1 : va_D (fun q => b0 ≤ q) (px_ws cA b0 sc h.2 ++ [(q, px_E cA b0 sc x)])) (hS1 : va_S (fun q => b0 ≤ q) s.heap H1 locs1) (hl : px_loc b0 sc ls L)
    (k : px_W p l e R s m args below meth c Q D cl cA b0 sc h0 pc L (.ref h.2.length :: S) h') :
    W p l e R s m args below meth c H1 locs1 (h.2.length - h0.2.length + 1) (h.1 - h0.1 + w) Q (F0 m pc ls (.ref q :: S.map (px_rv b0 sc))) := by
  have hl' : h'.2.length = h.2.length + 1 := by rw [he]; simp
  have h1 : h'.1 = h.1 + w := by rw [he]
  have hlen : (px_ws cA b0 sc h.2).length = h.2.length := by simp [px_ws]
  have hlast : (px_ws cA b0 sc h.2 ++ [(q, px_E cA b0 sc x)])[h.2.length]? = some (q, px_E cA b0 sc x) := by
    rw [List.getElem?_append_right (by omega), hlen]
    simp
  intro T hT X
  have hu := X.heapSize
  rw [hT] at hu
  have hq0 : b0 ≤ q := D1.2 _ _ hlast
  have hq1 : q < H1.size := (P1 _ _ hlast).lt
  have hq2 : ¬ q < b0 + h.2.length := by
    intro hlt
    have hr : q - b0 < h.2.length := by omega
    have h3 : h.2[q - b0]? = some h.2[q - b0] := List.getElem?_eq_getElem hr
    have h4 : (px_ws cA b0 sc h.2 ++ [(q, px_E cA b0 sc x)])[q - b0]? = some (b0 + (q - b0), px_E cA b0 sc h.2[q - b0]) := by
      rw [List.getElem?_append_left (by omega)]
      exact px_ws_at h3
    have := D1.1 _ _ _ _ h4 hlast (by simp only; omega)
    omega
  have hq3 : q = b0 + h.2.length := by omega
  subst hq3
  have P2 : va_P D cl (px_ws cA b0 sc h'.2) H1 := by
    rw [he, px_ws_push]
    exact P1
  have kk := k (by omega) (by omega) H1 locs1 ls (by omega) P2 hS1 hl
  rw [hl', h1, show h.2.length + 1 - h0.2.length = h.2.length - h0.2.length + 1 by omega, show h.1 + w - h0.1 = h.1 - h0.1 + w by omega] at kk
  exact kk T hT X
theorem px_newobj (A : px_Act p s m args meth c M sx D cl cA b0 sc Ts h0) (Gc : px_GoodC G cl Ts) (Gm : px_GoodM G cl Ts M) (hR : R.cells = px_CT - h0.2.length ∧ R.slots = px_ST - h0.1) {idx : Nat} (hd : decode (px_Mb M) pc = .ok (.new idx, 3)) {S' : List Value} {h' : px_H} (h1 : px_new G (px_Gk G (px_Mo M) idx) S h = some (S', h'))
    (k : px_W p l e R s m args below meth c Q D cl cA b0 sc h0 (pc + 3) L S' h') : px_W p l e R s m args below meth c Q D cl cA b0 sc h0 pc L S h := by
  obtain ⟨⟨hx, hb, hml, ho, hts⟩, -, ⟨hK, -, -, hz, -⟩, -⟩ := A
  unfold px_new at h1
  split at h1
  · next cn hcn =>
    split at h1
    · next hq0 =>
      cases h1
      obtain ⟨hnc, hct, hst⟩ := hq0
      obtain ⟨⟨C, T, N⟩, hq, hlink⟩ := Gm.2.1 _ _ hcn
      obtain ⟨hin, hty, hnd, hnew⟩ := Gc _ _ hq
      obtain ⟨hinst, hini, hlen, hval, hdef⟩ := hnew hnc
      have hmap : (px_Gd G cn).map (px_rv b0 sc) = px_Gd G cn := by
        refine (List.map_congr_left (g := id) fun v hv => ?_).trans (List.map_id _)
        rcases hval v hv with rfl | rfl | rfl <;> rfl
      have hlen' : (px_Gd G cn).length = N := hlen
      intro a b H locs ls z P hS hl
      refine va_new hx hb hts hin _ (fun k hk => (hty k hk).1) ho (hts _ hlink) (hts _ hinst) (hts _ hini) hK P (px_ws_D cA b0 sc h.2) hS (fun q hq => by omega) hq (fs := (px_Gd G cn).map (px_rv b0 sc)) (fun j hj => by rw [hmap]; exact hdef j hj) (by omega) (by omega) hd fun q H1 P1 D1 hS1 => ?_
      rw [← hlen']
      exact px_made (x := .inl (cn, px_Gd G cn)) rfl hz a b hct hst P1 D1 hS1 hl k
    · cases h1
  · cases h1
theorem px_sameA {ty : FieldType} {c1 c2 : ClassId} (h1 : va_RA s c1 ty) (h2 : va_RA s c2 ty) : c1 = c2 := by
  cases ty with
  | object C =>
    obtain ⟨_, _, _, _, _, a1⟩ := h1
    obtain ⟨_, _, _, _, _, a2⟩ := h2
    exact Option.some.inj (a1.symm.trans a2)
  | _ => exact Option.some.inj (Eq.trans (Eq.symm h1) h2)
theorem px_newarr (A : px_Act p s m args meth c M sx D cl cA b0 sc Ts h0) (Gm : px_GoodM G cl Ts M) (hR : R.cells = px_CT - h0.2.length ∧ R.slots = px_ST - h0.1) {aty : ArrayType} (hd : decode (px_Mb M) pc = .ok (.newarray aty, 2)) {S' : List Value} {h' : px_H} (h1 : px_newa (px_atag aty) S h = some (S', h'))
    (k : px_W p l e R s m args below meth c Q D cl cA b0 sc h0 (pc + 2) L S' h') : px_W p l e R s m args below meth c Q D cl cA b0 sc h0 pc L S h := by
  obtain ⟨⟨hx, hb, hml, ho, hts⟩, -, ⟨hK, -, -, hz, -⟩, -⟩ := A
  have key : ∀ {t : Nat} {x : px_A} {n : Int32} {S0 : List Value} {ty : FieldType} {kb : Nat} {a0 : vp_A}, px_ty cl t = ty → t ∈ px_tags → newarray.typeOf aty = ty → Jvm.Cond.arrayClass ty ∈ Ts → componentBytes ty = kb → kb ≤ 8 →
      (∀ q, ((b0 + q, px_E cA b0 sc (.inr (t, n.toNatClampNeg, x))) : Nat × va_E) = (b0 + q, .inl (cA t, a0))) → (∀ cB : ClassId, vp_cell cB a0 = arrV cB n.toNatClampNeg (fun _ => defaultValue ty)) → ¬ n < 0 → n.toNatClampNeg ≤ 1000000 → h.2.length + 1 ≤ px_CT → h.1 + n.toNatClampNeg ≤ px_ST →
      px_W p l e R s m args below meth c Q D cl cA b0 sc h0 (pc + 2) L (.ref h.2.length :: S0) (h.1 + n.toNatClampNeg, h.2 ++ [.inr (t, n.toNatClampNeg, x)]) → px_W p l e R s m args below meth c Q D cl cA b0 sc h0 pc L (.int n :: S0) h := by
    intro t x n S0 ty kb a0 hty htg hto hcl hcb hkb hE ha hn hmil hct hst k a b H locs ls z P hS hl
    have hbytes : n.toNatClampNeg * componentBytes ty ≤ 536870912 := by
      rw [hcb]
      calc n.toNatClampNeg * kb ≤ 1000000 * 8 := Nat.mul_le_mul hmil hkb
        _ ≤ 536870912 := by decide
    refine va_newa hx hb (by rw [hto]; exact hts _ hcl) hto hK P (px_ws_D cA b0 sc h.2) hS (fun q hq => by omega) ha hn rfl hbytes (by omega) (by omega) hd fun q cB H1 K1 P1 D1 hS1 => ?_
    obtain ⟨t0, ht0⟩ := px_tys_at cl cA htg
    rw [hty] at ht0
    have hB : (px_tys cl cA ++ [(cB, ty)])[(px_tys cl cA).length]? = some (cB, ty) := by simp
    have hcc : cB = cA t := px_sameA (K1.2 _ _ hB).2 (hK.2 _ _ ht0).2
    subst hcc
    have hE' : ((Sum.inl (cA t, a0)) : va_E) = px_E cA b0 sc (.inr (t, n.toNatClampNeg, x)) := (Prod.mk.inj (hE 0)).2.symm
    rw [hE'] at P1 D1
    exact px_made (x := .inr (t, n.toNatClampNeg, x)) rfl hz a b hct hst P1 D1 hS1 hl k
  obtain ⟨-, -, -, -, -, hB, hI, hJ, hZ⟩ := Gm
  unfold px_newa at h1
  split at h1
  · next n S0 t x ho1 =>
    split at h1
    · next hq =>
      cases h1
      obtain ⟨htg, hn, hmil, hct, hst⟩ := hq
      cases aty <;> simp only [px_atag] at ho1 <;> first | (cases ho1; done) | skip
      · cases ho1; exact key (a0 := (n.toNatClampNeg, .inl (fun _ => 0))) (ty := .boolean) (kb := componentBytes .boolean) rfl htg rfl hZ rfl (by decide) (fun _ => rfl) (fun _ => rfl) hn hmil hct hst k
      · cases ho1; exact key (a0 := (n.toNatClampNeg, .inl (fun _ => 0))) (ty := .byte) (kb := componentBytes .byte) rfl htg rfl hB rfl (by decide) (fun _ => rfl) (fun _ => rfl) hn hmil hct hst k
      · cases ho1; exact key (a0 := (n.toNatClampNeg, .inl (fun _ => 0))) (ty := .int) (kb := componentBytes .int) rfl htg rfl hI rfl (by decide) (fun _ => rfl) (fun _ => rfl) hn hmil hct hst k
      · cases ho1; exact key (a0 := (n.toNatClampNeg, .inr (.inl (fun _ => 0)))) (ty := .long) (kb := componentBytes .long) rfl htg rfl hJ rfl (by decide) (fun _ => rfl) (fun _ => rfl) hn hmil hct hst k
    · cases h1
  · cases h1
theorem px_newref (A : px_Act p s m args meth c M sx D cl cA b0 sc Ts h0) (Gm : px_GoodM G cl Ts M) (hR : R.cells = px_CT - h0.2.length ∧ R.slots = px_ST - h0.1) {idx : Nat} (hd : decode (px_Mb M) pc = .ok (.anewarray idx, 3)) {S' : List Value} {h' : px_H} (h1 : px_newa ((px_Gk G (px_Mo M) idx).map fun c => (10 + c, .inr (.inr (fun _ => none)))) S h = some (S', h'))
    (k : px_W p l e R s m args below meth c Q D cl cA b0 sc h0 (pc + 3) L S' h') : px_W p l e R s m args below meth c Q D cl cA b0 sc h0 pc L S h := by
  obtain ⟨⟨hx, hb, hml, ho, hts⟩, -, ⟨hK, -, -, hz, -⟩, -, hAO, -⟩ := A
  unfold px_newa at h1
  split at h1
  · next n S0 t x ho1 =>
    split at h1
    · next hq =>
      cases h1
      obtain ⟨htg, hn, hmil, hct, hst⟩ := hq
      obtain ⟨cn, hcn, he⟩ := Option.map_eq_some_iff.mp ho1
      cases he
      obtain ⟨q, hq, hlink⟩ := Gm.2.1 _ _ hcn
      intro a b H locs ls z P hS hl
      refine va_newq hx hb ho (hts _ hlink) (hAO cn q hq htg) hK P (px_ws_D cA b0 sc h.2) hS (fun q hq => by omega) hn rfl (by omega) (by omega) (by omega) hd fun q' cB H1 K1 P1 D1 hS1 => ?_
      obtain ⟨t0, ht0⟩ := px_tys_at cl cA htg
      rw [px_ty_obj (by omega), show 10 + cn - 10 = cn by omega, hq] at ht0
      have hB : (px_tys cl cA ++ [(cB, FieldType.object q.1)])[(px_tys cl cA).length]? = some (cB, .object q.1) := by simp
      have hcc : cB = cA (10 + cn) := px_sameA (K1.2 _ _ hB).2 (hK.2 _ _ ht0).2
      subst hcc
      exact px_made (x := .inr (10 + cn, n.toNatClampNeg, .inr (.inr (fun _ => none)))) rfl hz a b hct hst P1 D1 hS1 hl k
    · cases h1
  · cases h1
/-- ALL INSTRUCTIONS THAT NEITHER CALL NOR LEAVE -/
theorem px_one_sound (A : px_Act p s m args meth c M sx D cl cA b0 sc Ts h0) (Gc : px_GoodC G cl Ts) (Gm : px_GoodM G cl Ts M) (hR : R.cells = px_CT - h0.2.length ∧ R.slots = px_ST - h0.1) {i : Instr} {len : Nat} (hd : decode (px_Mb M) pc = .ok (i, len)) (hlen : px_ln i = 0 ∨ len = px_ln i)
    {pc' : Nat} {L' : px_L} {S' : List Value} {h' : px_H} (h1 : px_one G sx M pc L S h i = some (pc', L', S', h')) (k : px_W p l e R s m args below meth c Q D cl cA b0 sc h0 pc' L' S' h') : px_W p l e R s m args below meth c Q D cl cA b0 sc h0 pc L S h := by
  cases hh : px_heapy i with
  | false => exact px_one_simple A.1.1 A.1.2.1 hh hd hlen h1 k
  | true =>
    have hl : len = px_ln i := by
      rcases hlen with q | q
      · cases i <;> simp [px_heapy] at hh <;> cases q
      · exact q
    subst hl
    cases i <;> simp only [px_heapy] at hh <;> first | (cases hh; done) | skip
    case aaload => obtain ⟨h2, rfl, rfl, rfl⟩ := px_to_inv h1; exact px_ldA A hd h2 k
    case aastore => obtain ⟨h2, rfl, rfl⟩ := px_toH_inv h1; exact px_stA A hd h2 k
    case anewarray idx => obtain ⟨h2, rfl, rfl⟩ := px_toH_inv h1; exact px_newref A Gm hR hd h2 k
    case arraylength => obtain ⟨h2, rfl, rfl, rfl⟩ := px_to_inv h1; exact px_len A hd h2 k
    case baload => obtain ⟨h2, rfl, rfl, rfl⟩ := px_to_inv h1; exact px_ld1 A (Or.inr ⟨rfl, rfl⟩) hd h2 k
    case bastore => obtain ⟨h2, rfl, rfl⟩ := px_toH_inv h1; exact px_stI A (Or.inr ⟨rfl, rfl⟩) hd h2 k
    case getfield idx => obtain ⟨h2, rfl, rfl, rfl⟩ := px_to_inv h1; exact px_getfield A Gc Gm hd h2 k
    case iaload => obtain ⟨h2, rfl, rfl, rfl⟩ := px_to_inv h1; exact px_ld1 A (Or.inl ⟨rfl, rfl⟩) hd h2 k
    case iastore => obtain ⟨h2, rfl, rfl⟩ := px_toH_inv h1; exact px_stI A (Or.inl ⟨rfl, rfl⟩) hd h2 k
    case laload => obtain ⟨h2, rfl, rfl, rfl⟩ := px_to_inv h1; exact px_ldJ A hd h2 k
    case lastore => obtain ⟨h2, rfl, rfl⟩ := px_toH_inv h1; exact px_stJ A hd h2 k
    case new idx => obtain ⟨h2, rfl, rfl⟩ := px_toH_inv h1; exact px_newobj A Gc Gm hR hd h2 k
    case newarray aty => obtain ⟨h2, rfl, rfl⟩ := px_toH_inv h1; exact px_newarr A Gm hR hd h2 k
    case putfield idx => obtain ⟨h2, rfl, rfl⟩ := px_toH_inv h1; exact px_putfield A Gc Gm hd h2 k
    case ldc idx =>
      simp only [px_one] at h1
      split at h1
      · next v hv => cases h1; exact px_keep k fun H locs cells slots ls hl kk => lv_ldc A.1.1 A.1.2.1 A.1.2.2.2.1 (A.1.2.2.2.2 _ (Gm.2.2.1 _ _ hv)) hd kk
      · next v hv =>
        cases h1
        obtain ⟨i, tx, rfl, ht⟩ := Gm.2.2.2.2.1 _ _ hv
        have hR2 := A.2.2.1.2.2.2.2.2.2.2 i _ ht
        exact px_keep k fun H locs cells slots ls hl kk => va_ldcS A.1.1 A.1.2.1 A.1.2.2.2.1 hR2 hd kk
      · cases h1
    case ldc_w idx =>
      simp only [px_one] at h1
      split at h1
      · next v hv => cases h1; exact px_keep k fun H locs cells slots ls hl kk => lv_ldcw A.1.1 A.1.2.1 A.1.2.2.2.1 (A.1.2.2.2.2 _ (Gm.2.2.1 _ _ hv)) hd kk
      · cases h1
    case ldc2_w idx =>
      simp only [px_one] at h1
      split at h1
      · next v hv => cases h1; exact px_keep k fun H locs cells slots ls hl kk => lv_ldc2 A.1.1 A.1.2.1 A.1.2.2.2.1 (A.1.2.2.2.2 _ (Gm.2.2.2.1 _ _ hv)) hd kk
      · cases h1
end PXH
