/-! SHAPE UNDER WRITES; FRAMES -/
def fillV (x : px_C) (k : Nat) (t : Value) : Value := match t with
  | .int _ => .int (cI x k)
  | .long _ => .long (cJ x k)
  | .null => cV x k
  | t => t
set_option maxRecDepth 16384 in
theorem fillF_at (x : px_C) : ∀ (ts : List Value) (j i : Nat), (fillF x j ts)[i]? = (ts[i]?).map (fillV x (j + i)) := by
  intro ts
  induction ts with
  | nil => intro j i; cases i <;> rfl
  | cons t ts ih =>
    intro j i
    cases i with
    | zero => cases t <;> rfl
    | succ i =>
      have e : j + (i + 1) = j + 1 + i := by omega
      cases t <;> (simp only [fillF, List.getElem?_cons_succ]; rw [ih, e])
set_option maxRecDepth 16384 in
theorem shape_w {h : px_H} (hs : shape h) {r : Nat} {x : px_C} (hx : r < 669 → fillC x (tmpl r) = x) : shape (px_wr h r x) := by
  by_cases hr : r < 669
  · exact shape_wr hs (hx hr)
  · refine ⟨by rw [px_wr_len]; exact hs.1, fun r' hr' => ?_⟩
    rw [cell_wr, if_neg (fun q => by omega)]; exact hs.2 r' hr'
set_option maxRecDepth 16384 in
theorem cell_of {h : px_H} {r : Nat} {x : px_C} (hr : h.2[r]? = some x) : cell h r = x := by unfold cell; rw [hr]; rfl
set_option maxRecDepth 16384 in
theorem shape_fld {h : px_H} (hs : shape h) {r c k : Nat} {fs : List Value} {v w : Value} (hr : h.2[r]? = some (.inl (c, fs))) (hk : fs[k]? = some v) (hvw : ∀ t, fillV (.inl (c, fs)) k t = v → fillV (.inl (c, fs.set k w)) k t = w) : shape (px_wr h r (.inl (c, fs.set k w))) := by
  refine shape_w hs (fun hr9 => ?_)
  have h1 := hs.2 r hr9
  rw [cell_of hr] at h1
  have hkl : k < fs.length := (List.getElem?_eq_some_iff.mp hk).1
  generalize tmpl r = T at h1
  match T, h1 with
  | .inl (c', ts), h1 =>
    change (Sum.inl (c', fillF (.inl (c, fs)) 0 ts) : px_C) = .inl (c, fs) at h1
    have h5 := Sum.inl.inj h1
    have hcc : c' = c := congrArg Prod.fst h5
    have h2 : fillF (.inl (c, fs)) 0 ts = fs := congrArg Prod.snd h5
    subst hcc
    show (Sum.inl (c', fillF (.inl (c', fs.set k w)) 0 ts) : px_C) = .inl (c', fs.set k w)
    congr 2
    apply List.ext_getElem?
    intro i
    have h4 : (fillF (.inl (c', fs)) 0 ts)[i]? = fs[i]? := by rw [h2]
    rw [fillF_at, Nat.zero_add] at h4
    rw [fillF_at, Nat.zero_add]
    by_cases e : i = k
    · subst e
      rw [hk] at h4
      rw [List.getElem?_set_self hkl]
      cases ht : ts[i]? with
      | none => rw [ht] at h4; cases h4
      | some t =>
        rw [ht] at h4
        exact congrArg some (hvw t (Option.some.inj h4))
    · rw [List.getElem?_set_ne (fun q => e q.symm), ← h4]
      cases ht : ts[i]? with
      | none => rfl
      | some t =>
        have ei : (fs.set k w)[i]? = fs[i]? := List.getElem?_set_ne (fun q => e q.symm)
        simp only [Option.map_some, Option.some.injEq]
        cases t <;> simp only [fillV, cI, cJ, cV, ei]
  | .inr (_, _, .inl _), h1 => cases h1
  | .inr (_, _, .inr (.inl _)), h1 => cases h1
  | .inr (_, _, .inr (.inr _)), h1 => cases h1
set_option maxRecDepth 16384 in
theorem shape_int {h : px_H} (hs : shape h) {r c k : Nat} {fs : List Value} {x y : Int32} (hr : h.2[r]? = some (.inl (c, fs))) (hk : fs[k]? = some (.int x)) : shape (px_wr h r (.inl (c, fs.set k (.int y)))) := by
  have hkl : k < fs.length := (List.getElem?_eq_some_iff.mp hk).1
  refine shape_fld hs hr hk (fun t ht => ?_)
  have e : (fs.set k (.int y))[k]? = some (.int y) := List.getElem?_set_self hkl
  cases t <;> simp only [fillV, cI, cJ, cV, e] at ht ⊢ <;> first | rfl | (cases ht; done)
set_option maxRecDepth 16384 in
theorem shape_long {h : px_H} (hs : shape h) {r c k : Nat} {fs : List Value} {x y : Int64} (hr : h.2[r]? = some (.inl (c, fs))) (hk : fs[k]? = some (.long x)) : shape (px_wr h r (.inl (c, fs.set k (.long y)))) := by
  have hkl : k < fs.length := (List.getElem?_eq_some_iff.mp hk).1
  refine shape_fld hs hr hk (fun t ht => ?_)
  have e : (fs.set k (.long y))[k]? = some (.long y) := List.getElem?_set_self hkl
  cases t <;> simp only [fillV, cI, cJ, cV, e] at ht ⊢ <;> first | rfl | (cases ht; done)
set_option maxRecDepth 16384 in
theorem shape_ia {h : px_H} (hs : shape h) {r t n : Nat} {f g : Nat → Int32} (hr : h.2[r]? = some (.inr (t, n, .inl f))) : shape (px_wr h r (.inr (t, n, .inl g))) := by
  refine shape_w hs (fun hr9 => ?_)
  have h1 := hs.2 r hr9
  rw [cell_of hr] at h1
  generalize tmpl r = T at h1
  match T, h1 with
  | .inl _, h1 => cases h1
  | .inr (_, _, .inl _), h1 => cases h1; rfl
  | .inr (_, _, .inr (.inl _)), h1 => cases h1
  | .inr (_, _, .inr (.inr _)), h1 => cases h1
set_option maxRecDepth 16384 in
theorem shape_la {h : px_H} (hs : shape h) {r t n : Nat} {f g : Nat → Int64} (hr : h.2[r]? = some (.inr (t, n, .inr (.inl f)))) : shape (px_wr h r (.inr (t, n, .inr (.inl g)))) := by
  refine shape_w hs (fun hr9 => ?_)
  have h1 := hs.2 r hr9
  rw [cell_of hr] at h1
  generalize tmpl r = T at h1
  match T, h1 with
  | .inl _, h1 => cases h1
  | .inr (_, _, .inl _), h1 => cases h1
  | .inr (_, _, .inr (.inl _)), h1 => cases h1; rfl
  | .inr (_, _, .inr (.inr _)), h1 => cases h1
set_option maxRecDepth 16384 in
theorem shape_ra {h : px_H} (hs : shape h) {r t n : Nat} {f g : Nat → Option Nat} (hr : h.2[r]? = some (.inr (t, n, .inr (.inr f)))) (ht : t ≤ 16) : shape (px_wr h r (.inr (t, n, .inr (.inr g)))) := by
  refine shape_w hs (fun hr9 => ?_)
  have h1 := hs.2 r hr9
  rw [cell_of hr] at h1
  generalize tmpl r = T at h1
  match T, h1 with
  | .inl _, h1 => cases h1
  | .inr (_, _, .inl _), h1 => cases h1
  | .inr (_, _, .inr (.inl _)), h1 => cases h1
  | .inr (t', n', .inr (.inr f')), h1 =>
    have h5 := Sum.inr.inj h1
    have e1 : t' = t := congrArg Prod.fst h5
    have e2 : n' = n := congrArg (fun q => q.2.1) h5
    subst e1; subst e2
    show (Sum.inr (t', n', Sum.inr (Sum.inr (if 16 < t' then f' else g))) : px_C) = _
    rw [if_neg (by omega)]
/-- from h to h' only cells in A were written -/
def frm (A : Nat → Prop) (h h' : px_H) : Prop := h'.1 = h.1 ∧ h'.2.length = h.2.length ∧ ∀ r, ¬ A r → h'.2[r]? = h.2[r]?
set_option maxRecDepth 16384 in
theorem frm_refl (A : Nat → Prop) (h : px_H) : frm A h h := ⟨rfl, rfl, fun _ _ => rfl⟩
set_option maxRecDepth 16384 in
theorem frm_wr {A : Nat → Prop} {h h' : px_H} {r : Nat} {x : px_C} (w : frm A h h') (hr : A r) : frm A h (px_wr h' r x) :=
  ⟨w.1, by rw [px_wr_len]; exact w.2.1, fun k hk => by rw [wr_at, if_neg (fun (e : r = k) => hk (e ▸ hr))]; exact w.2.2 k hk⟩
set_option maxRecDepth 16384 in
theorem frm_trans {A : Nat → Prop} {h h' h'' : px_H} (w : frm A h h') (w' : frm A h' h'') : frm A h h'' := ⟨w'.1.trans w.1, w'.2.1.trans w.2.1, fun k hk => (w'.2.2 k hk).trans (w.2.2 k hk)⟩
set_option maxRecDepth 16384 in
theorem frm_mono {A B : Nat → Prop} {h h' : px_H} (w : frm A h h') (hAB : ∀ r, A r → B r) : frm B h h' := ⟨w.1, w.2.1, fun k hk => w.2.2 k (fun q => hk (hAB k q))⟩
set_option maxRecDepth 16384 in
theorem frm_row {A : Nat → Prop} {h h' : px_H} {r N n : Nat} {f : Nat → Int32} (w : frm A h h') (h1 : A r) (h2 : A (r + 1)) : frm A h (rowH h' r N n f) := frm_wr (frm_wr w h2) h1
set_option maxRecDepth 16384 in
theorem frm_at {A : Nat → Prop} {h h' : px_H} {r : Nat} {x : px_C} (w : frm A h h') (hr : ¬ A r) (e : h.2[r]? = some x) : h'.2[r]? = some x := (w.2.2 r hr).trans e
set_option maxRecDepth 16384 in
theorem frm_rowAt {A : Nat → Prop} {h h' : px_H} {r N n : Nat} {f : Nat → Int32} (w : frm A h h') (hr : ¬ A r) (hr' : ¬ A (r + 1)) (e : rowAt h r N n f) : rowAt h' r N n f := ⟨frm_at w hr e.1, frm_at w hr' e.2.1, e.2.2⟩
set_option maxRecDepth 16384 in
theorem shape_row {h : px_H} (hs : shape h) {r N n n' : Nat} {f f' : Nat → Int32} (w : rowAt h r N n f) : shape (rowH h r N n' f') := by
  unfold rowH
  have h1 := shape_ia (g := f') hs w.2.1
  have e : (px_wr h (r + 1) (.inr (0, N, .inl f'))).2[r]? = some (.inl (1, [.ref (r + 1), .int (nI n)])) := by rw [wr_at, if_neg (by omega)]; exact w.1
  exact shape_int (k := 1) (x := nI n) (y := nI n') h1 e rfl
