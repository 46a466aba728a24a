/-! THE LAW: every call keeps the invariant -/
set_option maxRecDepth 16384 in
theorem tre_s {T : Nat} {h : px_H} (e : rA h (T + 1) = refsC (T + 2) 2 80) : tre h T := by
  refine ⟨fun i => i, fun i hi => ⟨?_, hi⟩, fun i j _ _ e => e⟩
  rw [e]
  show (if i < 80 then some (T + 2 + 2 * i) else none) = _
  rw [if_pos hi]
set_option maxRecDepth 16384 in
theorem imS_s {I : Nat} (hI : I = 48 ∨ I = 421) : imS (510129, hpT) I (fun s => s) := by
  rcases hI with rfl | rfl
  · refine ⟨refsC 51 5 6, rfl, fun s hs => ?_⟩
    match s, hs with
    | 0, _ => exact ⟨rfl, by decide, rfl, ⟨0, _, rfl, rfl, by decide, by decide⟩, 0, _, rfl, rfl, by decide, by decide⟩
    | 1, _ => exact ⟨rfl, by decide, rfl, ⟨0, _, rfl, rfl, by decide, by decide⟩, 0, _, rfl, rfl, by decide, by decide⟩
    | 2, _ => exact ⟨rfl, by decide, rfl, ⟨0, _, rfl, rfl, by decide, by decide⟩, 0, _, rfl, rfl, by decide, by decide⟩
    | 3, _ => exact ⟨rfl, by decide, rfl, ⟨0, _, rfl, rfl, by decide, by decide⟩, 0, _, rfl, rfl, by decide, by decide⟩
    | 4, _ => exact ⟨rfl, by decide, rfl, ⟨0, _, rfl, rfl, by decide, by decide⟩, 0, _, rfl, rfl, by decide, by decide⟩
    | 5, _ => exact ⟨rfl, by decide, rfl, ⟨0, _, rfl, rfl, by decide, by decide⟩, 0, _, rfl, rfl, by decide, by decide⟩
  · refine ⟨refsC 424 5 6, rfl, fun s hs => ?_⟩
    match s, hs with
    | 0, _ => exact ⟨rfl, by decide, rfl, ⟨0, _, rfl, rfl, by decide, by decide⟩, 0, _, rfl, rfl, by decide, by decide⟩
    | 1, _ => exact ⟨rfl, by decide, rfl, ⟨0, _, rfl, rfl, by decide, by decide⟩, 0, _, rfl, rfl, by decide, by decide⟩
    | 2, _ => exact ⟨rfl, by decide, rfl, ⟨0, _, rfl, rfl, by decide, by decide⟩, 0, _, rfl, rfl, by decide, by decide⟩
    | 3, _ => exact ⟨rfl, by decide, rfl, ⟨0, _, rfl, rfl, by decide, by decide⟩, 0, _, rfl, rfl, by decide, by decide⟩
    | 4, _ => exact ⟨rfl, by decide, rfl, ⟨0, _, rfl, rfl, by decide, by decide⟩, 0, _, rfl, rfl, by decide, by decide⟩
    | 5, _ => exact ⟨rfl, by decide, rfl, ⟨0, _, rfl, rfl, by decide, by decide⟩, 0, _, rfl, rfl, by decide, by decide⟩
set_option maxRecDepth 16384 in
theorem no_0 {P : Nat → Prop} : ∀ k, k < 0 → P k := fun k hk => absurd hk (Nat.not_lt_zero k)
set_option maxRecDepth 16384 in
theorem yOK_s : yOK y0 := ⟨fun _ => y0, 0, 0, ⟨rfl, no_0⟩, Nat.le_refl _, rfl⟩
set_option maxRecDepth 16384 in
theorem CY_s {Y : Nat} (hY : Y = 2 ∨ Y = 13) : CY (510129, hpT) Y y0 := by
  rcases hY with rfl | rfl
  · exact ⟨⟨_, ⟨rfl, rfl, by decide, by decide⟩, no_0⟩, rfl, ⟨_, rfl, no_0⟩, ⟨_, rfl, no_0⟩, ⟨_, rfl, no_0⟩, ⟨_, rfl⟩, ⟨_, rfl, no_0⟩, ⟨_, rfl, no_0⟩, ⟨_, rfl, fun j _ e => Bool.noConfusion (show false = true from e)⟩, _, rfl, fun j _ => rfl⟩
  · exact ⟨⟨_, ⟨rfl, rfl, by decide, by decide⟩, no_0⟩, rfl, ⟨_, rfl, no_0⟩, ⟨_, rfl, no_0⟩, ⟨_, rfl, no_0⟩, ⟨_, rfl⟩, ⟨_, rfl, no_0⟩, ⟨_, rfl, no_0⟩, ⟨_, rfl, fun j _ e => Bool.noConfusion (show false = true from e)⟩, _, rfl, fun j _ => rfl⟩
set_option maxRecDepth 16384 in
theorem RY_s {q : Nat} : RY (510129, hpT) q y0 :=
  ⟨⟨_, rfl, no_0⟩, ⟨_, rfl, rfl⟩, ⟨_, rfl, rfl⟩, ⟨_, rfl, rfl⟩, ⟨_, rfl, no_0⟩, ⟨_, _, _, _, 0, rfl, rfl, rfl, rfl, rfl, ⟨Nat.le_refl _, rfl⟩, no_0⟩, ⟨_, rfl, rfl⟩, ⟨_, rfl, no_0⟩, ⟨_, rfl, no_0⟩, ⟨_, rfl, fun j _ e => Bool.noConfusion (show false = true from e)⟩, _, rfl, fun j _ => rfl⟩
set_option maxRecDepth 16384 in
theorem invX_s {t : Nat} (ht : t < 4) : invX (510129, hpT) t := by
  match t, ht with
  | 0, _ => exact ⟨0, 0, 0, 0, 0, 0, 0, 0, 0, 0, _, 0, _, rfl, ⟨rfl, rfl, by decide, by decide⟩, ⟨rfl, rfl, by decide, by decide⟩, rfl, .inl ⟨rfl, rfl, rfl, rfl, rfl⟩⟩
  | 1, _ => exact ⟨0, 0, 0, 0, 0, 0, 0, 0, 0, 0, _, 0, _, rfl, ⟨rfl, rfl, by decide, by decide⟩, ⟨rfl, rfl, by decide, by decide⟩, rfl, .inl ⟨rfl, rfl, rfl, rfl, rfl⟩⟩
  | 2, _ => exact ⟨0, 0, 0, 0, 0, 0, 0, 0, 0, 0, _, 0, _, rfl, ⟨rfl, rfl, by decide, by decide⟩, ⟨rfl, rfl, by decide, by decide⟩, rfl, .inl ⟨rfl, rfl, rfl, rfl, rfl⟩⟩
  | 3, _ => exact ⟨0, 0, 0, 0, 0, 0, 0, 0, 0, 0, _, 0, _, rfl, ⟨rfl, rfl, by decide, by decide⟩, ⟨rfl, rfl, by decide, by decide⟩, rfl, .inl ⟨rfl, rfl, rfl, rfl, rfl⟩⟩
set_option maxRecDepth 16384 in
theorem Inv_s : Inv (510129, hpC) := by
  have s := shape_0
  rw [hpC_T] at s ⊢
  refine ⟨s, ⟨0, by decide, rfl, rfl, no_0⟩, ⟨rfl, rfl, rfl⟩, imS_s (.inr rfl), ⟨⟨fun s => s, fun a b _ _ e => e, imS_s (.inl rfl)⟩, tre_s rfl, tre_s rfl, tre_s rfl⟩, fun q hq => ?_, fun t ht => invX_s ht⟩
  match q, hq with
  | 0, _ => exact ⟨y0, yOK_s, CY_s (.inl rfl), RY_s⟩
  | 1, _ => exact ⟨y0, yOK_s, CY_s (.inr rfl), RY_s⟩
/-- what is left: a build keeps the invariant -/
def BuildKeeps : Prop := ∀ (sx : Nat × (Nat → Int32)) (i : Nat) (a b c : Option Value) (h : px_H) (Q : px_O → px_H → Prop), sx.1 ≤ 3072 → i + 6 ≤ sx.1 → Inv h → h.2.length + 1 ≤ px_CT → h.1 + 6 ≤ px_ST → beh sx i h Q → px_Wp sx 277 232 (lawL (nI i) a b c) [] h Q
set_option maxRecDepth 16384 in
theorem law_loop (B : BuildKeeps) {sx : Nat × (Nat → Int32)} {Q : px_O → px_H → Prop} (hL : sx.1 ≤ 3072) (hQ : ∀ h, Q (.inl (some (.int 1))) h) : ∀ d i h a b c, sx.1 < i + 6 + d → i ≤ 3078 → Inv h → h.2.length ≤ 669 + i → h.1 ≤ 510129 + i → px_Wp sx 277 23 (lawL (nI i) a b c) [] h Q := by
  intro d
  induction d with
  | zero =>
    intro i h a b c hd hi I l1 l2
    rw [law_head hL hi, if_pos (by omega)]
    exact hQ h
  | succ d ih =>
    intro i h a b c hd hi I l1 l2
    rw [law_head hL hi]
    by_cases x : sx.1 < i + 6
    · rw [if_pos x]; exact hQ h
    · rw [if_neg x]
      have hi6 : i + 6 ≤ sx.1 := by omega
      have hc : h.2.length + 1 ≤ px_CT := by unfold px_CT; omega
      have hs : h.1 + 6 ≤ px_ST := by unfold px_ST; omega
      have N : beh sx i h Q := fun h' a b c I' m1 m2 => law_next.mpr (ih (i + 6) h' a b c (by omega) (by omega) I' (by omega) (by omega))
      refine law_case hL hi6 (fun pc hpc => ?_)
      simp only [List.mem_cons, List.not_mem_nil, or_false] at hpc
      rcases hpc with rfl | rfl | rfl | rfl | rfl | rfl | rfl | rfl | rfl | rfl | rfl | rfl | rfl | rfl | rfl | rfl | rfl | rfl | rfl | rfl | rfl | rfl
      · exact inv_put hL hi6 rfl I hc hs N
      · exact inv_end hL hi6 rfl I hc hs N
      · exact B sx i a b c h Q hL hi6 I hc hs N
      · exact inv_built hL hi6 rfl I hc hs N
      · exact inv_tag hL hi6 rfl rfl I hc hs N
      · exact inv_retag hL hi6 rfl rfl rfl I hc hs N
      · exact inv_untag hL hi6 rfl rfl I hc hs N
      · exact inv_image_all hL hi6 rfl rfl I hc hs N
      · exact inv_layer hL hi6 rfl rfl I hc hs N
      · exact inv_entry hL hi6 rfl rfl I hc hs N
      · exact inv_blob hL hi6 rfl I hc hs N
      · exact inv_byteOf hL hi6 rfl rfl I hc hs N
      · exact inv_yard hL hi6 rfl rfl I hc hs N
      · exact inv_journal hL hi6 rfl rfl I hc hs N
      · exact inv_sync hL hi6 rfl I hc hs N
      · exact inv_crash hL hi6 rfl rfl rfl I hc hs N
      · exact inv_collect hL hi6 rfl I hc hs N
      · exact inv_send hL hi6 rfl rfl rfl I hc hs N
      · exact inv_deliver hL hi6 rfl I hc hs N
      · exact inv_lose hL hi6 rfl rfl I hc hs N
      · exact inv_transfer hL hi6 rfl rfl I hc hs N
      · exact N h a b c I (by omega) (by omega)
set_option maxRecDepth 16384 in
theorem whole_of (B : BuildKeeps) : px_Whole := by
  intro L xs hL
  have w : px_Wp (L, xs) 277 0 (px_entry 8 [.retAddr 0]) [] (0, []) (fun o _ => o = .inl (some (.int 1))) := law_start (law_loop B (sx := (L, xs)) hL (fun _ => rfl) 3072 0 (510129, hpC) none none none (by show L < _; omega) (by decide) Inv_s (by rw [hpC_len]; decide) (Nat.le_refl _))
  obtain ⟨o, h', e, rfl⟩ := w
  exact ⟨h', e⟩
