/-! AN IMAGE'S BYTES -/
def ipos (m : aM) : Nat → Nat
  | 0 => 3 + 8 * iL m
  | s + 1 => ipos m s + 2 + iNl m s + iVl m s
def hdB (m : aM) (k : Nat) : Int32 := if k = 0 then nI 77 else if k = 1 then nI (iL m) else if k < 2 + 8 * iL m then lb (iD m ((k - 2) / 8)) (nI (8 * ((k - 2) % 8))) &&& 255 else nI (iS m)
def imB (m : aM) : Nat → Nat → Int32
  | 0, k => hdB m k
  | s + 1, k => if k < ipos m s then imB m s k else if k = ipos m s then nI (iNl m s) else if k < ipos m s + 1 + iNl m s then nI (iN m s (k - (ipos m s + 1))) else if k = ipos m s + 1 + iNl m s then nI (iVl m s) else nI (iV m s (k - (ipos m s + 2 + iNl m s)))
set_option maxRecDepth 16384 in
theorem ipos_le {m : aM} {s : Nat} : ∀ d, ipos m s ≤ ipos m (s + d)
  | 0 => Nat.le_refl _
  | d + 1 => by
    have := ipos_le (m := m) (s := s) d
    show ipos m s ≤ ipos m (s + d) + 2 + iNl m (s + d) + iVl m (s + d)
    omega
set_option maxRecDepth 16384 in
theorem ipos_3 {m : aM} (s : Nat) : 3 + 8 * iL m ≤ ipos m s := by
  have := ipos_le (m := m) (s := 0) s
  rw [Nat.zero_add] at this; exact this
set_option maxRecDepth 16384 in
theorem imB_up {m : aM} {s k : Nat} (hk : k < ipos m s) : ∀ d, imB m (s + d) k = imB m s k
  | 0 => rfl
  | d + 1 => by
    have := ipos_le (m := m) (s := s) d
    show (if k < ipos m (s + d) then imB m (s + d) k else _) = imB m s k
    rw [if_pos (by omega)]; exact imB_up hk d
section IMGB
variable {m : aM} {s t : Nat}
set_option maxRecDepth 16384 in
theorem imB_n (h : s < t) : imB m t (ipos m s) = nI (iNl m s) := by
  have e : t = s + 1 + (t - (s + 1)) := by omega
  have l : ipos m s < ipos m (s + 1) := by show ipos m s < ipos m s + 2 + iNl m s + iVl m s; omega
  rw [e, imB_up l]
  show (if ipos m s < ipos m s then imB m s (ipos m s) else if ipos m s = ipos m s then nI (iNl m s) else _) = nI (iNl m s)
  rw [if_neg (Nat.lt_irrefl _), if_pos rfl]
set_option maxRecDepth 16384 in
theorem imB_nm {k : Nat} (h : s < t) (hk : k < iNl m s) : imB m t (ipos m s + 1 + k) = nI (iN m s k) := by
  have e : t = s + 1 + (t - (s + 1)) := by omega
  have l : ipos m s + 1 + k < ipos m (s + 1) := by show ipos m s + 1 + k < ipos m s + 2 + iNl m s + iVl m s; omega
  rw [e, imB_up l]
  show (if ipos m s + 1 + k < ipos m s then imB m s (ipos m s + 1 + k) else if ipos m s + 1 + k = ipos m s then nI (iNl m s) else if ipos m s + 1 + k < ipos m s + 1 + iNl m s then nI (iN m s (ipos m s + 1 + k - (ipos m s + 1))) else _) = nI (iN m s k)
  rw [if_neg (by omega), if_neg (by omega), if_pos (by omega), Nat.add_sub_cancel_left]
set_option maxRecDepth 16384 in
theorem imB_v (h : s < t) : imB m t (ipos m s + 1 + iNl m s) = nI (iVl m s) := by
  have e : t = s + 1 + (t - (s + 1)) := by omega
  have l : ipos m s + 1 + iNl m s < ipos m (s + 1) := by show ipos m s + 1 + iNl m s < ipos m s + 2 + iNl m s + iVl m s; omega
  rw [e, imB_up l]
  show (if ipos m s + 1 + iNl m s < ipos m s then imB m s (ipos m s + 1 + iNl m s) else if ipos m s + 1 + iNl m s = ipos m s then nI (iNl m s) else if ipos m s + 1 + iNl m s < ipos m s + 1 + iNl m s then nI (iN m s (ipos m s + 1 + iNl m s - (ipos m s + 1))) else if ipos m s + 1 + iNl m s = ipos m s + 1 + iNl m s then nI (iVl m s) else _) = nI (iVl m s)
  rw [if_neg (by omega), if_neg (by omega), if_neg (Nat.lt_irrefl _), if_pos rfl]
set_option maxRecDepth 16384 in
theorem imB_vl {k : Nat} (h : s < t) (hk : k < iVl m s) : imB m t (ipos m s + 2 + iNl m s + k) = nI (iV m s k) := by
  have e : t = s + 1 + (t - (s + 1)) := by omega
  have l : ipos m s + 2 + iNl m s + k < ipos m (s + 1) := by show ipos m s + 2 + iNl m s + k < ipos m s + 2 + iNl m s + iVl m s; omega
  rw [e, imB_up l]
  show (if ipos m s + 2 + iNl m s + k < ipos m s then imB m s (ipos m s + 2 + iNl m s + k) else if ipos m s + 2 + iNl m s + k = ipos m s then nI (iNl m s) else if ipos m s + 2 + iNl m s + k < ipos m s + 1 + iNl m s then nI (iN m s (ipos m s + 2 + iNl m s + k - (ipos m s + 1))) else if ipos m s + 2 + iNl m s + k = ipos m s + 1 + iNl m s then nI (iVl m s) else nI (iV m s (ipos m s + 2 + iNl m s + k - (ipos m s + 2 + iNl m s)))) = nI (iV m s k)
  rw [if_neg (by omega), if_neg (by omega), if_neg (by omega), if_neg (by omega), Nat.add_sub_cancel_left]
set_option maxRecDepth 16384 in
theorem imB_h {k : Nat} (hk : k < 3 + 8 * iL m) : imB m t k = hdB m k := by
  have := imB_up (m := m) (s := 0) (k := k) hk t
  rw [Nat.zero_add] at this; exact this
set_option maxRecDepth 16384 in
theorem imB_0 : imB m t 0 = nI 77 := by rw [imB_h (by omega)]; rfl
set_option maxRecDepth 16384 in
theorem imB_1 : imB m t 1 = nI (iL m) := by rw [imB_h (by omega)]; rfl
set_option maxRecDepth 16384 in
theorem imB_l {i k : Nat} (hi : i < iL m) (hk : k < 8) : imB m t (2 + 8 * i + k) = lb (iD m i) (nI (8 * k)) &&& 255 := by
  rw [imB_h (by omega)]
  unfold hdB
  rw [if_neg (by omega), if_neg (by omega), if_pos (by omega), show (2 + 8 * i + k - 2) / 8 = i by omega, show (2 + 8 * i + k - 2) % 8 = k by omega]
set_option maxRecDepth 16384 in
theorem imB_s : imB m t (2 + 8 * iL m) = nI (iS m) := by
  rw [imB_h (by omega)]
  unfold hdB
  rw [if_neg (by omega), if_neg (by omega), if_neg (by omega)]
set_option maxRecDepth 16384 in
theorem imB_255 (ok : imOK m) : ∀ t, t ≤ iS m → ∀ k, k < ipos m t → imB m t k &&& 255 = imB m t k := by
  intro t
  induction t with
  | zero =>
    intro _ k _
    show hdB m k &&& 255 = hdB m k
    unfold hdB
    have := ok.1
    have := ok.2.1
    by_cases e0 : k = 0
    · rw [if_pos e0]; rfl
    · rw [if_neg e0]
      by_cases e1 : k = 1
      · rw [if_pos e1]; exact nI_small (by omega)
      · rw [if_neg e1]
        by_cases e2 : k < 2 + 8 * iL m
        · rw [if_pos e2, Int32.and_assoc, Int32.and_self]
        · rw [if_neg e2]; exact nI_small (by omega)
  | succ t ih =>
    intro ht k hk
    obtain ⟨⟨a1, a2, a3, a4⟩, a5, a6⟩ := ok.2.2.1 t (by omega)
    have hk : k < ipos m t + 2 + iNl m t + iVl m t := hk
    show (if k < ipos m t then imB m t k else if k = ipos m t then nI (iNl m t) else if k < ipos m t + 1 + iNl m t then nI (iN m t (k - (ipos m t + 1))) else if k = ipos m t + 1 + iNl m t then nI (iVl m t) else nI (iV m t (k - (ipos m t + 2 + iNl m t)))) &&& 255 = (if k < ipos m t then imB m t k else if k = ipos m t then nI (iNl m t) else if k < ipos m t + 1 + iNl m t then nI (iN m t (k - (ipos m t + 1))) else if k = ipos m t + 1 + iNl m t then nI (iVl m t) else nI (iV m t (k - (ipos m t + 2 + iNl m t))))
    by_cases e0 : k < ipos m t
    · rw [if_pos e0]; exact ih (by omega) k e0
    · rw [if_neg e0]
      by_cases e1 : k = ipos m t
      · rw [if_pos e1]; exact nI_small (by omega)
      · rw [if_neg e1]
        by_cases e2 : k < ipos m t + 1 + iNl m t
        · rw [if_pos e2]
          have := a5.1 (k - (ipos m t + 1)) (by omega)
          exact nI_small (by omega)
        · rw [if_neg e2]
          by_cases e3 : k = ipos m t + 1 + iNl m t
          · rw [if_pos e3]; exact nI_small (by omega)
          · rw [if_neg e3]; exact nI_small (a6 _ (by omega))
set_option maxRecDepth 16384 in
theorem nmF_im (ok : imOK m) (hs : s < iS m) : nmF (imB m (iS m)) (ipos m s) (iNl m s) = iN m s := by
  obtain ⟨-, a5, -⟩ := ok.2.2.1 s hs
  funext j
  unfold nmF
  by_cases x : j < iNl m s
  · rw [if_pos x, imB_nm hs x]
    have := a5.1 j x
    exact nI_clamp (by omega)
  · rw [if_neg x, a5.2 j (by omega)]
/-! what is written is an image -/
set_option maxRecDepth 16384 in
theorem img_im (ok : imOK m) : imgOK (imB m (iS m)) (ipos m (iS m)) (iL m) (iS m) (ipos m) (iNl m) (iVl m) := by
  refine ⟨ok.1, ok.2.1, ⟨imB_0, fun s j hs hj => ⟨iN m s j, imB_nm hs hj, (ok.2.2.1 s hs).2.1.1 j hj⟩, fun s t hst ht => ?_⟩, imB_1, imB_s, rfl, fun s hs => ⟨(ok.2.2.1 s hs).1, imB_n hs, imB_v hs, rfl⟩, rfl⟩
  rw [nmF_im ok (by omega), nmF_im ok ht]
  exact ok.2.2.2 s t hst ht
set_option maxRecDepth 16384 in
theorem lay_im {i : Nat} (hi : i < iL m) : layB (imB m t) i = iD m i := by
  unfold layB
  rw [lgA_congr (g' := fun k => lb (iD m i) (nI (8 * k)) &&& 255) (fun k hk => imB_l hi hk) 8, lgA_lb]
end IMGB
