/-! THE FIRST CALL -/
set_option maxRecDepth 16384 in
theorem fresh_0 : fresh (510129, hpC) := by
  rw [hpC_T]
  exact ⟨⟨rfl, rfl, rfl, rfl, rfl⟩, ⟨rfl, rfl, rfl, rfl, rfl⟩, ⟨rfl, rfl, rfl, rfl⟩, rfl, rfl, rfl, rfl, rfl, rfl, rfl, rfl⟩
set_option maxRecDepth 16384 in
theorem relX_0_0 : relX (510129, hpC) 0 25 := by
  rw [hpC_T]
  exact ⟨rfl, .inl ⟨rfl, rfl, rfl, rfl, rfl⟩⟩
set_option maxRecDepth 16384 in
theorem relX_0_1 : relX (510129, hpC) 1 30 := by
  rw [hpC_T]
  exact ⟨rfl, .inl ⟨rfl, rfl, rfl, rfl, rfl⟩⟩
set_option maxRecDepth 16384 in
theorem relX_0_2 : relX (510129, hpC) 2 35 := by
  rw [hpC_T]
  exact ⟨rfl, .inl ⟨rfl, rfl, rfl, rfl, rfl⟩⟩
set_option maxRecDepth 16384 in
theorem relX_0_3 : relX (510129, hpC) 3 40 := by
  rw [hpC_T]
  exact ⟨rfl, .inl ⟨rfl, rfl, rfl, rfl, rfl⟩⟩
set_option maxRecDepth 16384 in
theorem relJ_0_0 : relJ (510129, hpC) 0 2 := by
  rw [hpC_T]
  exact ⟨0, by decide, rfl, rfl, fun j hj => absurd hj (by omega)⟩
set_option maxRecDepth 16384 in
theorem relB_0_0 : relB (510129, hpC) 0 2 := by
  rw [hpC_T]
  exact ⟨0, by decide, rfl, rfl, fun j hj => absurd hj (by omega), fun i j hj => absurd hj (by omega)⟩
set_option maxRecDepth 16384 in
theorem relC_0_0 : relC (510129, hpC) 0 2 := by
  rw [hpC_T]
  refine ⟨0, by decide, rfl, fun B hB hB6 j hj => ?_⟩
  have e : (0 : Int32) = nI B := hB
  have e2 : (nI B).toNatClampNeg = B := nI_clamp (by omega)
  rw [← e] at e2
  have e3 : (0 : Int32).toNatClampNeg = 0 := by decide
  omega
set_option maxRecDepth 16384 in
theorem relJ_0_1 : relJ (510129, hpC) 1 13 := by
  rw [hpC_T]
  exact ⟨0, by decide, rfl, rfl, fun j hj => absurd hj (by omega)⟩
set_option maxRecDepth 16384 in
theorem relB_0_1 : relB (510129, hpC) 1 13 := by
  rw [hpC_T]
  exact ⟨0, by decide, rfl, rfl, fun j hj => absurd hj (by omega), fun i j hj => absurd hj (by omega)⟩
set_option maxRecDepth 16384 in
theorem relC_0_1 : relC (510129, hpC) 1 13 := by
  rw [hpC_T]
  refine ⟨0, by decide, rfl, fun B hB hB6 j hj => ?_⟩
  have e : (0 : Int32) = nI B := hB
  have e2 : (nI B).toNatClampNeg = B := nI_clamp (by omega)
  rw [← e] at e2
  have e3 : (0 : Int32).toNatClampNeg = 0 := by decide
  omega
set_option maxRecDepth 16384 in
theorem told_0 : (∀ j, j < 8 → lA (510129, hpC) 11 j = lA (510129, hpC) 627 j ∧ iA (510129, hpC) 12 j = iA (510129, hpC) 628 j) ∧ (∀ j, j < 8 → lA (510129, hpC) 22 j = lA (510129, hpC) 627 (8 + j) ∧ iA (510129, hpC) 23 j = iA (510129, hpC) 628 (8 + j)) := by
  rw [hpC_T]
  exact ⟨fun j _ => ⟨rfl, rfl⟩, fun j _ => ⟨rfl, rfl⟩⟩
set_option maxRecDepth 16384 in
theorem tell_0 (j : Nat) : iA (510129, hpC) 628 j = 0 := by
  rw [hpC_T]; rfl
set_option maxRecDepth 16384 in
theorem open_0 (j : Nat) : iA (510129, hpC) 655 j = 0 := by
  rw [hpC_T]; rfl
set_option maxRecDepth 16384 in
theorem num_0 : (fI (510129, hpC) 45 1 = fI (510129, hpC) 619 2 ∧ fI (510129, hpC) 45 1 = nI 0 ∧ fI (510129, hpC) 619 2 = nI 0) ∧ (fI (510129, hpC) 47 1 = fI (510129, hpC) 619 44 ∧ fI (510129, hpC) 47 2 = fI (510129, hpC) 619 45 ∧ fI (510129, hpC) 47 3 = fI (510129, hpC) 619 46) ∧
    (fI (510129, hpC) 2 6 = iA (510129, hpC) 621 0 ∧ fI (510129, hpC) 2 9 = iA (510129, hpC) 629 0 ∧ fI (510129, hpC) 3 1 = iA (510129, hpC) 633 0 ∧ fI (510129, hpC) 2 1 = iA (510129, hpC) 634 0) ∧
    (fI (510129, hpC) 13 6 = iA (510129, hpC) 621 1 ∧ fI (510129, hpC) 13 9 = iA (510129, hpC) 629 1 ∧ fI (510129, hpC) 14 1 = iA (510129, hpC) 633 1 ∧ fI (510129, hpC) 13 1 = iA (510129, hpC) 634 1) := by
  rw [hpC_T]
  exact ⟨⟨rfl, rfl, rfl⟩, ⟨rfl, rfl, rfl⟩, ⟨rfl, rfl, rfl, rfl⟩, ⟨rfl, rfl, rfl, rfl⟩⟩
set_option maxRecDepth 16384 in
theorem one_step {sx : Nat × (Nat → Int32)} {Q : px_O → px_H → Prop} (hL : sx.1 ≤ 6) (hQ : ∀ h, Q (.inl (some (.int 1))) h) (a b c : Option Value) (h : px_H) : px_Wp sx 277 1582 (lawL (nI 0) a b c) [] h Q := by
  rw [law_next, law_head (by omega) (by decide), if_pos (by omega)]
  exact hQ h
set_option maxRecDepth 16384 in
theorem one_call {sx : Nat × (Nat → Int32)} {Q : px_O → px_H → Prop} (hL : sx.1 ≤ 6) (hQ : ∀ h, Q (.inl (some (.int 1))) h) : px_Wp sx 277 0 (px_entry 8 [.retAddr 0]) [] (0, []) Q := by
  refine law_start ?_
  have e : [some (.retAddr 0), some (.ref 0), some (.ref 619), some (.ref 668), some (.int 0), none, none, none] = lawL (nI 0) none none none := rfl
  rw [e, law_head (by omega) (by decide)]
  by_cases h6 : sx.1 < 0 + 6
  · rw [if_pos h6]; exact hQ _
  rw [if_neg h6]
  have hi : 0 + 6 ≤ sx.1 := by omega
  have hL' : sx.1 ≤ 3072 := by omega
  have hS := shape_0
  have hc : ((510129, hpC) : px_H).2.length + 1 ≤ px_CT := by
    show hpC.length + 1 ≤ px_CT
    rw [hpC_len]; decide
  have hs : ((510129, hpC) : px_H).1 + 6 ≤ px_ST := by decide
  have N := fun a b c h => one_step (Q := Q) hL hQ a b c h
  obtain ⟨⟨n1, n2, n3⟩, ⟨b1, b2, b3⟩, ⟨c1, c2, c3, c4⟩, ⟨d1, d2, d3, d4⟩⟩ := num_0
  have t0 : ∀ j, j < 8 → iA (510129, hpC) 12 j = iA (510129, hpC) 628 j := fun j hj => (told_0.1 j hj).2
  have t1 : ∀ j, j < 8 → iA (510129, hpC) 23 j = iA (510129, hpC) 628 (8 + j) := fun j hj => (told_0.2 j hj).2
  refine law_case hL' hi (fun pc hpc => ?_)
  simp only [List.mem_cons, List.not_mem_nil, or_false] at hpc
  rcases hpc with rfl | rfl | rfl | rfl | rfl | rfl | rfl | rfl | rfl | rfl | rfl | rfl | rfl | rfl | rfl | rfl | rfl | rfl | rfl | rfl | rfl | rfl
  · exact st_put (n := 0) hL' hi rfl hS hc hs (by decide) n2 n3 (fun _ _ _ _ _ => N _ _ _ _) (fun _ _ _ _ _ => N _ _ _ _)
  · exact st_end hL' hi rfl hS hc hs n1 (fun _ _ _ _ => N _ _ _ _) (fun _ _ _ _ _ => N _ _ _ _)
  · exact st_build_1 hL' hi rfl rfl hS hc hs fresh_0 N
  · exact st_built hL' hi rfl hS hc hs b1 b2 b3 (fun _ _ _ => N _ _ _ _) (fun _ _ _ _ => N _ _ _ _)
  · exact st_tag hL' hi rfl rfl hS hc hs told_0.1 told_0.2 (fun _ _ _ => N _ _ _ _) (fun _ _ _ _ => N _ _ _ _)
  · exact st_retag_0 hL' hi rfl rfl rfl hS hc hs t0 t1 (fun q j k _ _ _ _ _ _ t => absurd (tell_0 _) t) (fun _ _ _ _ _ => N _ _ _ _)
  · exact st_untag_0 hL' hi rfl rfl hS hc hs t0 t1 (fun q j k _ _ _ _ _ t => absurd (tell_0 _) t) (fun _ _ _ _ _ => N _ _ _ _)
  · exact st_image_0 hL' hi rfl rfl hS hc hs t0 t1 (fun q j k _ _ _ _ _ t => absurd (tell_0 _) t) (fun _ _ _ _ _ => N _ _ _ _)
  · exact st_layer_0 hL' hi rfl rfl hS hc hs t0 t1 (fun q j k _ _ _ _ _ t => absurd (tell_0 _) t) (fun _ _ _ _ _ => N _ _ _ _)
  · exact st_entry_0 hL' hi rfl rfl hS hc hs t0 t1 (fun q j k _ _ _ _ _ t => absurd (tell_0 _) t) (fun _ _ _ _ _ => N _ _ _ _)
  · exact st_blob hL' hi rfl hS hc hs relB_0_0 relB_0_1 (fun _ _ _ => N _ _ _ _) (fun _ _ _ _ => N _ _ _ _)
  · exact st_byteOf hL' hi rfl rfl hS hc hs relB_0_0 relB_0_1 relC_0_0 relC_0_1 (fun _ _ _ _ _ => N _ _ _ _) (fun _ _ _ _ => N _ _ _ _)
  · exact st_yard hL' hi rfl rfl hS hc hs c1 c2 c3 c4 d1 d2 d3 d4 (fun _ _ _ => N _ _ _ _) (fun _ _ _ _ => N _ _ _ _)
  · exact st_journal hL' hi rfl rfl hS hc hs relJ_0_0 relJ_0_1 (fun _ _ _ _ _ => N _ _ _ _) (fun _ _ _ _ => N _ _ _ _)
  · exact st_sync hL' hi rfl hS hc hs (fun _ _ _ => N _ _ _ _) (fun _ _ _ _ _ => N _ _ _ _)
  · exact st_crash_1 hL' hi rfl rfl rfl hS hc hs fresh_0 N
  · exact st_collect_1 hL' hi rfl hS hc hs fresh_0 N
  · exact st_send_0 hL' hi rfl rfl rfl hS hc hs t0 t1 (fun q j k _ _ _ _ _ _ t => absurd (tell_0 _) t) (fun _ _ _ _ _ => N _ _ _ _)
  · exact st_deliver_0 hL' hi rfl hS hc hs relX_0_0 relX_0_1 relX_0_2 relX_0_3 (fun t _ _ q => absurd ((open_0 t).symm.trans q) (by decide)) (fun _ _ _ _ _ => N _ _ _ _)
  · exact st_lose hL' hi rfl rfl hS hc hs relX_0_0 relX_0_1 relX_0_2 relX_0_3 (fun _ _ _ _ _ => N _ _ _ _) (fun _ _ _ _ _ _ _ _ _ _ => N _ _ _ _)
  · exact st_transfer hL' hi rfl rfl hS hc hs relX_0_0 relX_0_1 relX_0_2 relX_0_3 (fun _ _ _ => N _ _ _ _) (fun _ _ _ _ => N _ _ _ _)
  · exact N _ _ _ _
