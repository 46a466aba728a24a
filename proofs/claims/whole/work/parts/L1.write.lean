/-! AN IMAGE WRITTEN, the class's -/
def bytA (f : Nat → Int32) (n : Nat) (g : Nat → Int32) : Prop := ∀ k, k < n → f k &&& 255 = g k
section WRITE
variable {sx : Nat × (Nat → Int32)} {h : px_H} {r N n a c I : Nat} {f g : Nat → Int32} {P : Nat → Nat} {m : aM} {Q : px_O → px_H → Prop}
set_option maxRecDepth 16384 in
theorem c_wadd {x : Int32} (hl : r + 1 < h.2.length) (ha : a < N) (hN : N ≤ 40000) (b : bytA f a g) (hx : x &&& 255 = g a) (hQ : ∀ f', bytA f' (a + 1) g → Q (.inl none) (rowH h r N (a + 1) f')) :
    px_Wp sx 28 0 [some (.ref r), some (.int x)] [] (rowH h r N a f) Q := by
  rw [r_add (rowAt_rowH hl (by omega) hN) ha]
  have e : px_wr (px_wr (rowH h r N a f) (r + 1) (.inr (0, N, .inl (px_up f a (by8 x))))) r (.inl (1, [.ref (r + 1), .int (nI (a + 1))])) = rowH h r N (a + 1) (px_up f a (by8 x)) := rowH_rowH (h := h) (r := r) (N := N) (N' := N) (n := a) (n' := a + 1) (f := f) (f' := px_up f a (by8 x))
  rw [e]
  refine hQ _ (fun k hk => ?_)
  by_cases z : k = a
  · subst z; rw [up_same, by_255]; exact hx
  · rw [up_ne z]; exact b k (by omega)
set_option maxRecDepth 16384 in
theorem c_wall {r' N' n' s : Nat} {F : Nat → Int32} (hl : r + 1 < h.2.length) (hN : N ≤ 40000) (ha : a + c ≤ N) (b : bytA f a g) (w : rowAt h r' N' n' F) (h1 : r ≠ r') (h2 : r + 1 ≠ r') (h3 : r ≠ r' + 1) (h4 : r + 1 ≠ r' + 1) (hs : s + c ≤ n') (hF : ∀ k, k < c → F (s + k) &&& 255 = g (a + k)) (hQ : ∀ f', bytA f' (a + c) g → Q (.inl none) (rowH h r N (a + c) f')) :
    px_Wp sx 33 0 [some (.ref r), some (.ref r'), some (.int (nI s)), some (.int (nI c))] [] (rowH h r N a f) Q := by
  refine r_addAll (N' := N') (n' := n') (f' := F) (rowAt_rowH hl (by omega) hN) ⟨by rw [rowH_at h1 h2]; exact w.1, by rw [rowH_at h3 h4]; exact w.2.1, w.2.2⟩ h1 h2 h3 hs ha ?_
  rw [rowH_rowH]
  refine hQ _ (fun k hk => ?_)
  unfold va_cpy
  by_cases z : k < a
  · rw [if_neg (by omega)]; exact b k z
  · rw [if_pos ⟨by omega, by omega⟩, hF _ (by omega), show a + (k - a) = k by omega]
set_option maxRecDepth 16384 in
theorem c_wlong {v : Int64} (hl : r + 1 < h.2.length) (hN : N ≤ 40000) (ha : a + 8 ≤ N) (b : bytA f a g) (hg : ∀ k, k < 8 → lb v (nI (8 * k)) &&& 255 = g (a + k)) (hQ : ∀ f', bytA f' (a + 8) g → Q (.inl none) (rowH h r N (a + 8) f')) :
    px_Wp sx 35 0 [some (.ref r), some (.long v), none, none] [] (rowH h r N a f) Q := by
  refine c_addLong (R := a) (a := 0) (f0 := f) (g := fun k => g (a + k)) hl hN (by omega) (wrote_0 _ _ _) (fun k hk => by rw [Nat.zero_add]; exact hg k hk) (fun f' w => hQ f' (fun k hk => ?_))
  by_cases z : k < a
  · rw [w.1 k z]; exact b k z
  · have e : f' (a + (k - a)) &&& 255 = g (a + (k - a)) := w.2 (k - a) (by omega)
    rw [show a + (k - a) = k by omega] at e
    exact e
set_option maxRecDepth 16384 in
theorem c_write {x : Int32} (im : imC h I P m) (ok : imOK m) (w1 : h.2[r]? = some (.inl (1, [.ref (r + 1), .int x]))) (w2 : h.2[r + 1]? = some (.inr (0, N, .inl f))) (hN4 : N ≤ 40000) (hr : r + 1 < I ∨ I + 33 ≤ r) (hN : ipos m (iS m) ≤ N)
    (hQ : ∀ f', bytA f' (ipos m (iS m)) (imB m (iS m)) → Q (.inl none) (rowH h r N (ipos m (iS m)) f')) :
    px_Wp sx 87 0 [some (.ref I), some (.ref r), none, none] [] h Q := by
  have hl : r + 1 < h.2.length := (List.getElem?_eq_some_iff.mp w2).1
  have o12 := ok.1
  have o6 := ok.2.1
  have p3 := ipos_3 (m := m) (iS m)
  obtain ⟨⟨sf, s1, s2⟩, ⟨L, ⟨o1, o2⟩, o3⟩, rows⟩ := im
  have q : ∀ (a : Nat) (f' : Nat → Int32) k, imA I k → (rowH h r N a f').2[k]? = h.2[k]? := fun a f' k hk => by unfold imA at hk; rw [rowH_at (by omega) (by omega)]
  have z0 : ∀ a f', (rowH h r N a f').2[I]? = some (.inl (6, [.ref (I + 1), .int (nI (iL m)), .ref (I + 2), .int (nI (iS m))])) := fun a f' => by rw [q a f' I ⟨by omega, by omega⟩]; exact o1
  have z1 : ∀ a f', (rowH h r N a f').2[I + 1]? = some (.inr (2, 12, .inr (.inl L))) := fun a f' => by rw [q a f' _ ⟨by omega, by omega⟩]; exact o2
  have z2 : ∀ a f', (rowH h r N a f').2[I + 2]? = some (.inr (15, 6, .inr (.inr sf))) := fun a f' => by rw [q a f' _ ⟨by omega, by omega⟩]; exact s1
  have zr : ∀ a f', px_cls (rowH h r N a f') r = some 1 := fun a f' => by unfold px_cls; rw [rowH_r hl]
  -- settings
  have lp2 : ∀ d t, t + d = iS m → ∀ f' l3, bytA f' (ipos m t) (imB m (iS m)) → px_Wp sx 87 55 [some (.ref I), some (.ref r), some (.int (nI t)), l3] [] (rowH h r N (ipos m t) f') Q := by
    intro d
    induction d with
    | zero =>
      intro t ht f' l3 b
      have ht : t = iS m := by omega
      subst ht
      have le : nI (iS m) ≤ nI (iS m) := Int32.le_refl _
      simp only [pc87_55, pc87_56, pc87_56n, pc87_57, pc87_60, pc87_130, px_op_some, px_kv_ap, px_ki_ap, px_kl_ap, px_kn_ap, px_kh_ap, px_op_none, px_K_some, px_K_none, px_K_thr, px_kill, ↓reduceIte, if_true, if_false, true_and, and_true, px_gf, z0, List.getElem?_cons_zero, List.getElem?_cons_succ, le]
      exact hQ f' b
    | succ d ih =>
      intro t ht f' l3 b
      have ge : ¬ nI (iS m) ≤ nI t := nI_ge (by omega) (by omega)
      have it : px_in (nI t) 6 = true := px_inb (by omega) (by decide)
      have ct : (nI t).toNatClampNeg = t := nI_clamp (by omega)
      obtain ⟨y1, y2, y3, -⟩ := s2 t (by omega)
      obtain ⟨F, G, u1, u2, u3, u4⟩ := rows t (by omega)
      obtain ⟨⟨a1, a2, a3, a4⟩, a5, a6⟩ := ok.2.2.1 t (by omega)
      have up : ipos m (t + 1) = ipos m t + 2 + iNl m t + iVl m t := rfl
      have le := ipos_le (m := m) (s := t + 1) d
      rw [show t + 1 + d = iS m by omega, up] at le
      have x0 : ∀ a f', (rowH h r N a f').2[I + 3 + 5 * P t]? = some (.inl (5, [.ref (I + 3 + 5 * P t + 1), .ref (I + 3 + 5 * P t + 3)])) := fun a f' => by rw [q a f' _ ⟨by omega, by omega⟩]; exact y3
      have x1 : ∀ a f', (rowH h r N a f').2[I + 3 + 5 * P t + 1]? = some (.inl (1, [.ref (I + 3 + 5 * P t + 1 + 1), .int (nI (iNl m t))])) := fun a f' => by rw [q a f' _ ⟨by omega, by omega⟩]; exact u1.1
      have x3 : ∀ a f', (rowH h r N a f').2[I + 3 + 5 * P t + 3]? = some (.inl (1, [.ref (I + 3 + 5 * P t + 3 + 1), .int (nI (iVl m t))])) := fun a f' => by rw [q a f' _ ⟨by omega, by omega⟩]; exact u3.1
      rw [pc87_55]
      simp only [pc87_56, pc87_56n, pc87_57, pc87_60, pc87_63, pc87_63n, pc87_64, pc87_67, pc87_68, pc87_69, pc87_69n, pc87_70, pc87_70n, pc87_71, pc87_71n, pc87_72, pc87_75, pc87_78, px_op_some, px_kv_ap, px_ki_ap, px_kl_ap, px_kn_ap, px_kh_ap, px_op_none, px_K_some, px_K_none, px_K_thr, px_kill, ↓reduceIte, if_true, if_false, true_and, and_true, px_gf, px_aa, z0, z2, x0, x1, List.getElem?_cons_zero, List.getElem?_cons_succ, ge, it, ct, y1, px_rf, tg_15, Nat.reduceLeDiff, and_self, px_kill, zr]
      refine c_wadd hl (by omega) hN4 b (by rw [imB_n (by omega)]; exact nI_small (by omega)) (fun f1 b1 => ?_)
      simp only [px_K_none, pc87_81, pc87_81n, pc87_82, pc87_82n, pc87_83, pc87_86, pc87_87, pc87_87n, pc87_88, pc87_91, pc87_94, px_op_some, px_kv_ap, px_ki_ap, px_kl_ap, px_kn_ap, px_kh_ap, px_op_none, px_K_some, px_K_none, px_K_thr, px_kill, ↓reduceIte, if_true, if_false, true_and, and_true, px_gf, x0, x1, List.getElem?_cons_zero, List.getElem?_cons_succ, zr]
      refine c_wall (s := 0) hl hN4 (by omega) b1 u1 (by omega) (by omega) (by omega) (by omega) (by omega) (fun k hk => by rw [Nat.zero_add, imB_nm (by omega) hk]; exact (u2 k hk).1) (fun f2 b2 => ?_)
      simp only [px_K_none, pc87_97, pc87_97n, pc87_98, pc87_98n, pc87_99, pc87_102, pc87_105, px_op_some, px_kv_ap, px_ki_ap, px_kl_ap, px_kn_ap, px_kh_ap, px_op_none, px_K_some, px_K_none, px_K_thr, px_kill, ↓reduceIte, if_true, if_false, true_and, and_true, px_gf, x0, x3, List.getElem?_cons_zero, List.getElem?_cons_succ, zr]
      refine c_wadd hl (by omega) hN4 b2 (by rw [imB_v (by omega)]; exact nI_small (by omega)) (fun f3 b3 => ?_)
      simp only [px_K_none, pc87_108, pc87_108n, pc87_109, pc87_109n, pc87_110, pc87_113, pc87_114, pc87_114n, pc87_115, pc87_118, pc87_121, px_op_some, px_kv_ap, px_ki_ap, px_kl_ap, px_kn_ap, px_kh_ap, px_op_none, px_K_some, px_K_none, px_K_thr, px_kill, ↓reduceIte, if_true, if_false, true_and, and_true, px_gf, x0, x3, List.getElem?_cons_zero, List.getElem?_cons_succ, zr]
      refine c_wall (s := 0) hl hN4 (by omega) b3 u3 (by omega) (by omega) (by omega) (by omega) (by omega) (fun k hk => by rw [Nat.zero_add, show ipos m t + 1 + iNl m t + 1 + k = ipos m t + 2 + iNl m t + k by omega, imB_vl (by omega) hk]; exact (u4 k hk).1) (fun f4 b4 => ?_)
      simp only [px_K_none, pc87_124, pc87_127, px_op_some, px_kv_ap, px_ki_ap, px_kl_ap, px_kn_ap, px_kh_ap, px_op_none, px_K_some, px_K_none, px_K_thr, px_kill, ↓reduceIte, if_true, if_false, true_and, and_true, nI_p1, px_kill]
      have e : ipos m t + 1 + iNl m t + 1 + iVl m t = ipos m (t + 1) := by rw [up]; omega
      rw [e] at b4 ⊢
      exact ih (t + 1) (by omega) f4 _ b4
  -- layers
  have lp1 : ∀ d t, t + d = iL m → ∀ f', bytA f' (2 + 8 * t) (imB m (iS m)) → px_Wp sx 87 21 [some (.ref I), some (.ref r), some (.int (nI t)), none] [] (rowH h r N (2 + 8 * t) f') Q := by
    intro d
    induction d with
    | zero =>
      intro t ht f' b
      have ht : t = iL m := by omega
      subst ht
      have le : nI (iL m) ≤ nI (iL m) := Int32.le_refl _
      simp only [pc87_21, pc87_22, pc87_22n, pc87_23, pc87_26, pc87_29, pc87_29n, pc87_30, pc87_30n, pc87_31, pc87_34, pc87_35, pc87_36, pc87_39, pc87_42, pc87_45, pc87_45n, pc87_46, pc87_46n, pc87_47, pc87_50, px_op_some, px_kv_ap, px_ki_ap, px_kl_ap, px_kn_ap, px_kh_ap, px_op_none, px_K_some, px_K_none, px_K_thr, px_kill, ↓reduceIte, if_true, if_false, true_and, and_true, px_gf, z0, List.getElem?_cons_zero, List.getElem?_cons_succ, le, zr]
      refine c_wadd hl (by omega) hN4 b (by rw [imB_s]; exact nI_small (by omega)) (fun f1 b1 => ?_)
      simp only [px_K_none, pc87_53, pc87_54, px_op_some, px_kv_ap, px_ki_ap, px_kl_ap, px_kn_ap, px_kh_ap, px_op_none, px_K_some, px_K_none, px_K_thr, px_kill, ↓reduceIte, if_true, if_false, true_and, and_true, px_kill]
      have e : 2 + 8 * iL m + 1 = ipos m 0 := by show _ = 3 + 8 * iL m; omega
      rw [e] at b1 ⊢
      exact lp2 (iS m) 0 (by omega) f1 _ b1
    | succ d ih =>
      intro t ht f' b
      have ge : ¬ nI (iL m) ≤ nI t := nI_ge (by omega) (by omega)
      have it : px_in (nI t) 12 = true := px_inb (by omega) (by decide)
      have ct : (nI t).toNatClampNeg = t := nI_clamp (by omega)
      rw [pc87_21]
      simp only [pc87_22, pc87_22n, pc87_23, pc87_26, pc87_29, pc87_29n, pc87_30, pc87_30n, pc87_31, pc87_34, pc87_35, pc87_36, px_op_some, px_kv_ap, px_ki_ap, px_kl_ap, px_kn_ap, px_kh_ap, px_op_none, px_K_some, px_K_none, px_K_thr, px_kill, ↓reduceIte, if_true, if_false, true_and, and_true, px_gf, px_aj, z0, z1, List.getElem?_cons_zero, List.getElem?_cons_succ, ge, it, ct, tg_2, and_self, zr]
      refine c_wlong hl hN4 (by omega) b (fun k hk => by rw [o3 t (by omega), imB_l (by omega) hk]) (fun f1 b1 => ?_)
      simp only [px_K_none, pc87_39, pc87_42, px_op_some, px_kv_ap, px_ki_ap, px_kl_ap, px_kn_ap, px_kh_ap, px_op_none, px_K_some, px_K_none, px_K_thr, px_kill, ↓reduceIte, if_true, if_false, true_and, and_true, nI_p1, px_kill]
      have e : 2 + 8 * t + 8 = 2 + 8 * (t + 1) := by omega
      rw [e] at b1 ⊢
      exact ih (t + 1) (by omega) f1 b1
  have e0 : px_wr h r (.inl (1, [.ref (r + 1), .int 0])) = rowH h r N 0 f := by unfold rowH; rw [wr_id w2]; rfl
  simp only [pc87_0, pc87_0n, pc87_1, pc87_2, pc87_5, pc87_5n, pc87_6, pc87_8, px_op_some, px_kv_ap, px_ki_ap, px_kl_ap, px_kn_ap, px_kh_ap, px_op_none, px_K_some, px_K_none, px_K_thr, px_kill, ↓reduceIte, if_true, if_false, true_and, and_true, px_pf, w1, List.length_cons, List.length_nil, Nat.reduceAdd, Nat.reduceLT, px_fit, and_self, List.set_cons_succ, List.set_cons_zero, e0, zr]
  refine c_wadd (g := imB m (iS m)) hl (by omega) hN4 (fun k hk => absurd hk (Nat.not_lt_zero k)) (by rw [imB_0]; rfl) (fun f1 b1 => ?_)
  simp only [px_K_none, pc87_11, pc87_11n, pc87_12, pc87_12n, pc87_13, pc87_16, px_op_some, px_kv_ap, px_ki_ap, px_kl_ap, px_kn_ap, px_kh_ap, px_op_none, px_K_some, px_K_none, px_K_thr, px_kill, ↓reduceIte, if_true, if_false, true_and, and_true, px_gf, z0, List.getElem?_cons_zero, List.getElem?_cons_succ, zr]
  refine c_wadd hl (by omega) hN4 b1 (by rw [imB_1]; exact nI_small (by omega)) (fun f2 b2 => ?_)
  simp only [px_K_none, pc87_19, pc87_20, px_op_some, px_kv_ap, px_ki_ap, px_kl_ap, px_kn_ap, px_kh_ap, px_op_none, px_K_some, px_K_none, px_K_thr, px_kill, ↓reduceIte, if_true, if_false, true_and, and_true, px_kill]
  exact lp1 (iL m) 0 (by omega) f2 b2
end WRITE
