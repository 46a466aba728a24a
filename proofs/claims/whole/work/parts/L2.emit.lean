/-! AN IMAGE WRITTEN, the reference's -/
def bytR (row : Nat → Int32) (n : Nat) (g : Nat → Int32) : Prop := ∀ k, k < n → row k = g k
section MEMIT
variable {sx : Nat × (Nat → Int32)} {h : px_H} {a : Nat} {V row g : Nat → Int32} {m : aM} {Q : px_O → px_H → Prop}
set_option maxRecDepth 16384 in
theorem e_add {x : Int32} (hl : 636 < h.2.length) (ha : a < 40100) (b : bytR row a g) (hx : x &&& 255 = g a) (hQ : ∀ row', bytR row' (a + 1) g → Q (.inl none) (outH h (px_up V 17 (nI (a + 1))) row')) :
    px_Wp sx 168 0 [some (.ref 619), some (.int x)] [] (outH h (px_up V 17 (nI a)) row) Q := by
  refine m_emit hl (up_same _ _ _) ha ?_
  rw [up_up]
  refine hQ _ (fun k hk => ?_)
  by_cases z : k = a
  · subst z; rw [up_same]; exact hx
  · rw [up_ne z]; exact b k (by omega)
set_option maxRecDepth 16384 in
theorem e_long {v : Int64} (hl : 636 < h.2.length) (ha : a + 8 ≤ 40100) (b : bytR row a g) (hg : ∀ k, k < 8 → lb v (nI (8 * k)) &&& 255 = g (a + k)) (hQ : ∀ row', bytR row' (a + 8) g → Q (.inl none) (outH h (px_up V 17 (nI (a + 8))) row')) :
    px_Wp sx 169 0 [some (.ref 619), some (.long v), none, none] [] (outH h (px_up V 17 (nI a)) row) Q := by
  refine m_emitLong hl (up_same _ _ _) ha (fun row' w => ?_)
  rw [up_up]
  refine hQ _ (fun k hk => ?_)
  by_cases z : k < a
  · rw [w.1 k (.inl z)]; exact b k z
  · have e : row' (a + (k - a)) = lb v (nI (8 * (k - a))) &&& 255 := w.2 (k - a) (by omega)
    rw [hg (k - a) (by omega), show a + (k - a) = k by omega] at e
    exact e
set_option maxRecDepth 16384 in
theorem m_emitImage (hl : 668 < h.2.length) (h6 : h.2[619]? = some (.inl (11, modF V))) (hr : h.2[636]? = some (.inr (1, 40100, .inl row))) (im : imR h V m) (ok : imOK m)
    (hQ : ∀ row', bytR row' (ipos m (iS m)) (imB m (iS m)) → Q (.inl none) (outH h (px_up V 17 (nI (ipos m (iS m)))) row')) :
    px_Wp sx 167 0 [some (.ref 619), none, none] [] h Q := by
  have hl6 : 636 < h.2.length := by omega
  have o12 := ok.1
  have o6 := ok.2.1
  have p3 := ipos_3 (m := m) (iS m)
  have p231 : ipos m (iS m) ≤ 231 := img_len (img_im ok)
  obtain ⟨v1, v2, L, NM, NS, VL, VS, d9, d0, d1, d2, d3, oL, rows⟩ := im
  have q : ∀ (v ro : Nat → Int32) k, k ≠ 619 → k ≠ 636 → (outH h v ro).2[k]? = h.2[k]? := fun v ro k k1 k2 => outH_at (fun z => k2 z.symm) (fun z => k1 z.symm)
  have z6 : ∀ v ro : Nat → Int32, (outH h v ro).2[619]? = some (.inl (11, modF v)) := fun v ro => outH_o hl6
  have zc : ∀ v ro : Nat → Int32, px_cls (outH h v ro) 619 = some 11 := fun v ro => by unfold px_cls; rw [z6]
  have z9 : ∀ v ro : Nat → Int32, (outH h v ro).2[649]? = some (.inr (2, 13, .inr (.inl L))) := fun v ro => by rw [q v ro _ (by decide) (by decide)]; exact d9
  have z0 : ∀ v ro : Nat → Int32, (outH h v ro).2[650]? = some (.inr (1, 56, .inl NM)) := fun v ro => by rw [q v ro _ (by decide) (by decide)]; exact d0
  have z1 : ∀ v ro : Nat → Int32, (outH h v ro).2[651]? = some (.inr (1, 7, .inl NS)) := fun v ro => by rw [q v ro _ (by decide) (by decide)]; exact d1
  have z2 : ∀ v ro : Nat → Int32, (outH h v ro).2[652]? = some (.inr (1, 84, .inl VL)) := fun v ro => by rw [q v ro _ (by decide) (by decide)]; exact d2
  have z3 : ∀ v ro : Nat → Int32, (outH h v ro).2[653]? = some (.inr (1, 7, .inl VS)) := fun v ro => by rw [q v ro _ (by decide) (by decide)]; exact d3
  have u36 : ∀ x, px_up V 17 x 36 = nI (iL m) := fun x => by rw [up_ne (by decide)]; exact v1
  have u38 : ∀ x, px_up V 17 x 38 = nI (iS m) := fun x => by rw [up_ne (by decide)]; exact v2
  -- settings
  have lp2 : ∀ d t, t + d = iS m → ∀ ro l2, bytR ro (ipos m t) (imB m (iS m)) → px_Wp sx 167 55 [some (.ref 619), some (.int (nI t)), l2] [] (outH h (px_up V 17 (nI (ipos m t))) ro) Q := by
    intro d
    induction d with
    | zero =>
      intro t ht ro l2 b
      have ht : t = iS m := by omega
      subst ht
      have le : nI (iS m) ≤ nI (iS m) := Int32.le_refl _
      simp only [pc167_55, pc167_56, pc167_56n, pc167_57, pc167_60, pc167_155, px_op_some, px_kv_ap, px_ki_ap, px_kl_ap, px_kn_ap, px_kh_ap, px_op_none, px_K_some, px_K_none, px_K_thr, px_kill, ↓reduceIte, if_true, if_false, true_and, and_true, px_gf, z6, mf_38, u38, le]
      exact hQ ro b
    | succ d ih =>
      intro t ht ro l2 b
      have ge : ¬ nI (iS m) ≤ nI t := nI_ge (by omega) (by omega)
      have it : px_in (nI t) 7 = true := px_inb (by omega) (by decide)
      have ct : (nI t).toNatClampNeg = t := nI_clamp (by omega)
      obtain ⟨r1, r2, r3, r4⟩ := rows t (by omega)
      obtain ⟨⟨a1, a2, a3, a4⟩, a5, a6⟩ := ok.2.2.1 t (by omega)
      have up : ipos m (t + 1) = ipos m t + 2 + iNl m t + iVl m t := rfl
      have le := ipos_le (m := m) (s := t + 1) d
      rw [show t + 1 + d = iS m by omega, up] at le
      -- the value's signs
      have lv : ∀ d k, k + d = iVl m t → ∀ ro, bytR ro (ipos m t + 2 + iNl m t + k) (imB m (iS m)) → px_Wp sx 167 118 [some (.ref 619), some (.int (nI t)), some (.int (nI k))] [] (outH h (px_up V 17 (nI (ipos m t + 2 + iNl m t + k))) ro) Q := by
        intro d
        induction d with
        | zero =>
          intro k hk ro b
          have hk : k = iVl m t := by omega
          subst hk
          have le : nI (iVl m t) ≤ nI (iVl m t) := Int32.le_refl _
          simp only [pc167_118, pc167_119, pc167_119n, pc167_120, pc167_123, pc167_124, pc167_125, pc167_149, pc167_152, px_op_some, px_kv_ap, px_ki_ap, px_kl_ap, px_kn_ap, px_kh_ap, px_op_none, px_K_some, px_K_none, px_K_thr, px_kill, ↓reduceIte, if_true, if_false, true_and, and_true, px_gf, px_ai, z6, mf_42, z3, it, ct, r2, le, tg_i1, and_self, nI_p1, px_kill]
          exact ih (t + 1) (by omega) ro _ b
        | succ d ih2 =>
          intro k hk ro b
          have ge : ¬ nI (iVl m t) ≤ nI k := nI_ge (by omega) (by omega)
          have i1 : px_in (nI (12 * t + k)) 84 = true := px_inb (by omega) (by decide)
          have j1 : (nI (12 * t + k)).toNatClampNeg = 12 * t + k := nI_clamp (by omega)
          have rk := r4 k (by omega)
          rw [pc167_118]
          simp only [pc167_119, pc167_119n, pc167_120, pc167_123, pc167_124, pc167_125, pc167_128, pc167_128n, pc167_129, pc167_129n, pc167_130, pc167_133, pc167_135, pc167_136, pc167_137, pc167_138, pc167_139, pc167_140, px_op_some, px_kv_ap, px_ki_ap, px_kl_ap, px_kn_ap, px_kh_ap, px_op_none, px_K_some, px_K_none, px_K_thr, px_kill, ↓reduceIte, if_true, if_false, true_and, and_true, px_gf, px_ai, z6, mf_42, mf_41, z3, z2, it, ct, r2, ge, mul_12n, nI_add, i1, j1, rk, tg_i1, and_self, zc]
          refine e_add hl6 (by omega) b (by rw [imB_vl (by omega) (by omega)]; exact nI_small (a6 k (by omega))) (fun ro' b' => ?_)
          simp only [px_K_none, pc167_143, pc167_146, px_op_some, px_kv_ap, px_ki_ap, px_kl_ap, px_kn_ap, px_kh_ap, px_op_none, px_K_some, px_K_none, px_K_thr, px_kill, ↓reduceIte, if_true, if_false, true_and, and_true, nI_p1, px_kill]
          exact ih2 (k + 1) (by omega) ro' b'
      -- the name's
      have ln : ∀ d k, k + d = iNl m t → ∀ ro, bytR ro (ipos m t + 1 + k) (imB m (iS m)) → px_Wp sx 167 75 [some (.ref 619), some (.int (nI t)), some (.int (nI k))] [] (outH h (px_up V 17 (nI (ipos m t + 1 + k))) ro) Q := by
        intro d
        induction d with
        | zero =>
          intro k hk ro b
          have hk : k = iNl m t := by omega
          subst hk
          have le : nI (iNl m t) ≤ nI (iNl m t) := Int32.le_refl _
          simp only [pc167_75, pc167_76, pc167_76n, pc167_77, pc167_80, pc167_81, pc167_82, pc167_106, pc167_106n, pc167_107, pc167_107n, pc167_108, pc167_111, pc167_112, pc167_113, px_op_some, px_kv_ap, px_ki_ap, px_kl_ap, px_kn_ap, px_kh_ap, px_op_none, px_K_some, px_K_none, px_K_thr, px_kill, ↓reduceIte, if_true, if_false, true_and, and_true, px_gf, px_ai, z6, mf_40, mf_42, z1, z3, it, ct, r1, r2, le, tg_i1, and_self, zc]
          refine e_add hl6 (by omega) b (by rw [imB_v (by omega)]; exact nI_small (by omega)) (fun ro' b' => ?_)
          simp only [px_K_none, pc167_116, pc167_117, px_op_some, px_kv_ap, px_ki_ap, px_kl_ap, px_kn_ap, px_kh_ap, px_op_none, px_K_some, px_K_none, px_K_thr, px_kill, ↓reduceIte, if_true, if_false, true_and, and_true, px_kill]
          have e : ipos m t + 1 + iNl m t + 1 = ipos m t + 2 + iNl m t + 0 := by omega
          rw [e] at b' ⊢
          exact lv (iVl m t) 0 (by omega) ro' b'
        | succ d ih2 =>
          intro k hk ro b
          have ge : ¬ nI (iNl m t) ≤ nI k := nI_ge (by omega) (by omega)
          have i1 : px_in (nI (8 * t + k)) 56 = true := px_inb (by omega) (by decide)
          have j1 : (nI (8 * t + k)).toNatClampNeg = 8 * t + k := nI_clamp (by omega)
          have rk := r3 k (by omega)
          have ak := a5.1 k (by omega)
          rw [pc167_75]
          simp only [pc167_76, pc167_76n, pc167_77, pc167_80, pc167_81, pc167_82, pc167_85, pc167_85n, pc167_86, pc167_86n, pc167_87, pc167_90, pc167_92, pc167_93, pc167_94, pc167_95, pc167_96, pc167_97, px_op_some, px_kv_ap, px_ki_ap, px_kl_ap, px_kn_ap, px_kh_ap, px_op_none, px_K_some, px_K_none, px_K_thr, px_kill, ↓reduceIte, if_true, if_false, true_and, and_true, px_gf, px_ai, z6, mf_40, mf_39, z1, z0, it, ct, r1, ge, mul_8n, nI_add, i1, j1, rk, tg_i1, and_self, zc]
          refine e_add hl6 (by omega) b (by rw [imB_nm (by omega) (by omega)]; exact nI_small (by omega)) (fun ro' b' => ?_)
          simp only [px_K_none, pc167_100, pc167_103, px_op_some, px_kv_ap, px_ki_ap, px_kl_ap, px_kn_ap, px_kh_ap, px_op_none, px_K_some, px_K_none, px_K_thr, px_kill, ↓reduceIte, if_true, if_false, true_and, and_true, nI_p1, px_kill]
          exact ih2 (k + 1) (by omega) ro' b'
      rw [pc167_55]
      simp only [pc167_56, pc167_56n, pc167_57, pc167_60, pc167_63, pc167_63n, pc167_64, pc167_64n, pc167_65, pc167_68, pc167_69, pc167_70, px_op_some, px_kv_ap, px_ki_ap, px_kl_ap, px_kn_ap, px_kh_ap, px_op_none, px_K_some, px_K_none, px_K_thr, px_kill, ↓reduceIte, if_true, if_false, true_and, and_true, px_gf, px_ai, z6, mf_38, mf_40, u38, z1, it, ct, r1, ge, tg_i1, and_self, zc]
      refine e_add hl6 (by omega) b (by rw [imB_n (by omega)]; exact nI_small (by omega)) (fun ro' b' => ?_)
      simp only [px_K_none, pc167_73, pc167_74, px_op_some, px_kv_ap, px_ki_ap, px_kl_ap, px_kn_ap, px_kh_ap, px_op_none, px_K_some, px_K_none, px_K_thr, px_kill, ↓reduceIte, if_true, if_false, true_and, and_true, px_kill]
      exact ln (iNl m t) 0 (by omega) ro' b'
  -- layers
  have lp1 : ∀ d t, t + d = iL m → ∀ ro, bytR ro (2 + 8 * t) (imB m (iS m)) → px_Wp sx 167 21 [some (.ref 619), some (.int (nI t)), none] [] (outH h (px_up V 17 (nI (2 + 8 * t))) ro) Q := by
    intro d
    induction d with
    | zero =>
      intro t ht ro b
      have ht : t = iL m := by omega
      subst ht
      have le : nI (iL m) ≤ nI (iL m) := Int32.le_refl _
      simp only [pc167_21, pc167_22, pc167_22n, pc167_23, pc167_26, pc167_45, pc167_45n, pc167_46, pc167_46n, pc167_47, pc167_50, px_op_some, px_kv_ap, px_ki_ap, px_kl_ap, px_kn_ap, px_kh_ap, px_op_none, px_K_some, px_K_none, px_K_thr, px_kill, ↓reduceIte, if_true, if_false, true_and, and_true, px_gf, z6, mf_36, mf_38, u36, u38, le, zc]
      refine e_add hl6 (by omega) b (by rw [imB_s]; exact nI_small (by omega)) (fun f1 b1 => ?_)
      simp only [px_K_none, pc167_53, pc167_54, px_op_some, px_kv_ap, px_ki_ap, px_kl_ap, px_kn_ap, px_kh_ap, px_op_none, px_K_some, px_K_none, px_K_thr, px_kill, ↓reduceIte, if_true, if_false, true_and, and_true, px_kill]
      have e : 2 + 8 * iL m + 1 = ipos m 0 := by show _ = 3 + 8 * iL m; omega
      rw [e] at b1 ⊢
      exact lp2 (iS m) 0 (by omega) f1 _ b1
    | succ d ih =>
      intro t ht ro b
      have ge : ¬ nI (iL m) ≤ nI t := nI_ge (by omega) (by omega)
      have it : px_in (nI t) 13 = true := px_inb (by omega) (by decide)
      have ct : (nI t).toNatClampNeg = t := nI_clamp (by omega)
      rw [pc167_21]
      simp only [pc167_22, pc167_22n, pc167_23, pc167_26, pc167_29, pc167_29n, pc167_30, pc167_30n, pc167_31, pc167_34, pc167_35, pc167_36, px_op_some, px_kv_ap, px_ki_ap, px_kl_ap, px_kn_ap, px_kh_ap, px_op_none, px_K_some, px_K_none, px_K_thr, px_kill, ↓reduceIte, if_true, if_false, true_and, and_true, px_gf, px_aj, z6, mf_36, mf_37, u36, z9, ge, it, ct, tg_2, and_self, zc]
      refine e_long hl6 (by omega) b (fun k hk => by rw [oL t (by omega), imB_l (by omega) hk]) (fun f1 b1 => ?_)
      simp only [px_K_none, pc167_39, pc167_42, px_op_some, px_kv_ap, px_ki_ap, px_kl_ap, px_kn_ap, px_kh_ap, px_op_none, px_K_some, px_K_none, px_K_thr, px_kill, ↓reduceIte, if_true, if_false, true_and, and_true, nI_p1, px_kill]
      have e : 2 + 8 * t + 8 = 2 + 8 * (t + 1) := by omega
      rw [e] at b1 ⊢
      exact ih (t + 1) (by omega) f1 b1
  have e0 : px_wr h 619 (.inl (11, modF (px_up V 17 0))) = outH h (px_up V 17 (nI 0)) row := by rw [outH_w hr]; rfl
  simp only [pc167_0, pc167_0n, pc167_1, pc167_2, pc167_5, pc167_5n, pc167_6, pc167_8, px_op_some, px_kv_ap, px_ki_ap, px_kl_ap, px_kn_ap, px_kh_ap, px_op_none, px_K_some, px_K_none, px_K_thr, px_kill, ↓reduceIte, if_true, if_false, true_and, and_true, px_pf, h6, mfs_17, mf_len, Nat.reduceLT, px_fit, and_self, e0, zc]
  refine e_add (g := imB m (iS m)) hl6 (by decide) (fun k hk => absurd hk (Nat.not_lt_zero k)) (by rw [imB_0]; rfl) (fun f1 b1 => ?_)
  simp only [px_K_none, pc167_11, pc167_11n, pc167_12, pc167_12n, pc167_13, pc167_16, px_op_some, px_kv_ap, px_ki_ap, px_kl_ap, px_kn_ap, px_kh_ap, px_op_none, px_K_some, px_K_none, px_K_thr, px_kill, ↓reduceIte, if_true, if_false, true_and, and_true, px_gf, z6, mf_36, u36, zc]
  refine e_add hl6 (by decide) b1 (by rw [imB_1]; exact nI_small (by omega)) (fun f2 b2 => ?_)
  simp only [px_K_none, pc167_19, pc167_20, px_op_some, px_kv_ap, px_ki_ap, px_kl_ap, px_kn_ap, px_kh_ap, px_op_none, px_K_some, px_K_none, px_K_thr, px_kill, ↓reduceIte, if_true, if_false, true_and, and_true, px_kill]
  exact lp1 (iL m) 0 (by omega) f2 b2
end MEMIT
