/-! THE KEY OF A STEP -/
def kyB (m : aM) (B : Nat → Nat) (s : Nat) : Nat → Int32 := fun k => if k < ipos m (iS m) then imB m (iS m) k else nI (B (s + (k - ipos m (iS m))))
def kyN (m : aM) (s e : Nat) : Nat := ipos m (iS m) + (e - s)
def kyA (r : Nat) : Prop := r = 81 ∨ r = 82
set_option maxRecDepth 16384 in
theorem shape_ky {h : px_H} {a : Nat} {f : Nat → Int32} (hS : shape h) : shape (rowH h 81 831 a f) := by
  unfold rowH
  exact shape_int (r := 81) (k := 1) (shape_ia hS (at_82 hS)) (by rw [wr_at, if_neg (by decide)]; exact at_81 hS) rfl
section KEYOF
variable {sx : Nat × (Nat → Int32)} {h : px_H} {n s e : Nat} {f V g row : Nat → Int32} {B : Nat → Nat} {P : Nat → Nat} {m : aM} {Q : px_O → px_H → Prop}
set_option maxRecDepth 16384 in
theorem c_keyOf (hS : shape h) (im : imC h 48 P m) (ok : imOK m) (w : rowAt h 45 600 n f) (hB : txA f n B) (hs : s ≤ e) (he : e ≤ n) (hQ : ∀ h1, frm kyA h h1 → shape h1 → Q (.inl (some (.long (dig (kyB m B s) (kyN m s e))))) h1) :
    px_Wp sx 137 0 [some (.ref 47), some (.ref 45), some (.int (nI s)), some (.int (nI e))] [] h Q := by
  have n600 := w.2.2.1
  have p231 : ipos m (iS m) ≤ 231 := img_len (img_im ok)
  have l82 : 81 + 1 < h.2.length := by have := hS.1; omega
  have c48 : px_cls h 48 = some 6 := by unfold px_cls; rw [at_48 hS]
  simp only [pc137_0, pc137_0n, pc137_1, pc137_4, pc137_4n, pc137_5, pc137_8, px_op_some, px_kv_ap, px_ki_ap, px_kl_ap, px_kn_ap, px_kh_ap, px_op_none, px_K_some, px_K_none, px_K_thr, px_kill, ↓reduceIte, if_true, if_false, true_and, and_true, px_gf, at_47 hS, List.getElem?_cons_zero, List.getElem?_cons_succ, c48]
  refine c_write im ok (at_81 hS) (at_82 hS) (by decide) (.inr (by decide)) (by omega) (fun f1 b1 => ?_)
  have a47 : ∀ a f', (rowH h 81 831 a f').2[47]? = some (.inl (10, [.int (fI h 47 0), .int (fI h 47 1), .int (fI h 47 2), .int (fI h 47 3), .int (fI h 47 4), .int (fI h 47 5), .int (fI h 47 6), .long (fJ h 47 7), .ref 48, .ref 81, .ref 83, .ref 85, .ref 87, .ref 249, .ref 411, .ref 414])) := fun a f' => by rw [rowH_at (by decide) (by decide)]; exact at_47 hS
  have a81 : ∀ a f', (rowH h 81 831 a f').2[81]? = some (.inl (1, [.ref 82, .int (nI a)])) := fun a f' => rowH_r l82
  have zc : ∀ a f', px_cls (rowH h 81 831 a f') 81 = some 1 := fun a f' => by unfold px_cls; rw [a81]
  have sb : nI e - nI s = nI (e - s) := nI_sub hs
  simp only [px_K_none, pc137_11, pc137_11n, pc137_12, pc137_15, pc137_15n, pc137_16, pc137_17, pc137_18, pc137_19, pc137_20, px_op_some, px_kv_ap, px_ki_ap, px_kl_ap, px_kn_ap, px_kh_ap, px_op_none, px_K_some, px_K_none, px_K_thr, px_kill, ↓reduceIte, if_true, if_false, true_and, and_true, px_gf, a47, List.getElem?_cons_zero, List.getElem?_cons_succ, zc, sb]
  refine c_wall (g := kyB m B s) (s := s) l82 (by decide) (by omega) (fun k hk => ?_) w (by decide) (by decide) (by decide) (by decide) (by omega) (fun k hk => ?_) (fun f2 b2 => ?_)
  · unfold kyB; rw [if_pos hk]; exact b1 k hk
  · unfold kyB; rw [if_neg (by omega), Nat.add_sub_cancel_left]; exact (hB _ (by omega)).1
  · simp only [px_K_none, pc137_23, pc137_23n, pc137_24, pc137_27, pc137_28, pc137_28n, pc137_29, pc137_32, pc137_35, px_op_some, px_kv_ap, px_ki_ap, px_kl_ap, px_kn_ap, px_kh_ap, px_op_none, px_K_some, px_K_none, px_K_thr, px_kill, ↓reduceIte, if_true, if_false, true_and, and_true, px_gf, a47, a81, List.getElem?_cons_zero, List.getElem?_cons_succ, zc]
    refine c_digest (s := 0) (bb := kyB m B s) (rowAt_rowH l82 (by omega) (by decide)) (by omega) (fun k hk => by rw [Nat.zero_add]; exact b2 k hk) ?_
    simp only [px_K_some, pc137_38]
    exact hQ _ (frm_row (frm_refl _ _) (.inl rfl) (.inr rfl)) (shape_ky hS)
set_option maxRecDepth 16384 in
theorem m_keyPart {l1 : Option Value} {c4 : Int32} (hl : 668 < h.2.length) (h6 : h.2[619]? = some (.inl (11, modF V))) (hr : h.2[636]? = some (.inr (1, 40100, .inl row))) (im : imR h V m) (ok : imOK m) (hA : h.2[620]? = some (.inr (1, 600, .inl g))) (hB : txM g n B) (hn : n ≤ 600) (hs : s ≤ e) (he : e ≤ n)
    (hQ : ∀ row', px_Wp sx 166 36 [some (.ref 619), l1, some (.int (nI s)), some (.int (nI e)), some (.int c4), some (.long (dig (kyB m B s) (kyN m s e))), none, none, none] [] (outH h (px_up V 17 (nI (kyN m s e))) row') Q) :
    px_Wp sx 166 0 [some (.ref 619), l1, some (.int (nI s)), some (.int (nI e)), some (.int c4), none, none, none, none] [] h Q := by
  have hl6 : 636 < h.2.length := by omega
  have p231 : ipos m (iS m) ≤ 231 := img_len (img_im ok)
  have z6 : ∀ v ro : Nat → Int32, (outH h v ro).2[619]? = some (.inl (11, modF v)) := fun v ro => outH_o hl6
  have zc : ∀ v ro : Nat → Int32, px_cls (outH h v ro) 619 = some 11 := fun v ro => by unfold px_cls; rw [z6]
  have z0 : ∀ v ro : Nat → Int32, (outH h v ro).2[620]? = some (.inr (1, 600, .inl g)) := fun v ro => by rw [outH_at (by decide) (by decide)]; exact hA
  have hcl : px_cls h 619 = some 11 := by unfold px_cls; rw [h6]
  have lp : ∀ d k, k + d = e - s → ∀ ro, bytR ro (ipos m (iS m) + k) (kyB m B s) → px_Wp sx 166 7 [some (.ref 619), l1, some (.int (nI s)), some (.int (nI e)), some (.int c4), some (.int (nI (s + k))), none, none, none] [] (outH h (px_up V 17 (nI (ipos m (iS m) + k))) ro) Q := by
    intro d
    induction d with
    | zero =>
      intro k hk ro b
      have hk : k = e - s := by omega
      subst hk
      have le : nI e ≤ nI (s + (e - s)) := nI_le (by omega) (by omega)
      simp only [pc166_7, pc166_9, pc166_10, pc166_30, pc166_30n, pc166_31, px_op_some, px_kv_ap, px_ki_ap, px_kl_ap, px_kn_ap, px_kh_ap, px_op_none, px_K_some, px_K_none, px_K_thr, px_kill, ↓reduceIte, if_true, if_false, true_and, and_true, le, zc]
      have d1 : dig ro (kyN m s e) = dig (kyB m B s) (kyN m s e) := dig_congr b
      refine m_digest (c := kyN m s e) (z6 _ _) (outH_r hl6) (up_same _ _ _) (by unfold kyN; omega) ?_
      rw [d1]
      simp only [px_K_some, pc166_34, px_op_some, px_kv_ap, px_ki_ap, px_kl_ap, px_kn_ap, px_kh_ap, px_op_none, px_K_some, px_K_none, px_K_thr, px_kill, ↓reduceIte, if_true, if_false, true_and, and_true, px_kill]
      exact hQ ro
    | succ d ih =>
      intro k hk ro b
      have ge : ¬ nI e ≤ nI (s + k) := nI_ge (by omega) (by omega)
      have i1 : px_in (nI (s + k)) 600 = true := px_inb (by omega) (by decide)
      have j1 : (nI (s + k)).toNatClampNeg = s + k := nI_clamp (by omega)
      obtain ⟨b1, b2⟩ := hB (s + k) (by omega)
      rw [pc166_7]
      simp only [pc166_9, pc166_10, pc166_13, pc166_13n, pc166_14, pc166_14n, pc166_15, pc166_18, pc166_20, pc166_21, px_op_some, px_kv_ap, px_ki_ap, px_kl_ap, px_kn_ap, px_kh_ap, px_op_none, px_K_some, px_K_none, px_K_thr, px_kill, ↓reduceIte, if_true, if_false, true_and, and_true, px_gf, px_ai, z6, mf_1, z0, ge, i1, j1, b1, tg_i1, and_self, zc]
      refine e_add hl6 (by omega) b ?_ (fun ro' b' => ?_)
      · unfold kyB; rw [if_neg (by omega), Nat.add_sub_cancel_left]; exact nI_small b2
      · simp only [px_K_none, pc166_24, pc166_27, px_op_some, px_kv_ap, px_ki_ap, px_kl_ap, px_kn_ap, px_kh_ap, px_op_none, px_K_some, px_K_none, px_K_thr, px_kill, ↓reduceIte, if_true, if_false, true_and, and_true, nI_p1, px_kill]
        exact ih (k + 1) (by omega) ro' b'
  simp only [pc166_0, pc166_0n, pc166_1, px_op_some, px_kv_ap, px_ki_ap, px_kl_ap, px_kn_ap, px_kh_ap, px_op_none, px_K_some, px_K_none, px_K_thr, px_kill, ↓reduceIte, if_true, if_false, true_and, and_true, hcl]
  refine m_emitImage hl h6 hr im ok (fun ro b => ?_)
  simp only [px_K_none, pc166_4, pc166_5, px_op_some, px_kv_ap, px_ki_ap, px_kl_ap, px_kn_ap, px_kh_ap, px_op_none, px_K_some, px_K_none, px_K_thr, px_kill, ↓reduceIte, if_true, if_false, true_and, and_true, px_kill]
  exact lp (e - s) 0 (by omega) ro (fun k hk => by have hk : k < ipos m (iS m) := hk; unfold kyB; rw [if_pos hk]; exact b k hk)
end KEYOF
