/-! SEND, the reference's -/
/-- the heap when a transfer has been opened -/
def opnH (h : px_H) (q k t : Nat) : px_H := px_wr (px_wr (px_wr (px_wr (px_wr (px_wr (px_wr (px_wr h 655 (.inr (3, 4, .inl (px_up (iA h 655) t 1)))) 656 (.inr (1, 4, .inl (px_up (iA h 656) t (nI q))))) 657 (.inr (1, 4, .inl (px_up (iA h 657) t (nI k))))) 658 (.inr (1, 4, .inl (px_up (iA h 658) t 1)))) 659 (.inr (3, 4, .inl (px_up (iA h 659) t 0)))) 660 (.inr (1, 4, .inl (px_up (iA h 660) t 0)))) 661 (.inr (3, 4, .inl (px_up (iA h 661) t 0)))) 662 (.inr (3, 4, .inl (px_up (iA h 662) t 0)))
set_option maxRecDepth 16384 in
theorem opnH_at {h : px_H} {q k t r : Nat} (hr : ¬ (655 ≤ r ∧ r ≤ 662)) : (opnH h q k t).2[r]? = h.2[r]? := by
  unfold opnH
  rw [wr_at, if_neg (by omega), wr_at, if_neg (by omega), wr_at, if_neg (by omega), wr_at, if_neg (by omega), wr_at, if_neg (by omega), wr_at, if_neg (by omega), wr_at, if_neg (by omega), wr_at, if_neg (by omega)]
set_option maxRecDepth 16384 in
theorem opnH_len {h : px_H} {q k t : Nat} : (opnH h q k t).2.length = h.2.length := by unfold opnH; simp only [px_wr_len]
set_option maxRecDepth 16384 in
theorem shape_opn {h : px_H} (hs : shape h) {q k t : Nat} : shape (opnH h q k t) := by
  unfold opnH
  have e : ∀ r, r < 669 → fillC (cell h r) (tmpl r) = cell h r := hs.2
  refine shape_wr (shape_wr (shape_wr (shape_wr (shape_wr (shape_wr (shape_wr (shape_wr hs ?_) ?_) ?_) ?_) ?_) ?_) ?_) ?_ <;> rfl
set_option maxRecDepth 16384 in
theorem mul_300 {t : Nat} (ht : t < 4) : 300 * nI t = nI (300 * t) := by
  have : t = 0 ∨ t = 1 ∨ t = 2 ∨ t = 3 := by omega
  rcases this with rfl | rfl | rfl | rfl <;> rfl
section MSEND
variable {sx : Nat × (Nat → Int32)} {h : px_H} {Q : px_O → px_H → Prop} {V row bb : Nat → Int32} {t l : Nat}
set_option maxRecDepth 16384 in
theorem m_snd_l {h1 : px_H} {o0 : Nat → Int32} {l1 l2 l3 l4 l5 : Option Value} (ht : t < 4) (hl6 : 668 < h1.2.length) (h6 : h1.2[619]? = some (.inl (11, modF V))) (hv : V 17 = nI l) (hr : h1.2[636]? = some (.inr (1, 40100, .inl row))) (hl : l ≤ 231) (hb : ∀ m, m < l → row m = bb m)
    (hQ : ∀ o, wroteM o0 o (300 * t) bb l → Q (.inl (some (.int (nI t)))) (px_wr h1 664 (.inr (1, 1200, .inl o)))) :
    ∀ n m, m + n = l → ∀ o, wroteM o0 o (300 * t) bb m → px_Wp sx 247 223 [some (.ref 619), l1, l2, l3, l4, l5, some (.int (nI t)), some (.int (nI m))] [] (px_wr h1 664 (.inr (1, 1200, .inl o))) Q := by
  have n1 : ∀ x : Int32, px_nar 1 x = x := fun _ => rfl
  have r : ∀ o k, 664 ≠ k → (px_wr h1 664 (.inr (1, 1200, .inl o))).2[k]? = h1.2[k]? := fun o k hk => by rw [wr_at, if_neg hk]
  have r6 := fun o => (r o 619 (by decide)).trans h6
  have rr := fun o => (r o 636 (by decide)).trans hr
  have ro : ∀ o : Nat → Int32, (px_wr h1 664 (.inr (1, 1200, .inl o))).2[664]? = some (.inr (1, 1200, .inl o)) := fun o => by rw [wr_at, if_pos rfl, if_pos (by omega)]
  intro n
  induction n with
  | zero =>
    intro m hm o w
    have hm : m = l := by omega
    subst hm
    simp only [pc247_223, pc247_225, pc247_225n, pc247_226, pc247_229, pc247_259, pc247_261, px_gf, r6, mf_17, hv, if_true, px_op_some, px_kv_ap, px_ki_ap, px_kl_ap, px_kn_ap, px_kh_ap, if_pos (Int32.le_refl (nI m))]
    exact hQ o w
  | succ n ih =>
    intro m hm o w
    have hge : ¬ nI l ≤ nI m := nI_ge (by omega) (by omega)
    have im : px_in (nI m) 40100 = true := px_inb (by omega) (by decide)
    have cm : (nI m).toNatClampNeg = m := nI_clamp (by omega)
    have io : px_in (nI (300 * t + m)) 1200 = true := px_inb (by omega) (by decide)
    have co : (nI (300 * t + m)).toNatClampNeg = 300 * t + m := nI_clamp (by omega)
    rw [pc247_223]
    simp only [pc247_225, pc247_225n, pc247_226, pc247_229, pc247_232, pc247_232n, pc247_233, pc247_236, pc247_239, pc247_241, pc247_242, pc247_244, pc247_245, pc247_245n, pc247_246, pc247_249, pc247_251, pc247_252, pc247_253, pc247_256, px_op_some, px_kv_ap, px_ki_ap, px_kl_ap, px_kn_ap, px_kh_ap, px_op_none, px_K_some, px_K_none, px_K_thr, px_kill, ↓reduceIte, if_true, if_false, true_and, and_true, px_gf, px_pf, px_ai, px_aj, px_aa, px_wi, px_wj, px_wa, px_an, px_cls, tg_i1, r6, rr, ro, mf_17, mf_19, mf_58, hv, if_neg hge, mul_300 ht, nI_add, im, cm, io, co, and_self, n1, px_wr_wr, hb m (by omega), nI_1]
    exact ih (m + 1) (by omega) _ (wroteM_up w rfl)
set_option maxRecDepth 16384 in
theorem m_send_b {q j k k' u B : Nat} {l4 l5 : Int32} (hS : shape h) (ht : t < 4) (hq : q < 2) (hj : j < 8) (hB : B ≤ 60) (hk : k < B) (hb : iA h 621 q = nI B) (hd : lA h 622 (61 * q + k) = lA h 627 (8 * q + j)) (hu : ∀ a b, a < B → b < B → lA h 622 (61 * q + a) = lA h 622 (61 * q + b) → a = b) (hfr : iA h 623 (61 * q + k) = nI u) (hsz : iA h 624 (61 * q + k) = nI l) (hl : l ≤ 231) (hul : u + l ≤ 40000) (hbb : ∀ m, m < l → iA h 625 (40000 * q + u + m) &&& 255 = bb m)
    (hQ : ∀ row' o, wroteM (iA h 664) o (300 * t) bb l → Q (.inl (some (.int (nI t)))) (px_wr (px_wr (outH (opnH h q k' t) (px_up (fI h 619) 17 (nI l)) row') 665 (.inr (1, 4, .inl (px_up (iA h 665) t (nI l))))) 664 (.inr (1, 1200, .inl o)))) :
    px_Wp sx 247 124 [some (.ref 619), some (.int (nI q)), some (.int (nI j)), some (.int (nI k')), some (.int l4), some (.int l5), some (.int (nI t)), none] [] h Q := by
  have hln := hS.1
  have it : px_in (nI t) 4 = true := px_inb ht (by decide)
  have ct : (nI t).toNatClampNeg = t := nI_clamp (by omega)
  have i16 : px_in (nI (8 * q + j)) 16 = true := px_inb (by omega) (by decide)
  have c16 : (nI (8 * q + j)).toNatClampNeg = 8 * q + j := nI_clamp (by omega)
  have n1 : ∀ x : Int32, px_nar 1 x = x := fun _ => rfl
  simp only [pc247_124, pc247_124n, pc247_125, pc247_128, pc247_130, pc247_131, pc247_132, pc247_132n, pc247_133, pc247_136, pc247_138, pc247_139, pc247_140, pc247_140n, pc247_141, pc247_144, pc247_146, pc247_147, pc247_148, pc247_148n, pc247_149, pc247_152, pc247_154, pc247_155, pc247_156, pc247_156n, pc247_157, pc247_160, pc247_162, pc247_163, pc247_164, pc247_164n, pc247_165, pc247_168, pc247_170, pc247_171, pc247_172, pc247_172n, pc247_173, pc247_176, pc247_178, pc247_179, pc247_180, pc247_180n, pc247_181, pc247_184, pc247_186, pc247_187, px_op_some, px_kv_ap, px_ki_ap, px_kl_ap, px_kn_ap, px_kh_ap, px_op_none, px_K_some, px_K_none, px_K_thr, px_kill, ↓reduceIte, if_true, if_false, true_and, and_true, px_gf, px_pf, px_ai, px_aj, px_aa, px_wi, px_wj, px_wa, px_an, px_cls, yr_0, yr_1, tr_0, tr_1, tr_2, tr_3, px_rf, of_2, of_4, in_02, in_12, in_04, in_14, in_24, in_34, Nat.reduceLeDiff, in_01, lgc_self, Int32.reduceToNatClampNeg, wr_at, al_at, px_wr_len, px_al_len, px_wr_1, px_al_1, tg_0, tg_1, tg_2, tg_3, tg_12, tg_15, tg_17, tg_18, tg_i1, tg_b0, tg_b3, px_fit, Nat.reduceEqDiff, Nat.reduceLT, Nat.reduceAdd, Option.some.injEq, up_at, px_wr_wr, i32_le, Int32.reduceLE, Int32.reduceLT, mf_len, nar_0, nar_1, px_KH_some, px_KH_none, px_KH_thr, List.length_cons, List.length_nil, List.getElem?_cons_zero, List.getElem?_cons_succ, List.set_cons_zero, List.set_cons_succ, ↓reduceIte, Nat.lt_irrefl, ne_0_1, ne_0_2, ne_0_3, ne_0_4, ne_0_5, ne_1_0, ne_1_2, ne_1_3, ne_1_4, ne_1_5, ne_2_0, ne_2_1, ne_2_3, ne_2_4, ne_2_5, ne_3_0, ne_3_1, ne_3_2, ne_3_4, ne_3_5, ne_4_0, ne_4_1, ne_4_2, ne_4_3, ne_4_5, ne_5_0, ne_5_1, ne_5_2, ne_5_3, ne_5_4, hd_256_12, hd_256_16, hd_257_12, hd_258_12, hd_259_12, hd_260_12, hd_261_12, hd_261_13, hd_261_16, hd_262_12, hd_262_13, hd_262_16, hd_263_12, hd_263_13, hd_264_12, hd_264_13, hd_264_14, hd_265_12, hd_265_13, hd_265_14, hd_266_12, hd_267_12, hd_267_13, hd_267_14, hd_268_12, hd_269_12, hd_269_14, hd_270_12, hd_271_12, hd_272_12, hd_273_12, hd_273_13, hd_273_15, hd_274_12, hd_274_15, hd_275_12, hd_275_15, hd_276_12, nI_p1, nI_p2, nI_p3, nI_p4, nI_p5, not_true_eq_false, not_false_eq_true, and_self, mf_0, mf_1, mf_2, mf_3, mf_4, mf_5, mf_6, mf_7, mf_8, mf_9, mf_10, mf_11, mf_12, mf_13, mf_14, mf_15, mf_16, mf_17, mf_18, mf_19, mf_20, mf_21, mf_22, mf_23, mf_24, mf_25, mf_26, mf_27, mf_28, mf_29, mf_30, mf_31, mf_32, mf_33, mf_34, mf_35, mf_36, mf_37, mf_38, mf_39, mf_40, mf_41, mf_42, mf_43, mf_44, mf_45, mf_46, mf_47, mf_48, mf_49, mf_50, mf_51, mf_52, mf_53, mf_54, mf_55, mf_56, mf_57, mf_58, mf_59, mf_60, mf_61, mfs_0, mfs_2, mfs_17, mfs_20, mfs_26, mfs_32, mfs_34, mfs_36, mfs_38, mfs_43, mfs_44, mfs_45, mfs_46, mfs_47, iy_0, iy_1, iy_2, iy_3, iy_4, iy_5, iy_6, at_619 hS, at_655 hS, at_656 hS, at_657 hS, at_658 hS, at_659 hS, at_660 hS, at_661 hS, at_662 hS, shape_1 hS, shape_2 hS, nar3_0, nar3_1, it, ct, n1]
  rw [show px_wr (px_wr (px_wr (px_wr (px_wr (px_wr (px_wr (px_wr h 655 (.inr (3, 4, .inl (px_up (iA h 655) t 1)))) 656 (.inr (1, 4, .inl (px_up (iA h 656) t (nI q))))) 657 (.inr (1, 4, .inl (px_up (iA h 657) t (nI k'))))) 658 (.inr (1, 4, .inl (px_up (iA h 658) t 1)))) 659 (.inr (3, 4, .inl (px_up (iA h 659) t 0)))) 660 (.inr (1, 4, .inl (px_up (iA h 660) t 0)))) 661 (.inr (3, 4, .inl (px_up (iA h 661) t 0)))) 662 (.inr (3, 4, .inl (px_up (iA h 662) t 0))) = opnH h q k' t from rfl]
  have z : ∀ r x, ¬ (655 ≤ r ∧ r ≤ 662) → h.2[r]? = some x → (opnH h q k' t).2[r]? = some x := fun r x hr e => by rw [opnH_at hr]; exact e
  have lo : (opnH h q k' t).2.length = h.2.length := opnH_len
  generalize opnH h q k' t = H at z lo hQ ⊢
  have z6 := z 619 _ (by omega) (at_619 hS)
  have hc6 : px_cls H 619 = some 11 := by unfold px_cls; rw [z6]
  simp only [pc247_188, pc247_188n, pc247_189, pc247_190, pc247_190n, pc247_191, pc247_192, pc247_192n, pc247_193, pc247_196, pc247_198, pc247_199, pc247_200, pc247_201, pc247_202, pc247_203, px_op_some, px_kv_ap, px_ki_ap, px_kl_ap, px_kn_ap, px_kh_ap, px_op_none, px_K_some, px_K_none, px_K_thr, px_kill, ↓reduceIte, if_true, if_false, true_and, and_true, px_gf, px_aj, z6, z 627 _ (by omega) (at_627 hS), mf_9, mul_8 hq, nI_add, i16, c16, and_self, hc6]
  refine m_find hq hB hb z6 (z 621 _ (by omega) (at_621 hS)) (z 622 _ (by omega) (at_622 hS)) (fun v hv => ?_)
  rw [lst_is (f := fun j => lA h 622 (61 * q + j)) hv hk hd hu]
  simp only [px_K_some, pc247_206, hc6, true_and]
  refine m_rowFromBlob (u := u) (l := l) (bb := bb) (by omega) hq (by omega) z6 (z 636 _ (by omega) (at_636 hS)) (z 623 _ (by omega) (at_623 hS)) (z 624 _ (by omega) (at_624 hS)) (z 625 _ (by omega) (at_625 hS)) hfr hsz hul hbb (fun row' w => ?_)
  have y6 : (outH H (px_up (fI h 619) 17 (nI l)) row').2[619]? = some (.inl (11, modF (px_up (fI h 619) 17 (nI l)))) := outH_o (by omega)
  have yr : (outH H (px_up (fI h 619) 17 (nI l)) row').2[636]? = some (.inr (1, 40100, .inl row')) := outH_r (by omega)
  have y665 : (outH H (px_up (fI h 619) 17 (nI l)) row').2[665]? = some (.inr (1, 4, .inl (iA h 665))) := by rw [outH_at (by decide) (by decide)]; exact z 665 _ (by omega) (at_665 hS)
  have y664 : (outH H (px_up (fI h 619) 17 (nI l)) row').2[664]? = some (.inr (1, 1200, .inl (iA h 664))) := by rw [outH_at (by decide) (by decide)]; exact z 664 _ (by omega) (at_664 hS)
  have ylen : (outH H (px_up (fI h 619) 17 (nI l)) row').2.length = h.2.length := by rw [outH_len, lo]
  have hQ' := hQ row'
  generalize outH H (px_up (fI h 619) 17 (nI l)) row' = H2 at y6 yr y665 y664 ylen hQ' ⊢
  simp only [px_K_none, pc247_209, pc247_209n, pc247_210, pc247_213, pc247_215, pc247_215n, pc247_216, pc247_219, pc247_220, pc247_221, px_op_some, px_kv_ap, px_ki_ap, px_kl_ap, px_kn_ap, px_kh_ap, px_op_none, px_K_some, px_K_none, px_K_thr, px_kill, ↓reduceIte, if_true, if_false, true_and, and_true, px_gf, px_pf, px_ai, px_aj, px_aa, px_wi, px_wj, px_wa, px_an, px_cls, tg_i1, y6, y665, mf_59, mf_17, up_same, it, ct, and_self, n1]
  have e1 : px_wr H2 665 (.inr (1, 4, .inl (px_up (iA h 665) t (nI l)))) = px_wr (px_wr H2 665 (.inr (1, 4, .inl (px_up (iA h 665) t (nI l))))) 664 (.inr (1, 1200, .inl (iA h 664))) := (wr_id (by rw [wr_at, if_neg (by decide)]; exact y664)).symm
  rw [e1]
  exact m_snd_l (V := px_up (fI h 619) 17 (nI l)) (row := row') ht (by rw [px_wr_len]; omega) (by rw [wr_at, if_neg (by decide)]; exact y6) (up_same _ _ _) (by rw [wr_at, if_neg (by decide)]; exact yr) hl (fun m hm => by have := w.2 m hm; rw [Nat.zero_add] at this; exact this) hQ' l 0 (by omega) _ (wroteM_0 _ _ _)
end MSEND
