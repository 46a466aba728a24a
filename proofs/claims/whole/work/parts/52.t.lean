/-! 256: ImageYardLaw.put(LImageYard;I[J)I -/
section C256
variable {sx : Nat × (Nat → Int32)} {l0 l1 l2 l3 : Option Value} {S : List Value} {h : px_H} {Q : px_O → px_H → Prop}
theorem pc256_0 {r : Nat} : px_Wp sx 256 0 [l0, l1, some (.ref r), l3] S h Q ↔ px_Wp sx 256 1 [l0, l1, some (.ref r), l3] (.ref r :: S) h Q := wp_st (M := pg_m256) rfl (show px_Gi px_G0 256 0 = some (.aload_n 2, 1) by decide +kernel) rfl rfl rfl
theorem pc256_0n  : px_Wp sx 256 0 [l0, l1, some (.null), l3] S h Q ↔ px_Wp sx 256 1 [l0, l1, some (.null), l3] (.null :: S) h Q := wp_st (M := pg_m256) rfl (show px_Gi px_G0 256 0 = some (.aload_n 2, 1) by decide +kernel) rfl rfl rfl
theorem pc256_1  : px_Wp sx 256 1 [l0, l1, l2, l3] S h Q ↔ px_Wp sx 256 2 [l0, l1, l2, l3] (.int 0 :: S) h Q := wp_st (M := pg_m256) rfl (show px_Gi px_G0 256 1 = some (.iconst 0, 1) by decide +kernel) rfl rfl rfl
theorem pc256_2 {r : Nat} : px_Wp sx 256 2 [some (.ref r), l1, l2, l3] S h Q ↔ px_Wp sx 256 3 [some (.ref r), l1, l2, l3] (.ref r :: S) h Q := wp_st (M := pg_m256) rfl (show px_Gi px_G0 256 2 = some (.aload_n 0, 1) by decide +kernel) rfl rfl rfl
theorem pc256_2n  : px_Wp sx 256 2 [some (.null), l1, l2, l3] S h Q ↔ px_Wp sx 256 3 [some (.null), l1, l2, l3] (.null :: S) h Q := wp_st (M := pg_m256) rfl (show px_Gi px_G0 256 2 = some (.aload_n 0, 1) by decide +kernel) rfl rfl rfl
theorem pc256_3 {x : Int32} : px_Wp sx 256 3 [l0, some (.int x), l2, l3] S h Q ↔ px_Wp sx 256 4 [l0, some (.int x), l2, l3] (.int x :: S) h Q := wp_st (M := pg_m256) rfl (show px_Gi px_G0 256 3 = some (.iload_n 1, 1) by decide +kernel) rfl rfl rfl
theorem pc256_4 {a0 : Nat} {a1 : Int32} {z0 : Nat} {z1 : Int32} : px_Wp sx 256 4 [l0, l1, l2, l3] [.int a1, .ref a0, .int z1, .ref z0] h Q ↔ px_cls h a0 = some 0 ∧ px_Wp sx 1 0 [some (.ref a0), some (.int a1), none, none, none] [] h (px_KH sx 256 4 [(0, 9, 12, 13, 12), (0, 9, 15, 15, 16)] [l0, l1, l2, l3] [.int z1, .ref z0] Q) := wp_cvh (M := pg_m256) rfl (show px_Gi px_G0 256 4 = some (.invokevirtual 7, 3) by decide +kernel) (show px_Gc px_G0 20 7 = some 1 by decide +kernel) (by decide) (M' := pg_m1) rfl (as := [.int a1]) (rest := [.int z1, .ref z0]) rfl ⟨rfl, (show (2 : Nat) ≤ 5 by decide)⟩ rfl (by decide) rfl rfl
theorem pc256_7 {x : Int32} : px_Wp sx 256 7 [l0, l1, l2, l3] (.int x :: S) h Q ↔ px_Wp sx 256 8 [l0, l1, l2, l3] (.long x.toInt64 :: S) h Q := wp_st (M := pg_m256) rfl (show px_Gi px_G0 256 7 = some (.i2l, 1) by decide +kernel) rfl rfl rfl
theorem pc256_8 {r : Nat} {j : Int32} {x : Int64} : px_Wp sx 256 8 [l0, l1, l2, l3] (.long x :: .int j :: .ref r :: S) h Q ↔ px_op (px_wj h r j x) (fun h1 => px_Wp sx 256 9 [l0, l1, l2, l3] S h1 Q) := wp_wj (M := pg_m256) rfl (show px_Gi px_G0 256 8 = some (.lastore, 1) by decide +kernel)
theorem pc256_9  : px_Wp sx 256 9 [l0, l1, l2, l3] S h Q ↔ px_Wp sx 256 18 [l0, l1, l2, l3] S h Q := wp_st (M := pg_m256) rfl (show px_Gi px_G0 256 9 = some (.goto 9, 3) by decide +kernel) rfl rfl rfl
theorem pc256_12 {r : Nat} : px_Wp sx 256 12 [l0, l1, l2, l3] (.ref r :: S) h Q ↔ px_Wp sx 256 13 [l0, l1, px_kill l2, some (.ref r)] S h Q := wp_st (M := pg_m256) rfl (show px_Gi px_G0 256 12 = some (.astore_n 3, 1) by decide +kernel) rfl rfl rfl
theorem pc256_12n  : px_Wp sx 256 12 [l0, l1, l2, l3] (.null :: S) h Q ↔ px_Wp sx 256 13 [l0, l1, px_kill l2, some (.null)] S h Q := wp_st (M := pg_m256) rfl (show px_Gi px_G0 256 12 = some (.astore_n 3, 1) by decide +kernel) rfl rfl rfl
theorem pc256_13  : px_Wp sx 256 13 [l0, l1, l2, l3] S h Q ↔ px_Wp sx 256 14 [l0, l1, l2, l3] (.int 1 :: S) h Q := wp_st (M := pg_m256) rfl (show px_Gi px_G0 256 13 = some (.iconst 1, 1) by decide +kernel) rfl rfl rfl
theorem pc256_14 {x : Int32} : px_Wp sx 256 14 [l0, l1, l2, l3] [.int x] h Q ↔ Q (.inl (some (.int x))) h := wp_ret (M := pg_m256) rfl (show px_Gi px_G0 256 14 = some (.ireturn, 1) by decide +kernel) rfl (show (if narrow .int (.int x) = .int x then some (some (Value.int x)) else none) = _ from if_pos rfl)
theorem pc256_15 {r : Nat} : px_Wp sx 256 15 [l0, l1, l2, l3] (.ref r :: S) h Q ↔ px_Wp sx 256 16 [l0, l1, px_kill l2, some (.ref r)] S h Q := wp_st (M := pg_m256) rfl (show px_Gi px_G0 256 15 = some (.astore_n 3, 1) by decide +kernel) rfl rfl rfl
theorem pc256_15n  : px_Wp sx 256 15 [l0, l1, l2, l3] (.null :: S) h Q ↔ px_Wp sx 256 16 [l0, l1, px_kill l2, some (.null)] S h Q := wp_st (M := pg_m256) rfl (show px_Gi px_G0 256 15 = some (.astore_n 3, 1) by decide +kernel) rfl rfl rfl
theorem pc256_16  : px_Wp sx 256 16 [l0, l1, l2, l3] S h Q ↔ px_Wp sx 256 17 [l0, l1, l2, l3] (.int 2 :: S) h Q := wp_st (M := pg_m256) rfl (show px_Gi px_G0 256 16 = some (.iconst 2, 1) by decide +kernel) rfl rfl rfl
theorem pc256_17 {x : Int32} : px_Wp sx 256 17 [l0, l1, l2, l3] [.int x] h Q ↔ Q (.inl (some (.int x))) h := wp_ret (M := pg_m256) rfl (show px_Gi px_G0 256 17 = some (.ireturn, 1) by decide +kernel) rfl (show (if narrow .int (.int x) = .int x then some (some (Value.int x)) else none) = _ from if_pos rfl)
theorem pc256_18  : px_Wp sx 256 18 [l0, l1, l2, l3] S h Q ↔ px_Wp sx 256 19 [l0, l1, l2, l3] (.int 0 :: S) h Q := wp_st (M := pg_m256) rfl (show px_Gi px_G0 256 18 = some (.iconst 0, 1) by decide +kernel) rfl rfl rfl
theorem pc256_19 {x : Int32} : px_Wp sx 256 19 [l0, l1, l2, l3] [.int x] h Q ↔ Q (.inl (some (.int x))) h := wp_ret (M := pg_m256) rfl (show px_Gi px_G0 256 19 = some (.ireturn, 1) by decide +kernel) rfl (show (if narrow .int (.int x) = .int x then some (some (Value.int x)) else none) = _ from if_pos rfl)
end C256
/-! 257: ImageYardLaw.end(LImageYard;I)I -/
section C257
variable {sx : Nat × (Nat → Int32)} {l0 l1 l2 : Option Value} {S : List Value} {h : px_H} {Q : px_O → px_H → Prop}
theorem pc257_0 {r : Nat} : px_Wp sx 257 0 [some (.ref r), l1, l2] S h Q ↔ px_Wp sx 257 1 [some (.ref r), l1, l2] (.ref r :: S) h Q := wp_st (M := pg_m257) rfl (show px_Gi px_G0 257 0 = some (.aload_n 0, 1) by decide +kernel) rfl rfl rfl
theorem pc257_0n  : px_Wp sx 257 0 [some (.null), l1, l2] S h Q ↔ px_Wp sx 257 1 [some (.null), l1, l2] (.null :: S) h Q := wp_st (M := pg_m257) rfl (show px_Gi px_G0 257 0 = some (.aload_n 0, 1) by decide +kernel) rfl rfl rfl
theorem pc257_1 {x : Int32} : px_Wp sx 257 1 [l0, some (.int x), l2] S h Q ↔ px_Wp sx 257 2 [l0, some (.int x), l2] (.int x :: S) h Q := wp_st (M := pg_m257) rfl (show px_Gi px_G0 257 1 = some (.iload_n 1, 1) by decide +kernel) rfl rfl rfl
theorem pc257_2 {a0 : Nat} {a1 : Int32} : px_Wp sx 257 2 [l0, l1, l2] [.int a1, .ref a0] h Q ↔ px_cls h a0 = some 0 ∧ px_Wp sx 2 0 [some (.ref a0), some (.int a1)] [] h (px_KH sx 257 2 [(0, 5, 8, 13, 12)] [l0, l1, l2] [] Q) := wp_cvh (M := pg_m257) rfl (show px_Gi px_G0 257 2 = some (.invokevirtual 17, 3) by decide +kernel) (show px_Gc px_G0 20 17 = some 2 by decide +kernel) (by decide) (M' := pg_m2) rfl (as := [.int a1]) (rest := []) rfl ⟨rfl, (show (2 : Nat) ≤ 2 by decide)⟩ rfl (by decide) rfl rfl
theorem pc257_5  : px_Wp sx 257 5 [l0, l1, l2] S h Q ↔ px_Wp sx 257 11 [l0, l1, l2] S h Q := wp_st (M := pg_m257) rfl (show px_Gi px_G0 257 5 = some (.goto 6, 3) by decide +kernel) rfl rfl rfl
theorem pc257_8 {r : Nat} : px_Wp sx 257 8 [l0, l1, l2] (.ref r :: S) h Q ↔ px_Wp sx 257 9 [l0, px_kill l1, some (.ref r)] S h Q := wp_st (M := pg_m257) rfl (show px_Gi px_G0 257 8 = some (.astore_n 2, 1) by decide +kernel) rfl rfl rfl
theorem pc257_8n  : px_Wp sx 257 8 [l0, l1, l2] (.null :: S) h Q ↔ px_Wp sx 257 9 [l0, px_kill l1, some (.null)] S h Q := wp_st (M := pg_m257) rfl (show px_Gi px_G0 257 8 = some (.astore_n 2, 1) by decide +kernel) rfl rfl rfl
theorem pc257_9  : px_Wp sx 257 9 [l0, l1, l2] S h Q ↔ px_Wp sx 257 10 [l0, l1, l2] (.int 1 :: S) h Q := wp_st (M := pg_m257) rfl (show px_Gi px_G0 257 9 = some (.iconst 1, 1) by decide +kernel) rfl rfl rfl
theorem pc257_10 {x : Int32} : px_Wp sx 257 10 [l0, l1, l2] [.int x] h Q ↔ Q (.inl (some (.int x))) h := wp_ret (M := pg_m257) rfl (show px_Gi px_G0 257 10 = some (.ireturn, 1) by decide +kernel) rfl (show (if narrow .int (.int x) = .int x then some (some (Value.int x)) else none) = _ from if_pos rfl)
theorem pc257_11  : px_Wp sx 257 11 [l0, l1, l2] S h Q ↔ px_Wp sx 257 12 [l0, l1, l2] (.int 0 :: S) h Q := wp_st (M := pg_m257) rfl (show px_Gi px_G0 257 11 = some (.iconst 0, 1) by decide +kernel) rfl rfl rfl
theorem pc257_12 {x : Int32} : px_Wp sx 257 12 [l0, l1, l2] [.int x] h Q ↔ Q (.inl (some (.int x))) h := wp_ret (M := pg_m257) rfl (show px_Gi px_G0 257 12 = some (.ireturn, 1) by decide +kernel) rfl (show (if narrow .int (.int x) = .int x then some (some (Value.int x)) else none) = _ from if_pos rfl)
end C257
/-! 6: ImageYard.built(I)I -/
section C6
variable {sx : Nat × (Nat → Int32)} {l0 l1 : Option Value} {S : List Value} {h : px_H} {Q : px_O → px_H → Prop}
theorem pc6_0 {x : Int32} : px_Wp sx 6 0 [l0, some (.int x)] S h Q ↔ px_Wp sx 6 1 [l0, some (.int x)] (.int x :: S) h Q := wp_st (M := pg_m6) rfl (show px_Gi px_G0 6 0 = some (.iload_n 1, 1) by decide +kernel) rfl rfl rfl
theorem pc6_1 {x : Int32} : px_Wp sx 6 1 [l0, l1] (.int x :: S) h Q ↔ (if x = 0 then px_Wp sx 6 28 [l0, l1] S h Q else (if x = 1 then px_Wp sx 6 36 [l0, l1] S h Q else (if x = 2 then px_Wp sx 6 44 [l0, l1] S h Q else px_Wp sx 6 52 [l0, l1] S h Q))) := by
  by_cases h0 : x = 0
  · subst h0; simp only [if_true, if_pos rfl]; exact wp_st (M := pg_m6) rfl (show px_Gi px_G0 6 1 = some (.tableswitch 51 0 2 #[27, 35, 43], 27) by decide +kernel) rfl rfl rfl
  by_cases h1 : x = 1
  · subst h1; simp only [reduceIte, show ((1 : Int32) = 0) = False from by decide]; exact wp_st (M := pg_m6) rfl (show px_Gi px_G0 6 1 = some (.tableswitch 51 0 2 #[27, 35, 43], 27) by decide +kernel) rfl rfl rfl
  by_cases h2 : x = 2
  · subst h2; simp only [reduceIte, show ((2 : Int32) = 0) = False from by decide, show ((2 : Int32) = 1) = False from by decide]; exact wp_st (M := pg_m6) rfl (show px_Gi px_G0 6 1 = some (.tableswitch 51 0 2 #[27, 35, 43], 27) by decide +kernel) rfl rfl rfl
  rw [if_neg h0, if_neg h1, if_neg h2]
  refine wp_st (M := pg_m6) rfl (show px_Gi px_G0 6 1 = some (.tableswitch 51 0 2 #[27, 35, 43], 27) by decide +kernel) rfl rfl ?_
  have hout : x.toInt < 0 ∨ 2 < x.toInt := by
    refine Classical.byContradiction fun hq => ?_
    have hrg : 0 ≤ x.toInt ∧ x.toInt ≤ 2 := by omega
    have : x.toInt = 0 ∨ x.toInt = 1 ∨ x.toInt = 2 := by omega
    rcases this with q | q | q
    · exact h0 (Int32.toInt_inj.mp (by rw [q]; rfl))
    · exact h1 (Int32.toInt_inj.mp (by rw [q]; rfl))
    · exact h2 (Int32.toInt_inj.mp (by rw [q]; rfl))
  simp only [px_one, px_tsw]
  rw [if_pos hout, if_pos (by decide)]
  rfl
theorem pc6_28 {r : Nat} : px_Wp sx 6 28 [some (.ref r), l1] S h Q ↔ px_Wp sx 6 29 [some (.ref r), l1] (.ref r :: S) h Q := wp_st (M := pg_m6) rfl (show px_Gi px_G0 6 28 = some (.aload_n 0, 1) by decide +kernel) rfl rfl rfl
theorem pc6_28n  : px_Wp sx 6 28 [some (.null), l1] S h Q ↔ px_Wp sx 6 29 [some (.null), l1] (.null :: S) h Q := wp_st (M := pg_m6) rfl (show px_Gi px_G0 6 28 = some (.aload_n 0, 1) by decide +kernel) rfl rfl rfl
theorem pc6_29 {r : Nat} : px_Wp sx 6 29 [l0, l1] (.ref r :: S) h Q ↔ px_op (px_gf h r 0 3) (fun v => px_Wp sx 6 32 [l0, l1] (v :: S) h Q) := wp_gf (M := pg_m6) rfl (show px_Gi px_G0 6 29 = some (.getfield 35, 3) by decide +kernel) (show px_Gf px_G0 0 35 = some (0, 3, 3, true) by decide +kernel)
theorem pc6_32 {r : Nat} : px_Wp sx 6 32 [l0, l1] (.ref r :: S) h Q ↔ px_op (px_gf h r 10 1) (fun v => px_Wp sx 6 35 [l0, l1] (v :: S) h Q) := wp_gf (M := pg_m6) rfl (show px_Gi px_G0 6 32 = some (.getfield 106, 3) by decide +kernel) (show px_Gf px_G0 0 106 = some (10, 1, 0, false) by decide +kernel)
theorem pc6_35 {x : Int32} : px_Wp sx 6 35 [l0, l1] [.int x] h Q ↔ Q (.inl (some (.int x))) h := wp_ret (M := pg_m6) rfl (show px_Gi px_G0 6 35 = some (.ireturn, 1) by decide +kernel) rfl (show (if narrow .int (.int x) = .int x then some (some (Value.int x)) else none) = _ from if_pos rfl)
theorem pc6_36 {r : Nat} : px_Wp sx 6 36 [some (.ref r), l1] S h Q ↔ px_Wp sx 6 37 [some (.ref r), l1] (.ref r :: S) h Q := wp_st (M := pg_m6) rfl (show px_Gi px_G0 6 36 = some (.aload_n 0, 1) by decide +kernel) rfl rfl rfl
theorem pc6_36n  : px_Wp sx 6 36 [some (.null), l1] S h Q ↔ px_Wp sx 6 37 [some (.null), l1] (.null :: S) h Q := wp_st (M := pg_m6) rfl (show px_Gi px_G0 6 36 = some (.aload_n 0, 1) by decide +kernel) rfl rfl rfl
theorem pc6_37 {r : Nat} : px_Wp sx 6 37 [l0, l1] (.ref r :: S) h Q ↔ px_op (px_gf h r 0 3) (fun v => px_Wp sx 6 40 [l0, l1] (v :: S) h Q) := wp_gf (M := pg_m6) rfl (show px_Gi px_G0 6 37 = some (.getfield 35, 3) by decide +kernel) (show px_Gf px_G0 0 35 = some (0, 3, 3, true) by decide +kernel)
theorem pc6_40 {r : Nat} : px_Wp sx 6 40 [l0, l1] (.ref r :: S) h Q ↔ px_op (px_gf h r 10 2) (fun v => px_Wp sx 6 43 [l0, l1] (v :: S) h Q) := wp_gf (M := pg_m6) rfl (show px_Gi px_G0 6 40 = some (.getfield 109, 3) by decide +kernel) (show px_Gf px_G0 0 109 = some (10, 2, 0, false) by decide +kernel)
theorem pc6_43 {x : Int32} : px_Wp sx 6 43 [l0, l1] [.int x] h Q ↔ Q (.inl (some (.int x))) h := wp_ret (M := pg_m6) rfl (show px_Gi px_G0 6 43 = some (.ireturn, 1) by decide +kernel) rfl (show (if narrow .int (.int x) = .int x then some (some (Value.int x)) else none) = _ from if_pos rfl)
theorem pc6_44 {r : Nat} : px_Wp sx 6 44 [some (.ref r), l1] S h Q ↔ px_Wp sx 6 45 [some (.ref r), l1] (.ref r :: S) h Q := wp_st (M := pg_m6) rfl (show px_Gi px_G0 6 44 = some (.aload_n 0, 1) by decide +kernel) rfl rfl rfl
theorem pc6_44n  : px_Wp sx 6 44 [some (.null), l1] S h Q ↔ px_Wp sx 6 45 [some (.null), l1] (.null :: S) h Q := wp_st (M := pg_m6) rfl (show px_Gi px_G0 6 44 = some (.aload_n 0, 1) by decide +kernel) rfl rfl rfl
theorem pc6_45 {r : Nat} : px_Wp sx 6 45 [l0, l1] (.ref r :: S) h Q ↔ px_op (px_gf h r 0 3) (fun v => px_Wp sx 6 48 [l0, l1] (v :: S) h Q) := wp_gf (M := pg_m6) rfl (show px_Gi px_G0 6 45 = some (.getfield 35, 3) by decide +kernel) (show px_Gf px_G0 0 35 = some (0, 3, 3, true) by decide +kernel)
theorem pc6_48 {r : Nat} : px_Wp sx 6 48 [l0, l1] (.ref r :: S) h Q ↔ px_op (px_gf h r 10 3) (fun v => px_Wp sx 6 51 [l0, l1] (v :: S) h Q) := wp_gf (M := pg_m6) rfl (show px_Gi px_G0 6 48 = some (.getfield 112, 3) by decide +kernel) (show px_Gf px_G0 0 112 = some (10, 3, 0, false) by decide +kernel)
theorem pc6_51 {x : Int32} : px_Wp sx 6 51 [l0, l1] [.int x] h Q ↔ Q (.inl (some (.int x))) h := wp_ret (M := pg_m6) rfl (show px_Gi px_G0 6 51 = some (.ireturn, 1) by decide +kernel) rfl (show (if narrow .int (.int x) = .int x then some (some (Value.int x)) else none) = _ from if_pos rfl)
theorem pc6_52  : px_Wp sx 6 52 [l0, l1] [] h Q ↔ (h.2.length + 1 ≤ px_CT ∧ h.1 + 6 ≤ px_ST) ∧ Q (.inr h.2.length) (px_al h 6 (.inl (12, []))) := wp_th (ic := 62) (M := pg_m6) rfl (show px_Gi px_G0 6 52 = some (.new 60, 3) by decide +kernel) (show px_Gk px_G0 0 60 = some 12 by decide +kernel) (show px_Gi px_G0 6 55 = some (.dup, 1) by decide +kernel) (show px_Gi px_G0 6 56 = some (.invokespecial 62, 3) by decide +kernel) (show px_Gi px_G0 6 59 = some (.athrow, 1) by decide +kernel) ⟨by decide, by decide +kernel, rfl, by decide, by decide⟩
theorem pc6_55 {x : Int32} : px_Wp sx 6 55 [l0, l1] (.int x :: S) h Q ↔ px_Wp sx 6 56 [l0, l1] (.int x :: .int x :: S) h Q := wp_st (M := pg_m6) rfl (show px_Gi px_G0 6 55 = some (.dup, 1) by decide +kernel) rfl rfl rfl
theorem pc6_55r {r : Nat} : px_Wp sx 6 55 [l0, l1] (.ref r :: S) h Q ↔ px_Wp sx 6 56 [l0, l1] (.ref r :: .ref r :: S) h Q := wp_st (M := pg_m6) rfl (show px_Gi px_G0 6 55 = some (.dup, 1) by decide +kernel) rfl rfl rfl
end C6
