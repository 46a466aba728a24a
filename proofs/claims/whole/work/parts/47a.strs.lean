/-! THE STRING CONSTANTS AT THE LAW'S START -/
def px_sc (b : Nat) (ad : Nat → Nat) : Nat → Nat
  | 0 => b
  | i + 1 => ad i
def px_tm (i : Nat) : Term := match px_txt[i]? with
  | some q => .string q.1 q.2.1
  | none => .string "" 0
def px_fl : List Jvm.Cond := flatC (Jvm.Cond.and given_1 narrow_1)
def px_fh (a : Jvm.Cond) : Bool := px_fl.any fun w => decide (w = a)
theorem px_fh_mem {a : Jvm.Cond} (h : px_fh a = true) : a ∈ px_fl := by
  unfold px_fh at h
  rw [List.any_eq_true] at h
  obtain ⟨w, hw, he⟩ := h
  rw [← of_decide_eq_true he]
  exact hw
theorem px_T0 : ((List.range 11).all fun i => px_fh (.exactly (px_tm i) "java/lang/String") && px_fh (.eq (.field (px_tm i) "java/lang/String" "coder" "B") (.int 0)) && px_fh (.arrayOf (.field (px_tm i) "java/lang/String" "value" "[B") .byte) && px_fh (.eq (.length (.field (px_tm i) "java/lang/String" "value" "[B")) (.int (Int32.ofNat (px_sl.getD i 0))))) = true := by decide +kernel
theorem px_T1 : ((List.range 11).all fun i => (List.range (px_sl.getD i 0)).all fun j => px_fh (.eq (.elem (.field (px_tm i) "java/lang/String" "value" "[B") (.int (Int32.ofNat j))) (.int ((px_sb.getD i []).getD j 0)))) = true := by decide +kernel
def px_t2 (i : Nat) : Bool := (List.range 11).all fun j => decide (j ≤ i) || px_fh (.not (.eq (px_tm i) (px_tm j)))
theorem px_T2_0 : px_t2 0 = true := by decide +kernel
theorem px_T2_1 : px_t2 1 = true := by decide +kernel
theorem px_T2_2 : px_t2 2 = true := by decide +kernel
theorem px_T2_3 : px_t2 3 = true := by decide +kernel
theorem px_T2_4 : px_t2 4 = true := by decide +kernel
theorem px_T2_5 : px_t2 5 = true := by decide +kernel
theorem px_T2_6 : px_t2 6 = true := by decide +kernel
theorem px_T2_7 : px_t2 7 = true := by decide +kernel
theorem px_T2_8 : px_t2 8 = true := by decide +kernel
theorem px_T2_9 : px_t2 9 = true := by decide +kernel
theorem px_T2 {i j : Nat} (hij : i < j) (hj : j < 11) : px_fh (.not (.eq (px_tm i) (px_tm j))) = true := by
  have h : px_t2 i = true := by
    have : i = 0 ∨ i = 1 ∨ i = 2 ∨ i = 3 ∨ i = 4 ∨ i = 5 ∨ i = 6 ∨ i = 7 ∨ i = 8 ∨ i = 9 := by omega
    rcases this with rfl | rfl | rfl | rfl | rfl | rfl | rfl | rfl | rfl | rfl
    · exact px_T2_0
    · exact px_T2_1
    · exact px_T2_2
    · exact px_T2_3
    · exact px_T2_4
    · exact px_T2_5
    · exact px_T2_6
    · exact px_T2_7
    · exact px_T2_8
    · exact px_T2_9
  have h1 := List.all_eq_true.mp h j (List.mem_range.mpr hj)
  rw [Bool.or_eq_true] at h1
  rcases h1 with h1 | h1
  · have := of_decide_eq_true h1; omega
  · exact h1
theorem px_T3 : (px_txt.all fun q => lw_tbl.any fun w => decide (w = .stringRef q.1 q.2.1 q.2.2)) = true := by decide +kernel
theorem px_T4 : (lw_tbl.any fun w => decide (w = .laysStatic "java/lang/String" "COMPACT_STRINGS" "Z")) = true ∧ (lw_tbl.any fun w => decide (w = .laysStatic "jdk/internal/util/Preconditions" "SIOOBE_FORMATTER" "Ljava/util/function/BiFunction;")) = true ∧ (lw_tbl.any fun w => decide (w = .initialized "java/lang/String")) = true ∧ (lw_tbl.any fun w => decide (w = .initialized "jdk/internal/util/Preconditions")) = true := by decide +kernel
theorem px_T5 : px_fh (.eq (.static "java/lang/String" "COMPACT_STRINGS" "Z") (.int 1)) = true ∧ px_fh (.isRef (.static "jdk/internal/util/Preconditions" "SIOOBE_FORMATTER" "Ljava/util/function/BiFunction;")) = true := by decide +kernel
theorem px_inL {l : List Jvm.Cond} {a : Jvm.Cond} (h : (l.any fun w => decide (w = a)) = true) : a ∈ l := by
  rw [List.any_eq_true] at h
  obtain ⟨w, hw, he⟩ := h
  rw [← of_decide_eq_true he]
  exact hw
theorem px_StrAt {s : State} {args : Array Value} (b : Nat) (hts0 : ∀ w ∈ lw_tbl, w.before args s = true) (hfl : ∀ w ∈ flatC (Jvm.Cond.and given_1 narrow_1), w.before args s = true) : ∃ ad : Nat → Nat, px_Str s.heap.size (px_sc b ad) s := by
  have hno : ∀ a : Nat, a < s.heap.size → ¬ s.heap.size ≤ a := fun a h => by omega
  have t0 : ∀ i, i < 11 → px_fh (.exactly (px_tm i) "java/lang/String") = true ∧ px_fh (.eq (.field (px_tm i) "java/lang/String" "coder" "B") (.int 0)) = true ∧ px_fh (.arrayOf (.field (px_tm i) "java/lang/String" "value" "[B") .byte) = true ∧ px_fh (.eq (.length (.field (px_tm i) "java/lang/String" "value" "[B")) (.int (Int32.ofNat (px_sl.getD i 0)))) = true := by
    intro i hi
    have h := List.all_eq_true.mp px_T0 i (List.mem_range.mpr hi)
    simp only [Bool.and_eq_true] at h
    exact ⟨h.1.1.1, h.1.1.2, h.1.2, h.2⟩
  obtain ⟨adK, adV, hS, hev⟩ := vk_Sof (args := args) (s := s) (N := 11) (tm := px_tm) (len := px_sl) (byt := px_sb) (A := fun q => s.heap.size ≤ q) (fun i hi => Nat.lt_trans (px_sl_ok i hi).1 (by decide))
    (fun i hi => hfl _ (px_fh_mem (t0 i hi).1)) (fun i hi => hfl _ (px_fh_mem (t0 i hi).2.1)) (fun i hi => hfl _ (px_fh_mem (t0 i hi).2.2.1)) (fun i hi => hfl _ (px_fh_mem (t0 i hi).2.2.2))
    (fun i hi j hj => hfl _ (px_fh_mem (List.all_eq_true.mp (List.all_eq_true.mp px_T1 i (List.mem_range.mpr hi)) j (List.mem_range.mpr hj))))
    (fun i j hi hj hij => by
      rcases Nat.lt_or_gt_of_ne hij with h | h
      · exact Or.inl (hfl _ (px_fh_mem (px_T2 h hj)))
      · exact Or.inr (hfl _ (px_fh_mem (px_T2 h hi)))) hno
  refine ⟨adK, ⟨adV, hS⟩, ⟨?_, ?_⟩, fun i q hq => ?_⟩
  · exact va_Zof (hts0 _ (px_inL px_T4.1)) (hts0 _ (px_inL px_T4.2.2.1)) (va_eqi (hfl _ (px_fh_mem px_T5.1))) hno
  · exact va_Zqof (hts0 _ (px_inL px_T4.2.1)) (hts0 _ (px_inL px_T4.2.2.2)) (hfl _ (px_fh_mem px_T5.2)) hno
  · have hi : i < 11 := (List.getElem?_eq_some_iff.mp hq).1
    have h1 := List.all_eq_true.mp px_T3 q (List.mem_of_getElem? hq)
    have h2 := hev i hi
    unfold px_tm at h2
    rw [hq] at h2
    exact vk_R.of (hts0 _ (px_inL h1)) h2
