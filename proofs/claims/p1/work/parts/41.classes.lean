/-! THE TABLES' CHECKS -/
def px_okw (w : Jvm.Cond) : Bool := (w.onTables && (w.keeps || w.faceAtom)) || (match w with
  | .arrayClass _ => true
  | _ => false)
def px_Ts : List Jvm.Cond := lw_tbl.filter px_okw
theorem px_TsOk0 : px_TsOk px_Ts := by
  intro w hw args a' s U hW hb
  have h := (List.mem_filter.mp hw).2
  unfold px_okw at h
  rw [Bool.or_eq_true] at h
  rcases h with h | h
  · rw [Bool.and_eq_true, Bool.or_eq_true] at h
    rcases h.2 with h2 | h2
    · exact word_at hW (Or.inl (by rw [h.1, h2]; rfl)) hb
    · have h3 := Cond.faceAtom_setVm hW.alike w h2 hb
      have h4 := Cond.onTables_vm (A := args) (A' := a') (U := s) (U' := U) U.vm w h.1
      rw [h4, State.setVm_self] at h3
      exact h3
  · cases w <;> first | (cases h; done) | exact word_at hW (Or.inr ⟨_, rfl⟩) hb
def px_chk (i : Nat) (w : Jvm.Cond) : Bool := decide (lw_tbl[i]? = some w) && px_okw w
theorem px_chk_mem {i : Nat} {w : Jvm.Cond} (h : px_chk i w = true) : w ∈ px_Ts := by
  unfold px_chk at h
  rw [Bool.and_eq_true] at h
  exact List.mem_filter.mpr ⟨List.mem_of_getElem? (of_decide_eq_true h.1), h.2⟩
def px_on (own : Nat) : String := if own = 20 then "ImageYardLaw" else ((px_cl[own]?).elim "" (fun q => q.1))
/-- classes: places of the fields' words, of 'instantiable', of 'initialized' -/
def px_cps : List (List Nat × Nat × Nat) := [([508, 510, 512, 514, 516, 518, 520], 141, 114), ([173, 175], 156, 116), ([382, 384, 386, 388, 390, 392], 352, 122), ([402, 404], 345, 121), ([416], 408, 123), ([314, 316], 302, 120), ([333, 335, 337, 339], 295, 119), ([208, 210, 212, 214, 216, 218, 220, 222, 224, 226, 228, 230], 150, 115), ([263, 265, 267, 269, 271, 273, 275, 277, 279, 281, 283], 238, 117), ([433, 435, 437, 439], 420, 124), ([462, 464, 466, 468, 470, 472, 474, 476, 478, 480, 482, 484, 486, 488, 490, 492], 289, 118), ([1441, 1443, 1445, 1447, 1449, 1451, 1453, 1455, 1457, 1459, 1461, 1463, 1465, 1467, 1469, 1471, 1473, 1475, 1477, 1479, 1481, 1483, 1485, 1487, 1489, 1491, 1493, 1495, 1497, 1499, 1501, 1503, 1505, 1507, 1509, 1511, 1513, 1515, 1517, 1519, 1521, 1523, 1525, 1527, 1529, 1531, 1533, 1535, 1537, 1539, 1541, 1543, 1545, 1547, 1549, 1551, 1553, 1555, 1557, 1559, 1561, 1563], 1370, 125), ([], 533, 129), ([], 1134, 137), ([], 1178, 138), ([], 1313, 139), ([], 602, 130)]
def px_nodup : List String → Bool
  | [] => true
  | a :: l => (l.all fun b => decide (a ≠ b)) && px_nodup l
def px_chkC (c : Nat) (q : vw_C) (ps : List Nat × Nat × Nat) : Bool :=
  ((List.range q.2.2).all fun k => px_chk (ps.1.getD k 0) (u_lay q.1 q.2.1 k) && (parseFieldDescriptor (q.2.1 k).2.2.1).isSome && decide ((q.2.1 k).1 = q.1)) &&
  px_nodup ((List.range q.2.2).map fun k => (q.2.1 k).2.1) &&
  (decide (px_NC ≤ c) || (px_chk ps.2.1 (.instantiable q.1 q.2.2) && px_chk ps.2.2 (.initialized q.1) && decide ((px_Gd px_G0 c).length = q.2.2) && ((px_Gd px_G0 c).all fun v => decide (v = .int 0 ∨ v = .long 0 ∨ v = .null)) &&
    (List.range q.2.2).all fun j => decide (defaultValue ((parseFieldDescriptor (q.2.1 j).2.2.1).getD .int) = vp_V (px_Gd px_G0 c) j)))
theorem px_C0 : px_chkC 0 ("ImageYard", pg_T0, 7) ([508, 510, 512, 514, 516, 518, 520], 141, 114) = true := by decide +kernel
theorem px_C1 : px_chkC 1 ("ImageYard$Row", pg_T1, 2) ([173, 175], 156, 116) = true := by decide +kernel
theorem px_C2 : px_chkC 2 ("ImageYard$Entry", pg_T2, 6) ([382, 384, 386, 388, 390, 392], 352, 122) = true := by decide +kernel
theorem px_C3 : px_chkC 3 ("ImageYard$Tree", pg_T3, 2) ([402, 404], 345, 121) = true := by decide +kernel
theorem px_C4 : px_chkC 4 ("ImageYard$Changes", pg_T4, 1) ([416], 408, 123) = true := by decide +kernel
theorem px_C5 : px_chkC 5 ("ImageYard$Setting", pg_T5, 2) ([314, 316], 302, 120) = true := by decide +kernel
theorem px_C6 : px_chkC 6 ("ImageYard$Image", pg_T6, 4) ([333, 335, 337, 339], 295, 119) = true := by decide +kernel
theorem px_C7 : px_chkC 7 ("ImageYard$Yard", pg_T7, 12) ([208, 210, 212, 214, 216, 218, 220, 222, 224, 226, 228, 230], 150, 115) = true := by decide +kernel
theorem px_C8 : px_chkC 8 ("ImageYard$Transfer", pg_T8, 11) ([263, 265, 267, 269, 271, 273, 275, 277, 279, 281, 283], 238, 117) = true := by decide +kernel
theorem px_C9 : px_chkC 9 ("ImageYard$Shell", pg_T9, 4) ([433, 435, 437, 439], 420, 124) = true := by decide +kernel
theorem px_C10 : px_chkC 10 ("ImageYard$Builder", pg_T10, 16) ([462, 464, 466, 468, 470, 472, 474, 476, 478, 480, 482, 484, 486, 488, 490, 492], 289, 118) = true := by decide +kernel
theorem px_C11 : px_chkC 11 ("ImageYardModel", pg_T11, 62) ([1441, 1443, 1445, 1447, 1449, 1451, 1453, 1455, 1457, 1459, 1461, 1463, 1465, 1467, 1469, 1471, 1473, 1475, 1477, 1479, 1481, 1483, 1485, 1487, 1489, 1491, 1493, 1495, 1497, 1499, 1501, 1503, 1505, 1507, 1509, 1511, 1513, 1515, 1517, 1519, 1521, 1523, 1525, 1527, 1529, 1531, 1533, 1535, 1537, 1539, 1541, 1543, 1545, 1547, 1549, 1551, 1553, 1555, 1557, 1559, 1561, 1563], 1370, 125) = true := by decide +kernel
theorem px_C12 : px_chkC 12 ("java/lang/IllegalArgumentException", pg_T12, 0) ([], 533, 129) = true := by decide +kernel
theorem px_C13 : px_chkC 13 ("java/util/NoSuchElementException", pg_T13, 0) ([], 1134, 137) = true := by decide +kernel
theorem px_C14 : px_chkC 14 ("java/lang/IndexOutOfBoundsException", pg_T14, 0) ([], 1178, 138) = true := by decide +kernel
theorem px_C15 : px_chkC 15 ("java/lang/IllegalStateException", pg_T15, 0) ([], 1313, 139) = true := by decide +kernel
theorem px_C16 : px_chkC 16 ("java/lang/UnsupportedOperationException", pg_T16, 0) ([], 602, 130) = true := by decide +kernel
theorem px_nodup_ne : ∀ (l : List String), px_nodup l = true → ∀ (i j : Nat) (a b : String), l[i]? = some a → l[j]? = some b → i ≠ j → a ≠ b
  | [], _, i, j, a, b, h1, _, _ => by simp at h1
  | x :: l, hn, i, j, a, b, h1, h2, hne => by
    unfold px_nodup at hn
    rw [Bool.and_eq_true, List.all_eq_true] at hn
    rcases i with _ | i <;> rcases j with _ | j
    · exact absurd rfl hne
    · simp at h1 h2
      subst h1
      exact of_decide_eq_true (hn.1 b (List.mem_of_getElem? h2))
    · simp at h1 h2
      subst h2
      exact fun q => of_decide_eq_true (hn.1 a (List.mem_of_getElem? h1)) q.symm
    · exact px_nodup_ne l hn.2 i j a b (by simpa using h1) (by simpa using h2) (by omega)
theorem px_C_of {c : Nat} {q : vw_C} {ps : List Nat × Nat × Nat} (h : px_chkC c q ps = true) :
    (∀ w ∈ u_ws q.1 q.2.1 q.2.2, w ∈ px_Ts) ∧ (∀ k, k < q.2.2 → parseFieldDescriptor (q.2.1 k).2.2.1 = some ((parseFieldDescriptor (q.2.1 k).2.2.1).getD .int) ∧ (q.2.1 k).1 = q.1) ∧
    (∀ a, a < q.2.2 → ∀ b, b < q.2.2 → a ≠ b → (q.2.1 a).2.1 ≠ (q.2.1 b).2.1) ∧
    (c < px_NC → Jvm.Cond.instantiable q.1 q.2.2 ∈ px_Ts ∧ Jvm.Cond.initialized q.1 ∈ px_Ts ∧ (px_Gd px_G0 c).length = q.2.2 ∧ (∀ v ∈ px_Gd px_G0 c, v = .int 0 ∨ v = .long 0 ∨ v = .null) ∧
      ∀ j, j < q.2.2 → defaultValue ((parseFieldDescriptor (q.2.1 j).2.2.1).getD .int) = vp_V (px_Gd px_G0 c) j) := by
  unfold px_chkC at h
  simp only [Bool.and_eq_true, List.all_eq_true, List.mem_range, Bool.or_eq_true, decide_eq_true_eq] at h
  obtain ⟨⟨h1, h2⟩, h3⟩ := h
  refine ⟨fun w hw => ?_, fun k hk => ⟨?_, (h1 k hk).2⟩, fun a ha b hb hab => ?_, fun hc => ?_⟩
  · obtain ⟨k, hk, rfl⟩ := List.mem_map.mp hw
    exact px_chk_mem (h1 k (List.mem_range.mp hk)).1.1
  · have := (h1 k hk).1.2
    cases hp : parseFieldDescriptor (q.2.1 k).2.2.1 with
    | none => rw [hp] at this; cases this
    | some ty => rfl
  · exact px_nodup_ne _ h2 a b _ _ (by simp [ha]) (by simp [hb]) hab
  · rcases h3 with h3 | h3
    · omega
    · exact ⟨px_chk_mem h3.1.1.1.1, px_chk_mem h3.1.1.1.2, h3.1.1.2, h3.1.2, h3.2⟩
theorem px_GoodC0 : px_GoodC px_G0 px_cl px_Ts := by
  intro c q hq
  have hc : c < 17 := (List.getElem?_eq_some_iff.mp hq).1
  rcases c with _ | _ | _ | _ | _ | _ | _ | _ | _ | _ | _ | _ | _ | _ | _ | _ | _ | c
  · cases hq; exact px_C_of px_C0
  · cases hq; exact px_C_of px_C1
  · cases hq; exact px_C_of px_C2
  · cases hq; exact px_C_of px_C3
  · cases hq; exact px_C_of px_C4
  · cases hq; exact px_C_of px_C5
  · cases hq; exact px_C_of px_C6
  · cases hq; exact px_C_of px_C7
  · cases hq; exact px_C_of px_C8
  · cases hq; exact px_C_of px_C9
  · cases hq; exact px_C_of px_C10
  · cases hq; exact px_C_of px_C11
  · cases hq; exact px_C_of px_C12
  · cases hq; exact px_C_of px_C13
  · cases hq; exact px_C_of px_C14
  · cases hq; exact px_C_of px_C15
  · cases hq; exact px_C_of px_C16
  · omega
