/-! THE LAW'S CASES, all of them -/
set_option maxRecDepth 16384 in
theorem ite_both {c A B : Prop} [Decidable c] (a : A) (b : B) : if c then A else B := by
  by_cases h : c
  · rw [if_pos h]; exact a
  · rw [if_neg h]; exact b
set_option maxRecDepth 16384 in
theorem law_case {sx : Nat × (Nat → Int32)} {i : Nat} {a b c : Option Value} {h : px_H} {Q : px_O → px_H → Prop} (hL : sx.1 ≤ 3072) (hi : i + 6 ≤ sx.1)
    (hc : ∀ pc, pc ∈ [140, 196, 232, 300, 356, 423, 483, 531, 611, 690, 794, 894, 1006, 1074, 1142, 1178, 1258, 1314, 1394, 1450, 1514, 1582] → px_Wp sx 277 pc (lawL (nI i) a b c) [] h Q) :
    px_Wp sx 277 33 (lawL (nI i) a b c) [] h Q := by
  have hj : px_in (nI i) sx.1 = true := px_inb (by omega) (by omega)
  unfold lawL at hc ⊢
  simp only [pc277_33, pc277_33n, pc277_33s, pc277_34, pc277_36, pc277_37, pc277_39, pc277_40, hj, true_and]
  exact ite_both (hc 140 (by decide)) (ite_both (hc 196 (by decide)) (ite_both (hc 232 (by decide)) (ite_both (hc 300 (by decide)) (ite_both (hc 356 (by decide)) (ite_both (hc 423 (by decide)) (ite_both (hc 483 (by decide)) (ite_both (hc 531 (by decide)) (ite_both (hc 611 (by decide)) (ite_both (hc 690 (by decide)) (ite_both (hc 794 (by decide)) (ite_both (hc 894 (by decide)) (ite_both (hc 1006 (by decide)) (ite_both (hc 1074 (by decide)) (ite_both (hc 1142 (by decide)) (ite_both (hc 1178 (by decide)) (ite_both (hc 1258 (by decide)) (ite_both (hc 1314 (by decide)) (ite_both (hc 1394 (by decide)) (ite_both (hc 1450 (by decide)) (ite_both (hc 1514 (by decide)) (hc 1582 (by decide))))))))))))))))))))))
