/-! CELLS: what stands in a heap behind writes; the reference's object -/
set_option maxRecDepth 16384 in
theorem wr_at (h : px_H) (r r' : Nat) (x : px_C) : (px_wr h r x).2[r']? = if r = r' then (if r < h.2.length then some x else none) else h.2[r']? := by
  by_cases e : r = r'
  · subst e
    rw [if_pos rfl]
    by_cases hl : r < h.2.length
    · rw [if_pos hl]; exact px_wr_same (List.getElem?_eq_getElem hl)
    · rw [if_neg hl]; exact List.getElem?_eq_none (by rw [px_wr_len]; omega)
  · rw [if_neg e]; exact px_wr_get e
set_option maxRecDepth 16384 in
theorem al_at (h : px_H) (w r : Nat) (x : px_C) : (px_al h w x).2[r]? = if r < h.2.length then h.2[r]? else if r = h.2.length then some x else none := by
  by_cases hl : r < h.2.length
  · rw [if_pos hl]; exact List.getElem?_append_left hl
  · rw [if_neg hl]
    by_cases e : r = h.2.length
    · subst e; rw [if_pos rfl]; exact px_al_new
    · rw [if_neg e]; exact List.getElem?_eq_none (by rw [px_al_len]; omega)
/-- the reference's object, its ints by field number -/
def modF (v : Nat → Int32) : List Value := [.int (v 0), .ref 620, .int (v 2), .ref 621, .ref 622, .ref 623, .ref 624, .ref 625, .ref 626, .ref 627, .ref 628, .ref 629, .ref 630, .ref 631, .ref 632, .ref 633, .ref 634, .int (v 17), .ref 635, .ref 636, .int (v 20), .ref 637, .ref 638, .ref 639, .ref 640, .ref 641, .int (v 26), .ref 642, .ref 643, .ref 644, .ref 645, .ref 646, .int (v 32), .ref 647, .int (v 34), .ref 648, .int (v 36), .ref 649, .int (v 38), .ref 650, .ref 651, .ref 652, .ref 653, .int (v 43), .int (v 44), .int (v 45), .int (v 46), .int (v 47), .ref 654, .ref 655, .ref 656, .ref 657, .ref 658, .ref 659, .ref 660, .ref 661, .ref 662, .ref 663, .ref 664, .ref 665, .ref 666, .ref 667]
set_option maxRecDepth 16384 in
theorem mf_len (v : Nat → Int32) : (modF v).length = 62 := rfl
set_option maxRecDepth 16384 in
theorem mf_0 (v : Nat → Int32) : (modF v)[0]? = some (.int (v 0)) := rfl
set_option maxRecDepth 16384 in
theorem mf_1 (v : Nat → Int32) : (modF v)[1]? = some (.ref 620) := rfl
set_option maxRecDepth 16384 in
theorem mf_2 (v : Nat → Int32) : (modF v)[2]? = some (.int (v 2)) := rfl
set_option maxRecDepth 16384 in
theorem mf_3 (v : Nat → Int32) : (modF v)[3]? = some (.ref 621) := rfl
set_option maxRecDepth 16384 in
theorem mf_4 (v : Nat → Int32) : (modF v)[4]? = some (.ref 622) := rfl
set_option maxRecDepth 16384 in
theorem mf_5 (v : Nat → Int32) : (modF v)[5]? = some (.ref 623) := rfl
set_option maxRecDepth 16384 in
theorem mf_6 (v : Nat → Int32) : (modF v)[6]? = some (.ref 624) := rfl
set_option maxRecDepth 16384 in
theorem mf_7 (v : Nat → Int32) : (modF v)[7]? = some (.ref 625) := rfl
set_option maxRecDepth 16384 in
theorem mf_8 (v : Nat → Int32) : (modF v)[8]? = some (.ref 626) := rfl
set_option maxRecDepth 16384 in
theorem mf_9 (v : Nat → Int32) : (modF v)[9]? = some (.ref 627) := rfl
set_option maxRecDepth 16384 in
theorem mf_10 (v : Nat → Int32) : (modF v)[10]? = some (.ref 628) := rfl
set_option maxRecDepth 16384 in
theorem mf_11 (v : Nat → Int32) : (modF v)[11]? = some (.ref 629) := rfl
set_option maxRecDepth 16384 in
theorem mf_12 (v : Nat → Int32) : (modF v)[12]? = some (.ref 630) := rfl
set_option maxRecDepth 16384 in
theorem mf_13 (v : Nat → Int32) : (modF v)[13]? = some (.ref 631) := rfl
set_option maxRecDepth 16384 in
theorem mf_14 (v : Nat → Int32) : (modF v)[14]? = some (.ref 632) := rfl
set_option maxRecDepth 16384 in
theorem mf_15 (v : Nat → Int32) : (modF v)[15]? = some (.ref 633) := rfl
set_option maxRecDepth 16384 in
theorem mf_16 (v : Nat → Int32) : (modF v)[16]? = some (.ref 634) := rfl
set_option maxRecDepth 16384 in
theorem mf_17 (v : Nat → Int32) : (modF v)[17]? = some (.int (v 17)) := rfl
set_option maxRecDepth 16384 in
theorem mf_18 (v : Nat → Int32) : (modF v)[18]? = some (.ref 635) := rfl
set_option maxRecDepth 16384 in
theorem mf_19 (v : Nat → Int32) : (modF v)[19]? = some (.ref 636) := rfl
set_option maxRecDepth 16384 in
theorem mf_20 (v : Nat → Int32) : (modF v)[20]? = some (.int (v 20)) := rfl
set_option maxRecDepth 16384 in
theorem mf_21 (v : Nat → Int32) : (modF v)[21]? = some (.ref 637) := rfl
set_option maxRecDepth 16384 in
theorem mf_22 (v : Nat → Int32) : (modF v)[22]? = some (.ref 638) := rfl
set_option maxRecDepth 16384 in
theorem mf_23 (v : Nat → Int32) : (modF v)[23]? = some (.ref 639) := rfl
set_option maxRecDepth 16384 in
theorem mf_24 (v : Nat → Int32) : (modF v)[24]? = some (.ref 640) := rfl
set_option maxRecDepth 16384 in
theorem mf_25 (v : Nat → Int32) : (modF v)[25]? = some (.ref 641) := rfl
set_option maxRecDepth 16384 in
theorem mf_26 (v : Nat → Int32) : (modF v)[26]? = some (.int (v 26)) := rfl
set_option maxRecDepth 16384 in
theorem mf_27 (v : Nat → Int32) : (modF v)[27]? = some (.ref 642) := rfl
set_option maxRecDepth 16384 in
theorem mf_28 (v : Nat → Int32) : (modF v)[28]? = some (.ref 643) := rfl
set_option maxRecDepth 16384 in
theorem mf_29 (v : Nat → Int32) : (modF v)[29]? = some (.ref 644) := rfl
set_option maxRecDepth 16384 in
theorem mf_30 (v : Nat → Int32) : (modF v)[30]? = some (.ref 645) := rfl
set_option maxRecDepth 16384 in
theorem mf_31 (v : Nat → Int32) : (modF v)[31]? = some (.ref 646) := rfl
set_option maxRecDepth 16384 in
theorem mf_32 (v : Nat → Int32) : (modF v)[32]? = some (.int (v 32)) := rfl
set_option maxRecDepth 16384 in
theorem mf_33 (v : Nat → Int32) : (modF v)[33]? = some (.ref 647) := rfl
set_option maxRecDepth 16384 in
theorem mf_34 (v : Nat → Int32) : (modF v)[34]? = some (.int (v 34)) := rfl
set_option maxRecDepth 16384 in
theorem mf_35 (v : Nat → Int32) : (modF v)[35]? = some (.ref 648) := rfl
set_option maxRecDepth 16384 in
theorem mf_36 (v : Nat → Int32) : (modF v)[36]? = some (.int (v 36)) := rfl
set_option maxRecDepth 16384 in
theorem mf_37 (v : Nat → Int32) : (modF v)[37]? = some (.ref 649) := rfl
set_option maxRecDepth 16384 in
theorem mf_38 (v : Nat → Int32) : (modF v)[38]? = some (.int (v 38)) := rfl
set_option maxRecDepth 16384 in
theorem mf_39 (v : Nat → Int32) : (modF v)[39]? = some (.ref 650) := rfl
set_option maxRecDepth 16384 in
theorem mf_40 (v : Nat → Int32) : (modF v)[40]? = some (.ref 651) := rfl
set_option maxRecDepth 16384 in
theorem mf_41 (v : Nat → Int32) : (modF v)[41]? = some (.ref 652) := rfl
set_option maxRecDepth 16384 in
theorem mf_42 (v : Nat → Int32) : (modF v)[42]? = some (.ref 653) := rfl
set_option maxRecDepth 16384 in
theorem mf_43 (v : Nat → Int32) : (modF v)[43]? = some (.int (v 43)) := rfl
set_option maxRecDepth 16384 in
theorem mf_44 (v : Nat → Int32) : (modF v)[44]? = some (.int (v 44)) := rfl
set_option maxRecDepth 16384 in
theorem mf_45 (v : Nat → Int32) : (modF v)[45]? = some (.int (v 45)) := rfl
set_option maxRecDepth 16384 in
theorem mf_46 (v : Nat → Int32) : (modF v)[46]? = some (.int (v 46)) := rfl
set_option maxRecDepth 16384 in
theorem mf_47 (v : Nat → Int32) : (modF v)[47]? = some (.int (v 47)) := rfl
set_option maxRecDepth 16384 in
theorem mf_48 (v : Nat → Int32) : (modF v)[48]? = some (.ref 654) := rfl
set_option maxRecDepth 16384 in
theorem mf_49 (v : Nat → Int32) : (modF v)[49]? = some (.ref 655) := rfl
set_option maxRecDepth 16384 in
theorem mf_50 (v : Nat → Int32) : (modF v)[50]? = some (.ref 656) := rfl
set_option maxRecDepth 16384 in
theorem mf_51 (v : Nat → Int32) : (modF v)[51]? = some (.ref 657) := rfl
set_option maxRecDepth 16384 in
theorem mf_52 (v : Nat → Int32) : (modF v)[52]? = some (.ref 658) := rfl
set_option maxRecDepth 16384 in
theorem mf_53 (v : Nat → Int32) : (modF v)[53]? = some (.ref 659) := rfl
set_option maxRecDepth 16384 in
theorem mf_54 (v : Nat → Int32) : (modF v)[54]? = some (.ref 660) := rfl
set_option maxRecDepth 16384 in
theorem mf_55 (v : Nat → Int32) : (modF v)[55]? = some (.ref 661) := rfl
set_option maxRecDepth 16384 in
theorem mf_56 (v : Nat → Int32) : (modF v)[56]? = some (.ref 662) := rfl
set_option maxRecDepth 16384 in
theorem mf_57 (v : Nat → Int32) : (modF v)[57]? = some (.ref 663) := rfl
set_option maxRecDepth 16384 in
theorem mf_58 (v : Nat → Int32) : (modF v)[58]? = some (.ref 664) := rfl
set_option maxRecDepth 16384 in
theorem mf_59 (v : Nat → Int32) : (modF v)[59]? = some (.ref 665) := rfl
set_option maxRecDepth 16384 in
theorem mf_60 (v : Nat → Int32) : (modF v)[60]? = some (.ref 666) := rfl
set_option maxRecDepth 16384 in
theorem mf_61 (v : Nat → Int32) : (modF v)[61]? = some (.ref 667) := rfl
set_option maxRecDepth 16384 in
theorem mfs_0 (v : Nat → Int32) (x : Int32) : (modF v).set 0 (.int x) = modF (px_up v 0 x) := rfl
set_option maxRecDepth 16384 in
theorem mfs_2 (v : Nat → Int32) (x : Int32) : (modF v).set 2 (.int x) = modF (px_up v 2 x) := rfl
set_option maxRecDepth 16384 in
theorem mfs_17 (v : Nat → Int32) (x : Int32) : (modF v).set 17 (.int x) = modF (px_up v 17 x) := rfl
set_option maxRecDepth 16384 in
theorem mfs_20 (v : Nat → Int32) (x : Int32) : (modF v).set 20 (.int x) = modF (px_up v 20 x) := rfl
set_option maxRecDepth 16384 in
theorem mfs_26 (v : Nat → Int32) (x : Int32) : (modF v).set 26 (.int x) = modF (px_up v 26 x) := rfl
set_option maxRecDepth 16384 in
theorem mfs_32 (v : Nat → Int32) (x : Int32) : (modF v).set 32 (.int x) = modF (px_up v 32 x) := rfl
set_option maxRecDepth 16384 in
theorem mfs_34 (v : Nat → Int32) (x : Int32) : (modF v).set 34 (.int x) = modF (px_up v 34 x) := rfl
set_option maxRecDepth 16384 in
theorem mfs_36 (v : Nat → Int32) (x : Int32) : (modF v).set 36 (.int x) = modF (px_up v 36 x) := rfl
set_option maxRecDepth 16384 in
theorem mfs_38 (v : Nat → Int32) (x : Int32) : (modF v).set 38 (.int x) = modF (px_up v 38 x) := rfl
set_option maxRecDepth 16384 in
theorem mfs_43 (v : Nat → Int32) (x : Int32) : (modF v).set 43 (.int x) = modF (px_up v 43 x) := rfl
set_option maxRecDepth 16384 in
theorem mfs_44 (v : Nat → Int32) (x : Int32) : (modF v).set 44 (.int x) = modF (px_up v 44 x) := rfl
set_option maxRecDepth 16384 in
theorem mfs_45 (v : Nat → Int32) (x : Int32) : (modF v).set 45 (.int x) = modF (px_up v 45 x) := rfl
set_option maxRecDepth 16384 in
theorem mfs_46 (v : Nat → Int32) (x : Int32) : (modF v).set 46 (.int x) = modF (px_up v 46 x) := rfl
set_option maxRecDepth 16384 in
theorem mfs_47 (v : Nat → Int32) (x : Int32) : (modF v).set 47 (.int x) = modF (px_up v 47 x) := rfl
set_option maxRecDepth 16384 in
theorem up_same {α : Type} (f : Nat → α) (k : Nat) (x : α) : px_up f k x k = x := if_pos rfl
/-- ImageYard's object -/
def iyaF : List Value := [.ref 1, .ref 24, .ref 45, .ref 47, .ref 421, .ref 454, .ref 457]
set_option maxRecDepth 16384 in
theorem iy_0 : iyaF[0]? = some (.ref 1) := rfl
set_option maxRecDepth 16384 in
theorem iy_1 : iyaF[1]? = some (.ref 24) := rfl
set_option maxRecDepth 16384 in
theorem iy_2 : iyaF[2]? = some (.ref 45) := rfl
set_option maxRecDepth 16384 in
theorem iy_3 : iyaF[3]? = some (.ref 47) := rfl
set_option maxRecDepth 16384 in
theorem iy_4 : iyaF[4]? = some (.ref 421) := rfl
set_option maxRecDepth 16384 in
theorem iy_5 : iyaF[5]? = some (.ref 454) := rfl
set_option maxRecDepth 16384 in
theorem iy_6 : iyaF[6]? = some (.ref 457) := rfl
set_option maxRecDepth 16384 in
theorem nar_0 : (narrow .boolean (.int 0) = .int 0) = True := by decide
set_option maxRecDepth 16384 in
theorem nar_1 : (narrow .boolean (.int 1) = .int 1) = True := by decide
/-! THE LAW'S LOOP -/
/-- its locals -/
def lawL (i : Int32) (a b c : Option Value) : px_L := [some (.retAddr 0), some (.ref 0), some (.ref 619), some (.ref 668), some (.int i), a, b, c]
set_option maxRecDepth 16384 in
theorem law_cmp {L i : Nat} (hL : L ≤ 3072) (hi : i ≤ 3078) : (Int32.ofNat L - 6 < nI i) ↔ L < i + 6 := by
  rw [Int32.lt_iff_toInt_lt, Int32.toInt_sub, nI_toInt (by omega), show (Int32.ofNat L).toInt = (L : Int) from nI_toInt (by omega), show (6 : Int32).toInt = 6 from rfl]
  rw [Int.bmod_eq_of_le (by omega) (by omega)]
  omega
set_option maxRecDepth 16384 in
theorem law_head {sx : Nat × (Nat → Int32)} {i : Nat} {a b c : Option Value} {h : px_H} {Q : px_O → px_H → Prop} (hL : sx.1 ≤ 3072) (hi : i ≤ 3078) :
    px_Wp sx 277 23 (lawL (nI i) a b c) [] h Q ↔ if sx.1 < i + 6 then Q (.inl (some (.int 1))) h else px_Wp sx 277 33 (lawL (nI i) a b c) [] h Q := by
  simp only [lawL, pc277_23, pc277_25, pc277_25n, pc277_25s, pc277_26, pc277_27, pc277_29, pc277_30, pc277_1588, pc277_1589, law_cmp hL hi, nar_1]
set_option maxRecDepth 16384 in
theorem law_next {sx : Nat × (Nat → Int32)} {i : Nat} {a b c : Option Value} {h : px_H} {Q : px_O → px_H → Prop} :
    px_Wp sx 277 1582 (lawL (nI i) a b c) [] h Q ↔ px_Wp sx 277 23 (lawL (nI (i + 6)) a b c) [] h Q := by
  simp only [lawL, pc277_1582, pc277_1585, px_kill]
  rw [show nI i + 6 = nI (i + 6) from nI_add i 6]
