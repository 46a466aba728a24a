/-! THE METHODS' CHECKS -/
def px_knd : List Nat := [2, 1, 1, 1, 1, 0, 1, 1, 1, 0, 1, 1, 1, 1, 1, 1, 1, 1, 1, 1, 1, 1, 1, 1, 1, 1, 2, 1, 1, 1, 1, 1, 1, 1, 1, 1, 1, 1, 1, 1, 2, 1, 0, 1, 1, 1, 1, 1, 1, 1, 1, 1, 1, 1, 2, 1, 1, 1, 1, 1, 1, 1, 1, 1, 2, 1, 1, 1, 1, 1, 1, 0, 0, 0, 0, 0, 2, 1, 1, 1, 2, 1, 1, 1, 1, 1, 1, 1, 2, 1, 1, 1, 1, 1, 1, 1, 1, 1, 1, 1, 1, 1, 1, 1, 1, 1, 1, 1, 1, 1, 1, 2, 1, 1, 1, 1, 1, 1, 2, 1, 0, 1, 1, 1, 1, 1, 1, 1, 1, 1, 2, 1, 1, 1, 1, 1, 1, 1, 1, 1, 1, 2, 1, 1, 0, 1, 1, 1, 0, 0, 1, 0, 0, 1, 1, 1, 1, 0, 1, 1, 0, 1, 1, 1, 1, 1, 1, 1, 1, 1, 1, 0, 0, 1, 1, 1, 1, 1, 0, 1, 1, 1, 1, 1, 0, 1, 1, 1, 1, 1, 1, 1, 1, 1, 1, 1, 1, 1, 1, 1, 1, 1, 1, 1, 0, 1, 1, 1, 1, 1, 1, 1, 1, 1, 1, 1, 1, 1, 1, 1, 1, 1, 1, 1, 1, 1, 1, 1, 1, 1, 1, 1, 1, 1, 1, 1, 1, 1, 1, 1, 1, 1, 1, 1, 1, 1, 1, 1, 1, 0, 1, 1, 1, 1, 1, 1, 0, 0, 0, 0, 0, 0, 0, 0, 0, 0, 0, 0, 0, 0, 0, 0, 0, 0, 0, 0, 0, 9]
def px_mps : List (Nat × Nat × Nat) := [(144, 143, 0), (531, 529, 530), (626, 624, 625), (633, 631, 632), (637, 636, 1), (640, 639, 114), (1114, 1112, 1113), (1121, 1119, 1120), (1129, 1127, 1128), (1132, 1131, 114), (1155, 1153, 1154), (1166, 1164, 1165), (1176, 1174, 1175), (1198, 1196, 1197), (1206, 1204, 1205), (1214, 1212, 1213), (1222, 1220, 1221), (1229, 1227, 1228), (1236, 1234, 1235), (1243, 1241, 1242), (1268, 1266, 1267), (1305, 1303, 1304), (1333, 1331, 1332), (1337, 1336, 31), (1361, 1359, 1360), (1368, 1366, 1367), (160, 159, 0), (600, 598, 599), (619, 617, 618), (648, 646, 647), (652, 650, 651), (669, 667, 668), (738, 736, 737), (754, 752, 753), (776, 774, 775), (814, 812, 813), (820, 818, 819), (863, 861, 862), (1035, 1033, 1034), (1060, 1058, 1059), (355, 354, 0), (855, 853, 854), (859, 858, 122), (867, 865, 866), (879, 877, 878), (891, 889, 890), (903, 901, 902), (913, 911, 912), (918, 916, 917), (990, 988, 989), (994, 992, 993), (1039, 1037, 1038), (1047, 1045, 1046), (1051, 1049, 1050), (348, 347, 0), (875, 873, 874), (883, 881, 882), (887, 885, 886), (895, 893, 894), (899, 897, 898), (909, 907, 908), (922, 920, 921), (926, 924, 925), (998, 996, 997), (411, 410, 0), (837, 835, 836), (842, 841, 7), (846, 845, 8), (850, 849, 9), (871, 870, 10), (1015, 1013, 1014), (1018, 1017, 123), (1022, 1021, 123), (1026, 1025, 123), (1030, 1029, 123), (1043, 1042, 123), (305, 304, 0), (750, 748, 749), (762, 760, 761), (788, 786, 787), (298, 297, 0), (664, 662, 663), (732, 730, 731), (742, 740, 741), (746, 744, 745), (780, 778, 779), (784, 782, 783), (809, 807, 808), (153, 152, 0), (723, 721, 722), (727, 725, 726), (831, 829, 830), (1055, 1053, 1054), (1064, 1063, 20), (1072, 1071, 21), (1076, 1075, 22), (1081, 1080, 23), (1085, 1083, 1084), (1091, 1090, 24), (1099, 1097, 1098), (1103, 1102, 25), (1107, 1106, 26), (1159, 1157, 1158), (1247, 1245, 1246), (1251, 1250, 27), (1256, 1255, 28), (1272, 1270, 1271), (1276, 1275, 29), (1281, 1279, 1280), (1291, 1289, 1290), (1295, 1294, 30), (241, 240, 0), (1261, 1259, 1260), (1285, 1283, 1284), (1309, 1307, 1308), (1341, 1339, 1340), (1345, 1344, 32), (1354, 1353, 33), (423, 422, 0), (932, 930, 931), (940, 939, 124), (951, 950, 11), (955, 954, 12), (960, 959, 13), (968, 967, 14), (974, 973, 15), (980, 979, 16), (985, 984, 17), (1002, 1001, 18), (1007, 1005, 1006), (292, 291, 0), (644, 642, 643), (656, 654, 655), (660, 659, 2), (766, 765, 3), (772, 771, 4), (796, 795, 5), (805, 804, 6), (827, 825, 826), (1011, 1010, 19), (1095, 1093, 1094), (1373, 1372, 0), (1569, 1567, 1568), (1573, 1571, 1572), (1576, 1575, 125), (1580, 1579, 34), (1584, 1582, 1583), (1588, 1586, 1587), (1591, 1590, 125), (1594, 1593, 125), (1598, 1597, 35), (1601, 1600, 125), (1605, 1604, 125), (1611, 1610, 36), (1615, 1614, 37), (1619, 1618, 38), (1624, 1623, 39), (1627, 1626, 125), (1631, 1630, 40), (1637, 1636, 41), (1640, 1639, 125), (1644, 1643, 42), (1648, 1647, 43), (1652, 1651, 44), (1656, 1655, 45), (1661, 1660, 46), (1665, 1664, 47), (1669, 1668, 48), (1673, 1672, 49), (1677, 1676, 50), (1681, 1680, 51), (1685, 1684, 125), (1689, 1688, 125), (1694, 1693, 52), (1698, 1697, 53), (1702, 1701, 54), (1706, 1705, 55), (1710, 1709, 56), (1713, 1712, 125), (1717, 1716, 57), (1721, 1720, 58), (1725, 1724, 59), (1729, 1728, 60), (1733, 1732, 61), (1736, 1735, 125), (1740, 1739, 62), (1744, 1743, 63), (1748, 1747, 64), (1752, 1751, 65), (1756, 1755, 66), (1760, 1759, 67), (1764, 1763, 68), (1768, 1767, 69), (1772, 1771, 70), (1776, 1775, 71), (1780, 1779, 72), (1784, 1783, 73), (1794, 1793, 74), (1798, 1797, 75), (1802, 1801, 76), (1806, 1805, 77), (1810, 1809, 78), (1814, 1813, 79), (1818, 1817, 80), (1821, 1820, 125), (1825, 1824, 81), (1829, 1828, 82), (1834, 1833, 83), (1838, 1837, 84), (1842, 1841, 85), (1846, 1845, 86), (1850, 1849, 87), (1854, 1853, 88), (1858, 1857, 89), (1862, 1861, 90), (1866, 1865, 91), (1870, 1869, 92), (1874, 1873, 93), (1878, 1877, 94), (1882, 1881, 95), (1886, 1885, 96), (1890, 1889, 97), (1894, 1893, 98), (1898, 1897, 99), (1902, 1901, 100), (1906, 1904, 1905), (1910, 1908, 1909), (1914, 1912, 1913), (1918, 1916, 1917), (1922, 1920, 1921), (1926, 1924, 1925), (1930, 1928, 1929), (1934, 1932, 1933), (1938, 1936, 1937), (1942, 1940, 1941), (1946, 1944, 1945), (1950, 1948, 1949), (1954, 1952, 1953), (1958, 1957, 101), (1962, 1961, 102), (1966, 1965, 103), (1970, 1969, 104), (1974, 1972, 1973), (1978, 1977, 105), (1982, 1981, 106), (1986, 1985, 107), (1990, 1989, 108), (1994, 1992, 1993), (1998, 1996, 1997), (2001, 2000, 125), (2005, 2004, 109), (2009, 2008, 110), (2013, 2012, 111), (2017, 2016, 112), (2021, 2019, 2020), (2025, 2023, 2024), (525, 524, 113), (622, 621, 113), (629, 628, 113), (1110, 1109, 113), (1117, 1116, 113), (1124, 1123, 113), (1151, 1150, 113), (1162, 1161, 113), (1171, 1170, 113), (1194, 1193, 113), (1202, 1201, 113), (1210, 1209, 113), (1218, 1217, 113), (1225, 1224, 113), (1232, 1231, 113), (1239, 1238, 113), (1264, 1263, 113), (1300, 1299, 113), (1329, 1328, 113), (1357, 1356, 113), (1364, 1363, 113), (0, 0, 0)]
def px_chkc (own : Nat) (i : Instr) : Bool := match px_kind i with
  | none => true
  | some (kd, idx) => match px_Gc px_G0 own idx with
    | none => false
    | some k' => decide (1000 ≤ k') || decide (px_knd[k']? = some kd)
def px_chkL (own : Nat) (b : ByteArray) : Nat → List (Option (Instr × Nat)) → Bool
  | _, [] => true
  | pc, none :: t => px_chkL own b (pc + 1) t
  | pc, some (i, len) :: t => (match decode b pc with
    | .ok r => decide (r = (i, len))
    | .error _ => false) && (Nat.beq (px_ln i) 0 || Nat.beq len (px_ln i)) && px_chkc own i && px_chkL own b (pc + 1) t
theorem px_chkL_of {own : Nat} {b : ByteArray} : ∀ (l : List (Option (Instr × Nat))) (pc : Nat), px_chkL own b pc l = true → ∀ (j : Nat) (i : Instr) (len : Nat), l[j]? = some (some (i, len)) → decode b (pc + j) = .ok (i, len) ∧ (px_ln i = 0 ∨ len = px_ln i) ∧ px_chkc own i = true
  | [], _, _, j, i, len, hj => by simp at hj
  | none :: t, pc, h, j, i, len, hj => by
    cases j with
    | zero => simp at hj
    | succ j =>
      have := px_chkL_of t (pc + 1) h j i len (by simpa using hj)
      rw [show pc + 1 + j = pc + (j + 1) by omega] at this
      exact this
  | some (i0, len0) :: t, pc, h, j, i, len, hj => by
    unfold px_chkL at h
    simp only [Bool.and_eq_true] at h
    obtain ⟨⟨⟨h1, h2⟩, h3⟩, h4⟩ := h
    cases j with
    | zero =>
      simp only [List.getElem?_cons_zero, Option.some.injEq, Prod.mk.injEq] at hj
      obtain ⟨rfl, rfl⟩ := hj
      refine ⟨?_, ?_, h3⟩
      · split at h1
        · next r hr => rw [Nat.add_zero, hr, of_decide_eq_true h1]
        · cases h1
      · rw [Bool.or_eq_true] at h2
        rcases h2 with h2 | h2
        · exact Or.inl (Nat.eq_of_beq_eq_true h2)
        · exact Or.inr (Nat.eq_of_beq_eq_true h2)
    | succ j =>
      have := px_chkL_of t (pc + 1) h4 j i len (by simpa using hj)
      rw [show pc + 1 + j = pc + (j + 1) by omega] at this
      exact this
def px_chkM (r : Nat × Nat × Nat × Nat) : Bool := if r.2.2.1 < 1000 then (match px_meths[r.2.2.1]? with
    | some M' => px_chk r.2.2.2 (.methodLink (px_on r.1) r.2.1 (px_Mm M'))
    | none => false)
  else decide (r.2.2.1 ≠ 1000) || px_chk r.2.2.2 (.methodLink (px_on r.1) r.2.1 Lib.objectInit)
theorem px_M0 : px_cals.all px_chkM = true := by decide +kernel
theorem px_O0 : (px_chk 146 (.instanceMethod Lib.objectInit) && px_chk 147 (.code Lib.objectInit ⟨#[0xb1]⟩ 1 none)) = true := by decide +kernel
def px_chkP (r : Nat × Nat × Nat × Nat) : Bool := (decide (r.2.2.1 ≠ 1001) || px_chk r.2.2.2 (.methodLink (px_on r.1) r.2.1 arraycopyName)) && (decide (r.2.2.1 ≠ 1002) || px_chk r.2.2.2 (.methodLink (px_on r.1) r.2.1 Lib.Math.min.name))
theorem px_M1 : px_cals.all px_chkP = true := by decide +kernel
theorem px_O1 : px_has (.native arraycopyName) = true ∧ px_has (.static arraycopyName) = true ∧ px_has (.initialized "java/lang/System") = true := by decide +kernel
theorem px_O2 : px_has (.static Lib.Math.min.name) = true ∧ px_has (.initialized "java/lang/Math") = true ∧ px_has (.code Lib.Math.min.name Lib.Math.min.code 2 (some .int)) = true := by decide +kernel
def px_chkS (r : Nat × Nat × Nat × Nat) : Bool := (decide (r.2.2.1 ≠ 1003) || px_chk r.2.2.2 (.methodLink (px_on r.1) r.2.1 ps_yL)) && (decide (r.2.2.1 ≠ 1004) || px_chk r.2.2.2 (.methodLink (px_on r.1) r.2.1 ps_yA))
theorem px_M2 : px_cals.all px_chkS = true := by decide +kernel
theorem px_O3 : ((([.instanceMethod ps_yL, .selects "java/lang/String" ps_yL ps_yL, .initialized "java/lang/String"] : List Jvm.Cond) ++ ps_wL).all fun w => px_has w && goodWord w) = true := by decide +kernel
theorem px_O4 : ((([.instanceMethod ps_yA, .selects "java/lang/String" ps_yA ps_yA, .initialized "java/lang/String"] : List Jvm.Cond) ++ ps_wA).all fun w => px_has w && goodWord w) = true := by decide +kernel
theorem px_goodS {y : MethodName} {ws : List Jvm.Cond} (h : ((([.instanceMethod y, .selects "java/lang/String" y y, .initialized "java/lang/String"] : List Jvm.Cond) ++ ws).all fun w => px_has w && goodWord w) = true) {own : String} {idx : Nat} (hl : Jvm.Cond.methodLink own idx y ∈ px_Ts) : GoodIn px_Ts (wsV own idx "java/lang/String" y ws) := by
  intro w hw
  have hw' : w ∈ Jvm.Cond.methodLink own idx y :: (([.instanceMethod y, .selects "java/lang/String" y y, .initialized "java/lang/String"] : List Jvm.Cond) ++ ws) := hw
  rcases List.mem_cons.mp hw' with e | hw
  · subst e; exact ⟨hl, Or.inl rfl⟩
  · have h1 := List.all_eq_true.mp h w hw
    rw [Bool.and_eq_true] at h1
    exact ⟨px_has_mem h1.1, good_of_word h1.2⟩
theorem px_P0 : ([0, 1, 2, 3, 4, 5, 6, 7, 8, 9, 10, 11, 20].all fun o => Jvm.plainName (px_on o) && decide (px_on o ≠ "java/lang/invoke/MethodHandle") && decide (px_on o ≠ "java/lang/invoke/VarHandle")) = true := by decide +kernel
def px_chkY (M' : px_M) (kd : Nat) (ps : Nat × Nat × Nat) : Bool :=
  decide ((px_Mm M').cls = px_Mn M') && decide (px_Mn M' = px_on (px_Mo M')) && decide (px_Mo M' ∈ [0, 1, 2, 3, 4, 5, 6, 7, 8, 9, 10, 11, 20]) &&
  (if px_Mh M' = [] then px_chk ps.1 (.code (px_Mm M') (px_Mb M') (px_Ml M') (px_Mr M')) else px_chk ps.1 (.codeWith (px_Mm M') (px_Mb M') (px_Ml M') (px_Mr M') ((px_Mh M').map (fun q => (q.1, q.2.1, q.2.2.1, q.2.2.2.1))))) &&
  (match kd with
    | 0 => px_chk ps.2.1 (.static (px_Mm M')) && px_chk ps.2.2 (.initialized (px_Mm M').cls) && decide ((parseMethodDescriptor (px_Mm M').desc).map (fun d => d.parameters.length) = some (px_Ma M'))
    | 1 => px_chk ps.2.1 (.instanceMethod (px_Mm M')) && px_chk ps.2.2 (.selects (px_Mn M') (px_Mm M') (px_Mm M')) && decide ((parseMethodDescriptor (px_Mm M').desc).map (fun d => d.parameters.length + 1) = some (px_Ma M')) && decide (px_Mo M' < px_NC)
    | 2 => px_chk ps.2.1 (.instanceMethod (px_Mm M')) && decide ((parseMethodDescriptor (px_Mm M').desc).map (fun d => d.parameters.length + 1) = some (px_Ma M')) && decide ((px_Mm M').name = "<init>") && decide (px_Mr M' = none) && decide (px_Mh M' = [])
    | _ => false)
