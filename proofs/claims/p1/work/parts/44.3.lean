/-! THE METHODS, ONE BY ONE -/
theorem pg_d120 : px_chkL 9 prog_8_method_4_code 0 pg_c120 = true := by decide +kernel
theorem pg_y120 : px_chkY pg_m120 0 (940, 939, 124) = true := by decide +kernel
theorem pg_d121 : px_chkL 9 prog_8_method_5_code 0 pg_c121 = true := by decide +kernel
theorem pg_y121 : px_chkY pg_m121 1 (951, 950, 11) = true := by decide +kernel
theorem pg_d122 : px_chkL 9 prog_8_method_6_code 0 pg_c122 = true := by decide +kernel
theorem pg_y122 : px_chkY pg_m122 1 (955, 954, 12) = true := by decide +kernel
theorem pg_d123 : px_chkL 9 prog_8_method_7_code 0 pg_c123 = true := by decide +kernel
theorem pg_y123 : px_chkY pg_m123 1 (960, 959, 13) = true := by decide +kernel
theorem pg_d124 : px_chkL 9 prog_8_method_8_code 0 pg_c124 = true := by decide +kernel
theorem pg_y124 : px_chkY pg_m124 1 (968, 967, 14) = true := by decide +kernel
theorem pg_d125 : px_chkL 9 prog_8_method_9_code 0 pg_c125 = true := by decide +kernel
theorem pg_y125 : px_chkY pg_m125 1 (974, 973, 15) = true := by decide +kernel
theorem pg_d126 : px_chkL 9 prog_8_method_10_code 0 pg_c126 = true := by decide +kernel
theorem pg_y126 : px_chkY pg_m126 1 (980, 979, 16) = true := by decide +kernel
theorem pg_d127 : px_chkL 9 prog_8_method_12_code 0 pg_c127 = true := by decide +kernel
theorem pg_y127 : px_chkY pg_m127 1 (985, 984, 17) = true := by decide +kernel
theorem pg_d128 : px_chkL 9 prog_8_method_11_code 0 pg_c128 = true := by decide +kernel
theorem pg_y128 : px_chkY pg_m128 1 (1002, 1001, 18) = true := by decide +kernel
theorem pg_d129 : px_chkL 9 prog_8_method_2_code 0 pg_c129 = true := by decide +kernel
theorem pg_y129 : px_chkY pg_m129 1 (1007, 1005, 1006) = true := by decide +kernel
theorem pg_d130 : px_chkL 10 prog_2_method_1_code 0 pg_c130 = true := by decide +kernel
theorem pg_y130 : px_chkY pg_m130 2 (292, 291, 0) = true := by decide +kernel
theorem pg_d131 : px_chkL 10 prog_2_method_2_code 0 pg_c131 = true := by decide +kernel
theorem pg_y131 : px_chkY pg_m131 1 (644, 642, 643) = true := by decide +kernel
theorem pg_d132 : px_chkL 10 prog_2_method_4_code 0 pg_c132 = true := by decide +kernel
theorem pg_y132 : px_chkY pg_m132 1 (656, 654, 655) = true := by decide +kernel
theorem pg_d133 : px_chkL 10 prog_2_method_5_code 0 pg_c133 = true := by decide +kernel
theorem pg_y133 : px_chkY pg_m133 1 (660, 659, 2) = true := by decide +kernel
theorem pg_d134 : px_chkL 10 prog_2_method_3_code 0 pg_c134 = true := by decide +kernel
theorem pg_y134 : px_chkY pg_m134 1 (766, 765, 3) = true := by decide +kernel
theorem pg_d135 : px_chkL 10 prog_2_method_6_code 0 pg_c135 = true := by decide +kernel
theorem pg_y135 : px_chkY pg_m135 1 (772, 771, 4) = true := by decide +kernel
theorem pg_d136 : px_chkL 10 prog_2_method_7_code 0 pg_c136 = true := by decide +kernel
theorem pg_y136 : px_chkY pg_m136 1 (796, 795, 5) = true := by decide +kernel
theorem pg_d137 : px_chkL 10 prog_2_method_8_code 0 pg_c137 = true := by decide +kernel
theorem pg_y137 : px_chkY pg_m137 1 (805, 804, 6) = true := by decide +kernel
theorem pg_d138 : px_chkL 10 prog_2_method_9_code 0 pg_c138 = true := by decide +kernel
theorem pg_y138 : px_chkY pg_m138 1 (827, 825, 826) = true := by decide +kernel
theorem pg_d139 : px_chkL 10 prog_2_method_10_code 0 pg_c139 = true := by decide +kernel
theorem pg_y139 : px_chkY pg_m139 1 (1011, 1010, 19) = true := by decide +kernel
theorem pg_d140 : px_chkL 10 prog_2_method_11_code 0 pg_c140 = true := by decide +kernel
theorem pg_y140 : px_chkY pg_m140 1 (1095, 1093, 1094) = true := by decide +kernel
theorem pg_d141 : px_chkL 11 prog_13_method_1_code 0 pg_c141 = true := by decide +kernel
theorem pg_y141 : px_chkY pg_m141 2 (1373, 1372, 0) = true := by decide +kernel
theorem pg_d142 : px_chkL 11 prog_13_method_2_code 0 pg_c142 = true := by decide +kernel
theorem pg_y142 : px_chkY pg_m142 1 (1569, 1567, 1568) = true := by decide +kernel
theorem pg_d143 : px_chkL 11 prog_13_method_7_code 0 pg_c143 = true := by decide +kernel
theorem pg_y143 : px_chkY pg_m143 1 (1573, 1571, 1572) = true := by decide +kernel
theorem pg_d144 : px_chkL 11 prog_13_method_4_code 0 pg_c144 = true := by decide +kernel
theorem pg_y144 : px_chkY pg_m144 0 (1576, 1575, 125) = true := by decide +kernel
theorem pg_d145 : px_chkL 11 prog_13_method_3_code 0 pg_c145 = true := by decide +kernel
theorem pg_y145 : px_chkY pg_m145 1 (1580, 1579, 34) = true := by decide +kernel
theorem pg_d146 : px_chkL 11 prog_13_method_8_code 0 pg_c146 = true := by decide +kernel
theorem pg_y146 : px_chkY pg_m146 1 (1584, 1582, 1583) = true := by decide +kernel
theorem pg_d147 : px_chkL 11 prog_13_method_84_code 0 pg_c147 = true := by decide +kernel
theorem pg_y147 : px_chkY pg_m147 1 (1588, 1586, 1587) = true := by decide +kernel
theorem pg_d148 : px_chkL 11 prog_13_method_6_code 0 pg_c148 = true := by decide +kernel
theorem pg_y148 : px_chkY pg_m148 0 (1591, 1590, 125) = true := by decide +kernel
theorem pg_d149 : px_chkL 11 prog_13_method_5_code 0 pg_c149 = true := by decide +kernel
theorem pg_y149 : px_chkY pg_m149 0 (1594, 1593, 125) = true := by decide +kernel
theorem pg_d150 : px_chkL 11 prog_13_method_83_code 0 pg_c150 = true := by decide +kernel
theorem pg_y150 : px_chkY pg_m150 1 (1598, 1597, 35) = true := by decide +kernel
theorem pg_d151 : px_chkL 11 prog_13_method_57_code 0 pg_c151 = true := by decide +kernel
theorem pg_y151 : px_chkY pg_m151 0 (1601, 1600, 125) = true := by decide +kernel
theorem pg_d152 : px_chkL 11 prog_13_method_55_code 0 pg_c152 = true := by decide +kernel
theorem pg_y152 : px_chkY pg_m152 0 (1605, 1604, 125) = true := by decide +kernel
theorem pg_d153 : px_chkL 11 prog_13_method_54_code 0 pg_c153 = true := by decide +kernel
theorem pg_y153 : px_chkY pg_m153 1 (1611, 1610, 36) = true := by decide +kernel
theorem pg_d154 : px_chkL 11 prog_13_method_53_code 0 pg_c154 = true := by decide +kernel
theorem pg_y154 : px_chkY pg_m154 1 (1615, 1614, 37) = true := by decide +kernel
theorem pg_d155 : px_chkL 11 prog_13_method_15_code 0 pg_c155 = true := by decide +kernel
theorem pg_y155 : px_chkY pg_m155 1 (1619, 1618, 38) = true := by decide +kernel
theorem pg_d156 : px_chkL 11 prog_13_method_52_code 0 pg_c156 = true := by decide +kernel
theorem pg_y156 : px_chkY pg_m156 1 (1624, 1623, 39) = true := by decide +kernel
theorem pg_d157 : px_chkL 11 prog_13_method_14_code 0 pg_c157 = true := by decide +kernel
theorem pg_y157 : px_chkY pg_m157 0 (1627, 1626, 125) = true := by decide +kernel
theorem pg_d158 : px_chkL 11 prog_13_method_82_code 0 pg_c158 = true := by decide +kernel
theorem pg_y158 : px_chkY pg_m158 1 (1631, 1630, 40) = true := by decide +kernel
theorem pg_d159 : px_chkL 11 prog_13_method_81_code 0 pg_c159 = true := by decide +kernel
theorem pg_y159 : px_chkY pg_m159 1 (1637, 1636, 41) = true := by decide +kernel
