/-! THE METHODS, ONE BY ONE -/
theorem pg_d0 : px_chkL 0 prog_1_method_1_code 0 pg_c0 = true := by decide +kernel
theorem pg_y0 : px_chkY pg_m0 2 (144, 143, 0) = true := by decide +kernel
theorem pg_d1 : px_chkL 0 prog_1_method_2_code 0 pg_c1 = true := by decide +kernel
theorem pg_y1 : px_chkY pg_m1 1 (531, 529, 530) = true := by decide +kernel
theorem pg_d2 : px_chkL 0 prog_1_method_3_code 0 pg_c2 = true := by decide +kernel
theorem pg_y2 : px_chkY pg_m2 1 (626, 624, 625) = true := by decide +kernel
theorem pg_d3 : px_chkL 0 prog_1_method_4_code 0 pg_c3 = true := by decide +kernel
theorem pg_y3 : px_chkY pg_m3 1 (633, 631, 632) = true := by decide +kernel
theorem pg_d4 : px_chkL 0 prog_1_method_23_code 0 pg_c4 = true := by decide +kernel
theorem pg_y4 : px_chkY pg_m4 1 (637, 636, 1) = true := by decide +kernel
theorem pg_d5 : px_chkL 0 prog_1_method_25_code 0 pg_c5 = true := by decide +kernel
theorem pg_y5 : px_chkY pg_m5 0 (640, 639, 114) = true := by decide +kernel
theorem pg_d6 : px_chkL 0 prog_1_method_5_code 0 pg_c6 = true := by decide +kernel
theorem pg_y6 : px_chkY pg_m6 1 (1114, 1112, 1113) = true := by decide +kernel
theorem pg_d7 : px_chkL 0 prog_1_method_6_code 0 pg_c7 = true := by decide +kernel
theorem pg_y7 : px_chkY pg_m7 1 (1121, 1119, 1120) = true := by decide +kernel
theorem pg_d8 : px_chkL 0 prog_1_method_7_code 0 pg_c8 = true := by decide +kernel
theorem pg_y8 : px_chkY pg_m8 1 (1129, 1127, 1128) = true := by decide +kernel
theorem pg_d9 : px_chkL 0 prog_1_method_26_code 0 pg_c9 = true := by decide +kernel
theorem pg_y9 : px_chkY pg_m9 0 (1132, 1131, 114) = true := by decide +kernel
theorem pg_d10 : px_chkL 0 prog_1_method_8_code 0 pg_c10 = true := by decide +kernel
theorem pg_y10 : px_chkY pg_m10 1 (1155, 1153, 1154) = true := by decide +kernel
theorem pg_d11 : px_chkL 0 prog_1_method_9_code 0 pg_c11 = true := by decide +kernel
theorem pg_y11 : px_chkY pg_m11 1 (1166, 1164, 1165) = true := by decide +kernel
theorem pg_d12 : px_chkL 0 prog_1_method_10_code 0 pg_c12 = true := by decide +kernel
theorem pg_y12 : px_chkY pg_m12 1 (1176, 1174, 1175) = true := by decide +kernel
theorem pg_d13 : px_chkL 0 prog_1_method_11_code 0 pg_c13 = true := by decide +kernel
theorem pg_y13 : px_chkY pg_m13 1 (1198, 1196, 1197) = true := by decide +kernel
theorem pg_d14 : px_chkL 0 prog_1_method_12_code 0 pg_c14 = true := by decide +kernel
theorem pg_y14 : px_chkY pg_m14 1 (1206, 1204, 1205) = true := by decide +kernel
theorem pg_d15 : px_chkL 0 prog_1_method_13_code 0 pg_c15 = true := by decide +kernel
theorem pg_y15 : px_chkY pg_m15 1 (1214, 1212, 1213) = true := by decide +kernel
theorem pg_d16 : px_chkL 0 prog_1_method_14_code 0 pg_c16 = true := by decide +kernel
theorem pg_y16 : px_chkY pg_m16 1 (1222, 1220, 1221) = true := by decide +kernel
theorem pg_d17 : px_chkL 0 prog_1_method_15_code 0 pg_c17 = true := by decide +kernel
theorem pg_y17 : px_chkY pg_m17 1 (1229, 1227, 1228) = true := by decide +kernel
theorem pg_d18 : px_chkL 0 prog_1_method_16_code 0 pg_c18 = true := by decide +kernel
theorem pg_y18 : px_chkY pg_m18 1 (1236, 1234, 1235) = true := by decide +kernel
theorem pg_d19 : px_chkL 0 prog_1_method_17_code 0 pg_c19 = true := by decide +kernel
theorem pg_y19 : px_chkY pg_m19 1 (1243, 1241, 1242) = true := by decide +kernel
theorem pg_d20 : px_chkL 0 prog_1_method_18_code 0 pg_c20 = true := by decide +kernel
theorem pg_y20 : px_chkY pg_m20 1 (1268, 1266, 1267) = true := by decide +kernel
theorem pg_d21 : px_chkL 0 prog_1_method_19_code 0 pg_c21 = true := by decide +kernel
theorem pg_y21 : px_chkY pg_m21 1 (1305, 1303, 1304) = true := by decide +kernel
theorem pg_d22 : px_chkL 0 prog_1_method_20_code 0 pg_c22 = true := by decide +kernel
theorem pg_y22 : px_chkY pg_m22 1 (1333, 1331, 1332) = true := by decide +kernel
theorem pg_d23 : px_chkL 0 prog_1_method_24_code 0 pg_c23 = true := by decide +kernel
theorem pg_y23 : px_chkY pg_m23 1 (1337, 1336, 31) = true := by decide +kernel
theorem pg_d24 : px_chkL 0 prog_1_method_21_code 0 pg_c24 = true := by decide +kernel
theorem pg_y24 : px_chkY pg_m24 1 (1361, 1359, 1360) = true := by decide +kernel
theorem pg_d25 : px_chkL 0 prog_1_method_22_code 0 pg_c25 = true := by decide +kernel
theorem pg_y25 : px_chkY pg_m25 1 (1368, 1366, 1367) = true := by decide +kernel
theorem pg_d26 : px_chkL 1 prog_6_method_1_code 0 pg_c26 = true := by decide +kernel
theorem pg_y26 : px_chkY pg_m26 2 (160, 159, 0) = true := by decide +kernel
theorem pg_d27 : px_chkL 1 prog_6_method_2_code 0 pg_c27 = true := by decide +kernel
theorem pg_y27 : px_chkY pg_m27 1 (600, 598, 599) = true := by decide +kernel
theorem pg_d28 : px_chkL 1 prog_6_method_4_code 0 pg_c28 = true := by decide +kernel
theorem pg_y28 : px_chkY pg_m28 1 (619, 617, 618) = true := by decide +kernel
theorem pg_d29 : px_chkL 1 prog_6_method_13_code 0 pg_c29 = true := by decide +kernel
theorem pg_y29 : px_chkY pg_m29 1 (648, 646, 647) = true := by decide +kernel
theorem pg_d30 : px_chkL 1 prog_6_method_3_code 0 pg_c30 = true := by decide +kernel
theorem pg_y30 : px_chkY pg_m30 1 (652, 650, 651) = true := by decide +kernel
theorem pg_d31 : px_chkL 1 prog_6_method_12_code 0 pg_c31 = true := by decide +kernel
theorem pg_y31 : px_chkY pg_m31 1 (669, 667, 668) = true := by decide +kernel
theorem pg_d32 : px_chkL 1 prog_6_method_9_code 0 pg_c32 = true := by decide +kernel
theorem pg_y32 : px_chkY pg_m32 1 (738, 736, 737) = true := by decide +kernel
theorem pg_d33 : px_chkL 1 prog_6_method_5_code 0 pg_c33 = true := by decide +kernel
theorem pg_y33 : px_chkY pg_m33 1 (754, 752, 753) = true := by decide +kernel
theorem pg_d34 : px_chkL 1 prog_6_method_14_code 0 pg_c34 = true := by decide +kernel
theorem pg_y34 : px_chkY pg_m34 1 (776, 774, 775) = true := by decide +kernel
theorem pg_d35 : px_chkL 1 prog_6_method_7_code 0 pg_c35 = true := by decide +kernel
theorem pg_y35 : px_chkY pg_m35 1 (814, 812, 813) = true := by decide +kernel
theorem pg_d36 : px_chkL 1 prog_6_method_10_code 0 pg_c36 = true := by decide +kernel
theorem pg_y36 : px_chkY pg_m36 1 (820, 818, 819) = true := by decide +kernel
theorem pg_d37 : px_chkL 1 prog_6_method_8_code 0 pg_c37 = true := by decide +kernel
theorem pg_y37 : px_chkY pg_m37 1 (863, 861, 862) = true := by decide +kernel
theorem pg_d38 : px_chkL 1 prog_6_method_6_code 0 pg_c38 = true := by decide +kernel
theorem pg_y38 : px_chkY pg_m38 1 (1035, 1033, 1034) = true := by decide +kernel
theorem pg_d39 : px_chkL 1 prog_6_method_11_code 0 pg_c39 = true := by decide +kernel
theorem pg_y39 : px_chkY pg_m39 1 (1060, 1058, 1059) = true := by decide +kernel
