/-! THE METHODS, ONE BY ONE -/
theorem pg_d80 : px_chkL 6 prog_5_method_1_code 0 pg_c80 = true := by decide +kernel
theorem pg_y80 : px_chkY pg_m80 2 (298, 297, 0) = true := by decide +kernel
theorem pg_d81 : px_chkL 6 prog_5_method_2_code 0 pg_c81 = true := by decide +kernel
theorem pg_y81 : px_chkY pg_m81 1 (664, 662, 663) = true := by decide +kernel
theorem pg_d82 : px_chkL 6 prog_5_method_7_code 0 pg_c82 = true := by decide +kernel
theorem pg_y82 : px_chkY pg_m82 1 (732, 730, 731) = true := by decide +kernel
theorem pg_d83 : px_chkL 6 prog_5_method_4_code 0 pg_c83 = true := by decide +kernel
theorem pg_y83 : px_chkY pg_m83 1 (742, 740, 741) = true := by decide +kernel
theorem pg_d84 : px_chkL 6 prog_5_method_3_code 0 pg_c84 = true := by decide +kernel
theorem pg_y84 : px_chkY pg_m84 1 (746, 744, 745) = true := by decide +kernel
theorem pg_d85 : px_chkL 6 prog_5_method_6_code 0 pg_c85 = true := by decide +kernel
theorem pg_y85 : px_chkY pg_m85 1 (780, 778, 779) = true := by decide +kernel
theorem pg_d86 : px_chkL 6 prog_5_method_5_code 0 pg_c86 = true := by decide +kernel
theorem pg_y86 : px_chkY pg_m86 1 (784, 782, 783) = true := by decide +kernel
theorem pg_d87 : px_chkL 6 prog_5_method_8_code 0 pg_c87 = true := by decide +kernel
theorem pg_y87 : px_chkY pg_m87 1 (809, 807, 808) = true := by decide +kernel
theorem pg_d88 : px_chkL 7 prog_11_method_1_code 0 pg_c88 = true := by decide +kernel
theorem pg_y88 : px_chkY pg_m88 2 (153, 152, 0) = true := by decide +kernel
theorem pg_d89 : px_chkL 7 prog_11_method_4_code 0 pg_c89 = true := by decide +kernel
theorem pg_y89 : px_chkY pg_m89 1 (723, 721, 722) = true := by decide +kernel
theorem pg_d90 : px_chkL 7 prog_11_method_2_code 0 pg_c90 = true := by decide +kernel
theorem pg_y90 : px_chkY pg_m90 1 (727, 725, 726) = true := by decide +kernel
theorem pg_d91 : px_chkL 7 prog_11_method_3_code 0 pg_c91 = true := by decide +kernel
theorem pg_y91 : px_chkY pg_m91 1 (831, 829, 830) = true := by decide +kernel
theorem pg_d92 : px_chkL 7 prog_11_method_5_code 0 pg_c92 = true := by decide +kernel
theorem pg_y92 : px_chkY pg_m92 1 (1055, 1053, 1054) = true := by decide +kernel
theorem pg_d93 : px_chkL 7 prog_11_method_10_code 0 pg_c93 = true := by decide +kernel
theorem pg_y93 : px_chkY pg_m93 1 (1064, 1063, 20) = true := by decide +kernel
theorem pg_d94 : px_chkL 7 prog_11_method_11_code 0 pg_c94 = true := by decide +kernel
theorem pg_y94 : px_chkY pg_m94 1 (1072, 1071, 21) = true := by decide +kernel
theorem pg_d95 : px_chkL 7 prog_11_method_12_code 0 pg_c95 = true := by decide +kernel
theorem pg_y95 : px_chkY pg_m95 1 (1076, 1075, 22) = true := by decide +kernel
theorem pg_d96 : px_chkL 7 prog_11_method_14_code 0 pg_c96 = true := by decide +kernel
theorem pg_y96 : px_chkY pg_m96 1 (1081, 1080, 23) = true := by decide +kernel
theorem pg_d97 : px_chkL 7 prog_11_method_9_code 0 pg_c97 = true := by decide +kernel
theorem pg_y97 : px_chkY pg_m97 1 (1085, 1083, 1084) = true := by decide +kernel
theorem pg_d98 : px_chkL 7 prog_11_method_16_code 0 pg_c98 = true := by decide +kernel
theorem pg_y98 : px_chkY pg_m98 1 (1091, 1090, 24) = true := by decide +kernel
theorem pg_d99 : px_chkL 7 prog_11_method_6_code 0 pg_c99 = true := by decide +kernel
theorem pg_y99 : px_chkY pg_m99 1 (1099, 1097, 1098) = true := by decide +kernel
theorem pg_d100 : px_chkL 7 prog_11_method_7_code 0 pg_c100 = true := by decide +kernel
theorem pg_y100 : px_chkY pg_m100 1 (1103, 1102, 25) = true := by decide +kernel
theorem pg_d101 : px_chkL 7 prog_11_method_15_code 0 pg_c101 = true := by decide +kernel
theorem pg_y101 : px_chkY pg_m101 1 (1107, 1106, 26) = true := by decide +kernel
theorem pg_d102 : px_chkL 7 prog_11_method_8_code 0 pg_c102 = true := by decide +kernel
theorem pg_y102 : px_chkY pg_m102 1 (1159, 1157, 1158) = true := by decide +kernel
theorem pg_d103 : px_chkL 7 prog_11_method_17_code 0 pg_c103 = true := by decide +kernel
theorem pg_y103 : px_chkY pg_m103 1 (1247, 1245, 1246) = true := by decide +kernel
theorem pg_d104 : px_chkL 7 prog_11_method_18_code 0 pg_c104 = true := by decide +kernel
theorem pg_y104 : px_chkY pg_m104 1 (1251, 1250, 27) = true := by decide +kernel
theorem pg_d105 : px_chkL 7 prog_11_method_13_code 0 pg_c105 = true := by decide +kernel
theorem pg_y105 : px_chkY pg_m105 1 (1256, 1255, 28) = true := by decide +kernel
theorem pg_d106 : px_chkL 7 prog_11_method_19_code 0 pg_c106 = true := by decide +kernel
theorem pg_y106 : px_chkY pg_m106 1 (1272, 1270, 1271) = true := by decide +kernel
theorem pg_d107 : px_chkL 7 prog_11_method_21_code 0 pg_c107 = true := by decide +kernel
theorem pg_y107 : px_chkY pg_m107 1 (1276, 1275, 29) = true := by decide +kernel
theorem pg_d108 : px_chkL 7 prog_11_method_20_code 0 pg_c108 = true := by decide +kernel
theorem pg_y108 : px_chkY pg_m108 1 (1281, 1279, 1280) = true := by decide +kernel
theorem pg_d109 : px_chkL 7 prog_11_method_22_code 0 pg_c109 = true := by decide +kernel
theorem pg_y109 : px_chkY pg_m109 1 (1291, 1289, 1290) = true := by decide +kernel
theorem pg_d110 : px_chkL 7 prog_11_method_23_code 0 pg_c110 = true := by decide +kernel
theorem pg_y110 : px_chkY pg_m110 1 (1295, 1294, 30) = true := by decide +kernel
theorem pg_d111 : px_chkL 8 prog_9_method_1_code 0 pg_c111 = true := by decide +kernel
theorem pg_y111 : px_chkY pg_m111 2 (241, 240, 0) = true := by decide +kernel
theorem pg_d112 : px_chkL 8 prog_9_method_3_code 0 pg_c112 = true := by decide +kernel
theorem pg_y112 : px_chkY pg_m112 1 (1261, 1259, 1260) = true := by decide +kernel
theorem pg_d113 : px_chkL 8 prog_9_method_4_code 0 pg_c113 = true := by decide +kernel
theorem pg_y113 : px_chkY pg_m113 1 (1285, 1283, 1284) = true := by decide +kernel
theorem pg_d114 : px_chkL 8 prog_9_method_2_code 0 pg_c114 = true := by decide +kernel
theorem pg_y114 : px_chkY pg_m114 1 (1309, 1307, 1308) = true := by decide +kernel
theorem pg_d115 : px_chkL 8 prog_9_method_5_code 0 pg_c115 = true := by decide +kernel
theorem pg_y115 : px_chkY pg_m115 1 (1341, 1339, 1340) = true := by decide +kernel
theorem pg_d116 : px_chkL 8 prog_9_method_6_code 0 pg_c116 = true := by decide +kernel
theorem pg_y116 : px_chkY pg_m116 1 (1345, 1344, 32) = true := by decide +kernel
theorem pg_d117 : px_chkL 8 prog_9_method_7_code 0 pg_c117 = true := by decide +kernel
theorem pg_y117 : px_chkY pg_m117 1 (1354, 1353, 33) = true := by decide +kernel
theorem pg_d118 : px_chkL 9 prog_8_method_1_code 0 pg_c118 = true := by decide +kernel
theorem pg_y118 : px_chkY pg_m118 2 (423, 422, 0) = true := by decide +kernel
theorem pg_d119 : px_chkL 9 prog_8_method_3_code 0 pg_c119 = true := by decide +kernel
theorem pg_y119 : px_chkY pg_m119 1 (932, 930, 931) = true := by decide +kernel
