/-! THE METHODS, ONE BY ONE -/
theorem pg_d240 : px_chkL 11 prog_13_method_99_code 0 pg_c240 = true := by decide +kernel
theorem pg_y240 : px_chkY pg_m240 1 (1966, 1965, 103) = true := by decide +kernel
theorem pg_d241 : px_chkL 11 prog_13_method_98_code 0 pg_c241 = true := by decide +kernel
theorem pg_y241 : px_chkY pg_m241 1 (1970, 1969, 104) = true := by decide +kernel
theorem pg_d242 : px_chkL 11 prog_13_method_106_code 0 pg_c242 = true := by decide +kernel
theorem pg_y242 : px_chkY pg_m242 1 (1974, 1972, 1973) = true := by decide +kernel
theorem pg_d243 : px_chkL 11 prog_13_method_104_code 0 pg_c243 = true := by decide +kernel
theorem pg_y243 : px_chkY pg_m243 1 (1978, 1977, 105) = true := by decide +kernel
theorem pg_d244 : px_chkL 11 prog_13_method_103_code 0 pg_c244 = true := by decide +kernel
theorem pg_y244 : px_chkY pg_m244 1 (1982, 1981, 106) = true := by decide +kernel
theorem pg_d245 : px_chkL 11 prog_13_method_102_code 0 pg_c245 = true := by decide +kernel
theorem pg_y245 : px_chkY pg_m245 1 (1986, 1985, 107) = true := by decide +kernel
theorem pg_d246 : px_chkL 11 prog_13_method_105_code 0 pg_c246 = true := by decide +kernel
theorem pg_y246 : px_chkY pg_m246 1 (1990, 1989, 108) = true := by decide +kernel
theorem pg_d247 : px_chkL 11 prog_13_method_107_code 0 pg_c247 = true := by decide +kernel
theorem pg_y247 : px_chkY pg_m247 1 (1994, 1992, 1993) = true := by decide +kernel
theorem pg_d248 : px_chkL 11 prog_13_method_113_code 0 pg_c248 = true := by decide +kernel
theorem pg_y248 : px_chkY pg_m248 1 (1998, 1996, 1997) = true := by decide +kernel
theorem pg_d249 : px_chkL 11 prog_13_method_112_code 0 pg_c249 = true := by decide +kernel
theorem pg_y249 : px_chkY pg_m249 0 (2001, 2000, 125) = true := by decide +kernel
theorem pg_d250 : px_chkL 11 prog_13_method_109_code 0 pg_c250 = true := by decide +kernel
theorem pg_y250 : px_chkY pg_m250 1 (2005, 2004, 109) = true := by decide +kernel
theorem pg_d251 : px_chkL 11 prog_13_method_108_code 0 pg_c251 = true := by decide +kernel
theorem pg_y251 : px_chkY pg_m251 1 (2009, 2008, 110) = true := by decide +kernel
theorem pg_d252 : px_chkL 11 prog_13_method_111_code 0 pg_c252 = true := by decide +kernel
theorem pg_y252 : px_chkY pg_m252 1 (2013, 2012, 111) = true := by decide +kernel
theorem pg_d253 : px_chkL 11 prog_13_method_110_code 0 pg_c253 = true := by decide +kernel
theorem pg_y253 : px_chkY pg_m253 1 (2017, 2016, 112) = true := by decide +kernel
theorem pg_d254 : px_chkL 11 prog_13_method_114_code 0 pg_c254 = true := by decide +kernel
theorem pg_y254 : px_chkY pg_m254 1 (2021, 2019, 2020) = true := by decide +kernel
theorem pg_d255 : px_chkL 11 prog_13_method_115_code 0 pg_c255 = true := by decide +kernel
theorem pg_y255 : px_chkY pg_m255 1 (2025, 2023, 2024) = true := by decide +kernel
theorem pg_d256 : px_chkL 20 method_3_code 0 pg_c256 = true := by decide +kernel
theorem pg_y256 : px_chkY pg_m256 0 (525, 524, 113) = true := by decide +kernel
theorem pg_d257 : px_chkL 20 method_4_code 0 pg_c257 = true := by decide +kernel
theorem pg_y257 : px_chkY pg_m257 0 (622, 621, 113) = true := by decide +kernel
theorem pg_d258 : px_chkL 20 method_5_code 0 pg_c258 = true := by decide +kernel
theorem pg_y258 : px_chkY pg_m258 0 (629, 628, 113) = true := by decide +kernel
theorem pg_d259 : px_chkL 20 method_6_code 0 pg_c259 = true := by decide +kernel
theorem pg_y259 : px_chkY pg_m259 0 (1110, 1109, 113) = true := by decide +kernel
theorem pg_d260 : px_chkL 20 method_7_code 0 pg_c260 = true := by decide +kernel
theorem pg_y260 : px_chkY pg_m260 0 (1117, 1116, 113) = true := by decide +kernel
theorem pg_d261 : px_chkL 20 method_8_code 0 pg_c261 = true := by decide +kernel
theorem pg_y261 : px_chkY pg_m261 0 (1124, 1123, 113) = true := by decide +kernel
theorem pg_d262 : px_chkL 20 method_9_code 0 pg_c262 = true := by decide +kernel
theorem pg_y262 : px_chkY pg_m262 0 (1151, 1150, 113) = true := by decide +kernel
theorem pg_d263 : px_chkL 20 method_10_code 0 pg_c263 = true := by decide +kernel
theorem pg_y263 : px_chkY pg_m263 0 (1162, 1161, 113) = true := by decide +kernel
theorem pg_d264 : px_chkL 20 method_11_code 0 pg_c264 = true := by decide +kernel
theorem pg_y264 : px_chkY pg_m264 0 (1171, 1170, 113) = true := by decide +kernel
theorem pg_d265 : px_chkL 20 method_12_code 0 pg_c265 = true := by decide +kernel
theorem pg_y265 : px_chkY pg_m265 0 (1194, 1193, 113) = true := by decide +kernel
theorem pg_d266 : px_chkL 20 method_13_code 0 pg_c266 = true := by decide +kernel
theorem pg_y266 : px_chkY pg_m266 0 (1202, 1201, 113) = true := by decide +kernel
theorem pg_d267 : px_chkL 20 method_14_code 0 pg_c267 = true := by decide +kernel
theorem pg_y267 : px_chkY pg_m267 0 (1210, 1209, 113) = true := by decide +kernel
theorem pg_d268 : px_chkL 20 method_15_code 0 pg_c268 = true := by decide +kernel
theorem pg_y268 : px_chkY pg_m268 0 (1218, 1217, 113) = true := by decide +kernel
theorem pg_d269 : px_chkL 20 method_16_code 0 pg_c269 = true := by decide +kernel
theorem pg_y269 : px_chkY pg_m269 0 (1225, 1224, 113) = true := by decide +kernel
theorem pg_d270 : px_chkL 20 method_17_code 0 pg_c270 = true := by decide +kernel
theorem pg_y270 : px_chkY pg_m270 0 (1232, 1231, 113) = true := by decide +kernel
theorem pg_d271 : px_chkL 20 method_18_code 0 pg_c271 = true := by decide +kernel
theorem pg_y271 : px_chkY pg_m271 0 (1239, 1238, 113) = true := by decide +kernel
theorem pg_d272 : px_chkL 20 method_19_code 0 pg_c272 = true := by decide +kernel
theorem pg_y272 : px_chkY pg_m272 0 (1264, 1263, 113) = true := by decide +kernel
theorem pg_d273 : px_chkL 20 method_20_code 0 pg_c273 = true := by decide +kernel
theorem pg_y273 : px_chkY pg_m273 0 (1300, 1299, 113) = true := by decide +kernel
theorem pg_d274 : px_chkL 20 method_21_code 0 pg_c274 = true := by decide +kernel
theorem pg_y274 : px_chkY pg_m274 0 (1329, 1328, 113) = true := by decide +kernel
theorem pg_d275 : px_chkL 20 method_22_code 0 pg_c275 = true := by decide +kernel
theorem pg_y275 : px_chkY pg_m275 0 (1357, 1356, 113) = true := by decide +kernel
theorem pg_d276 : px_chkL 20 method_23_code 0 pg_c276 = true := by decide +kernel
theorem pg_y276 : px_chkY pg_m276 0 (1364, 1363, 113) = true := by decide +kernel
