/-! THE METHODS, ONE BY ONE -/
theorem pg_d40 : px_chkL 2 prog_4_method_1_code 0 pg_c40 = true := by decide +kernel
theorem pg_y40 : px_chkY pg_m40 2 (355, 354, 0) = true := by decide +kernel
theorem pg_d41 : px_chkL 2 prog_4_method_2_code 0 pg_c41 = true := by decide +kernel
theorem pg_y41 : px_chkY pg_m41 1 (855, 853, 854) = true := by decide +kernel
theorem pg_d42 : px_chkL 2 prog_4_method_3_code 0 pg_c42 = true := by decide +kernel
theorem pg_y42 : px_chkY pg_m42 0 (859, 858, 122) = true := by decide +kernel
theorem pg_d43 : px_chkL 2 prog_4_method_11_code 0 pg_c43 = true := by decide +kernel
theorem pg_y43 : px_chkY pg_m43 1 (867, 865, 866) = true := by decide +kernel
theorem pg_d44 : px_chkL 2 prog_4_method_4_code 0 pg_c44 = true := by decide +kernel
theorem pg_y44 : px_chkY pg_m44 1 (879, 877, 878) = true := by decide +kernel
theorem pg_d45 : px_chkL 2 prog_4_method_7_code 0 pg_c45 = true := by decide +kernel
theorem pg_y45 : px_chkY pg_m45 1 (891, 889, 890) = true := by decide +kernel
theorem pg_d46 : px_chkL 2 prog_4_method_5_code 0 pg_c46 = true := by decide +kernel
theorem pg_y46 : px_chkY pg_m46 1 (903, 901, 902) = true := by decide +kernel
theorem pg_d47 : px_chkL 2 prog_4_method_9_code 0 pg_c47 = true := by decide +kernel
theorem pg_y47 : px_chkY pg_m47 1 (913, 911, 912) = true := by decide +kernel
theorem pg_d48 : px_chkL 2 prog_4_method_10_code 0 pg_c48 = true := by decide +kernel
theorem pg_y48 : px_chkY pg_m48 1 (918, 916, 917) = true := by decide +kernel
theorem pg_d49 : px_chkL 2 prog_4_method_6_code 0 pg_c49 = true := by decide +kernel
theorem pg_y49 : px_chkY pg_m49 1 (990, 988, 989) = true := by decide +kernel
theorem pg_d50 : px_chkL 2 prog_4_method_8_code 0 pg_c50 = true := by decide +kernel
theorem pg_y50 : px_chkY pg_m50 1 (994, 992, 993) = true := by decide +kernel
theorem pg_d51 : px_chkL 2 prog_4_method_14_code 0 pg_c51 = true := by decide +kernel
theorem pg_y51 : px_chkY pg_m51 1 (1039, 1037, 1038) = true := by decide +kernel
theorem pg_d52 : px_chkL 2 prog_4_method_13_code 0 pg_c52 = true := by decide +kernel
theorem pg_y52 : px_chkY pg_m52 1 (1047, 1045, 1046) = true := by decide +kernel
theorem pg_d53 : px_chkL 2 prog_4_method_12_code 0 pg_c53 = true := by decide +kernel
theorem pg_y53 : px_chkY pg_m53 1 (1051, 1049, 1050) = true := by decide +kernel
theorem pg_d54 : px_chkL 3 prog_10_method_1_code 0 pg_c54 = true := by decide +kernel
theorem pg_y54 : px_chkY pg_m54 2 (348, 347, 0) = true := by decide +kernel
theorem pg_d55 : px_chkL 3 prog_10_method_2_code 0 pg_c55 = true := by decide +kernel
theorem pg_y55 : px_chkY pg_m55 1 (875, 873, 874) = true := by decide +kernel
theorem pg_d56 : px_chkL 3 prog_10_method_3_code 0 pg_c56 = true := by decide +kernel
theorem pg_y56 : px_chkY pg_m56 1 (883, 881, 882) = true := by decide +kernel
theorem pg_d57 : px_chkL 3 prog_10_method_5_code 0 pg_c57 = true := by decide +kernel
theorem pg_y57 : px_chkY pg_m57 1 (887, 885, 886) = true := by decide +kernel
theorem pg_d58 : px_chkL 3 prog_10_method_7_code 0 pg_c58 = true := by decide +kernel
theorem pg_y58 : px_chkY pg_m58 1 (895, 893, 894) = true := by decide +kernel
theorem pg_d59 : px_chkL 3 prog_10_method_4_code 0 pg_c59 = true := by decide +kernel
theorem pg_y59 : px_chkY pg_m59 1 (899, 897, 898) = true := by decide +kernel
theorem pg_d60 : px_chkL 3 prog_10_method_6_code 0 pg_c60 = true := by decide +kernel
theorem pg_y60 : px_chkY pg_m60 1 (909, 907, 908) = true := by decide +kernel
theorem pg_d61 : px_chkL 3 prog_10_method_10_code 0 pg_c61 = true := by decide +kernel
theorem pg_y61 : px_chkY pg_m61 1 (922, 920, 921) = true := by decide +kernel
theorem pg_d62 : px_chkL 3 prog_10_method_8_code 0 pg_c62 = true := by decide +kernel
theorem pg_y62 : px_chkY pg_m62 1 (926, 924, 925) = true := by decide +kernel
theorem pg_d63 : px_chkL 3 prog_10_method_9_code 0 pg_c63 = true := by decide +kernel
theorem pg_y63 : px_chkY pg_m63 1 (998, 996, 997) = true := by decide +kernel
theorem pg_d64 : px_chkL 4 prog_3_method_1_code 0 pg_c64 = true := by decide +kernel
theorem pg_y64 : px_chkY pg_m64 2 (411, 410, 0) = true := by decide +kernel
theorem pg_d65 : px_chkL 4 prog_3_method_2_code 0 pg_c65 = true := by decide +kernel
theorem pg_y65 : px_chkY pg_m65 1 (837, 835, 836) = true := by decide +kernel
theorem pg_d66 : px_chkL 4 prog_3_method_9_code 0 pg_c66 = true := by decide +kernel
theorem pg_y66 : px_chkY pg_m66 1 (842, 841, 7) = true := by decide +kernel
theorem pg_d67 : px_chkL 4 prog_3_method_10_code 0 pg_c67 = true := by decide +kernel
theorem pg_y67 : px_chkY pg_m67 1 (846, 845, 8) = true := by decide +kernel
theorem pg_d68 : px_chkL 4 prog_3_method_11_code 0 pg_c68 = true := by decide +kernel
theorem pg_y68 : px_chkY pg_m68 1 (850, 849, 9) = true := by decide +kernel
theorem pg_d69 : px_chkL 4 prog_3_method_12_code 0 pg_c69 = true := by decide +kernel
theorem pg_y69 : px_chkY pg_m69 1 (871, 870, 10) = true := by decide +kernel
theorem pg_d70 : px_chkL 4 prog_3_method_3_code 0 pg_c70 = true := by decide +kernel
theorem pg_y70 : px_chkY pg_m70 1 (1015, 1013, 1014) = true := by decide +kernel
theorem pg_d71 : px_chkL 4 prog_3_method_4_code 0 pg_c71 = true := by decide +kernel
theorem pg_y71 : px_chkY pg_m71 0 (1018, 1017, 123) = true := by decide +kernel
theorem pg_d72 : px_chkL 4 prog_3_method_6_code 0 pg_c72 = true := by decide +kernel
theorem pg_y72 : px_chkY pg_m72 0 (1022, 1021, 123) = true := by decide +kernel
theorem pg_d73 : px_chkL 4 prog_3_method_7_code 0 pg_c73 = true := by decide +kernel
theorem pg_y73 : px_chkY pg_m73 0 (1026, 1025, 123) = true := by decide +kernel
theorem pg_d74 : px_chkL 4 prog_3_method_8_code 0 pg_c74 = true := by decide +kernel
theorem pg_y74 : px_chkY pg_m74 0 (1030, 1029, 123) = true := by decide +kernel
theorem pg_d75 : px_chkL 4 prog_3_method_5_code 0 pg_c75 = true := by decide +kernel
theorem pg_y75 : px_chkY pg_m75 0 (1043, 1042, 123) = true := by decide +kernel
theorem pg_d76 : px_chkL 5 prog_7_method_1_code 0 pg_c76 = true := by decide +kernel
theorem pg_y76 : px_chkY pg_m76 2 (305, 304, 0) = true := by decide +kernel
theorem pg_d77 : px_chkL 5 prog_7_method_2_code 0 pg_c77 = true := by decide +kernel
theorem pg_y77 : px_chkY pg_m77 1 (750, 748, 749) = true := by decide +kernel
theorem pg_d78 : px_chkL 5 prog_7_method_3_code 0 pg_c78 = true := by decide +kernel
theorem pg_y78 : px_chkY pg_m78 1 (762, 760, 761) = true := by decide +kernel
theorem pg_d79 : px_chkL 5 prog_7_method_4_code 0 pg_c79 = true := by decide +kernel
theorem pg_y79 : px_chkY pg_m79 1 (788, 786, 787) = true := by decide +kernel
