/-! THE LAW, BY PIECES -/
theorem pg_l1200 : px_chkL 20 code 1200 ((pg_c277.drop 1200).take 100) = true := by decide +kernel
theorem pg_l1300 : px_chkL 20 code 1300 ((pg_c277.drop 1300).take 100) = true := by decide +kernel
theorem pg_l1400 : px_chkL 20 code 1400 ((pg_c277.drop 1400).take 100) = true := by decide +kernel
theorem pg_l1500 : px_chkL 20 code 1500 ((pg_c277.drop 1500).take 100) = true := by decide +kernel
