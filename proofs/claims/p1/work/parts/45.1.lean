/-! THE LAW, BY PIECES -/
theorem pg_l400 : px_chkL 20 code 400 ((pg_c277.drop 400).take 100) = true := by decide +kernel
theorem pg_l500 : px_chkL 20 code 500 ((pg_c277.drop 500).take 100) = true := by decide +kernel
theorem pg_l600 : px_chkL 20 code 600 ((pg_c277.drop 600).take 100) = true := by decide +kernel
theorem pg_l700 : px_chkL 20 code 700 ((pg_c277.drop 700).take 100) = true := by decide +kernel
