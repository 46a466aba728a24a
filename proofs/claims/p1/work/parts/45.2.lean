/-! THE LAW, BY PIECES -/
theorem pg_l800 : px_chkL 20 code 800 ((pg_c277.drop 800).take 100) = true := by decide +kernel
theorem pg_l900 : px_chkL 20 code 900 ((pg_c277.drop 900).take 100) = true := by decide +kernel
theorem pg_l1000 : px_chkL 20 code 1000 ((pg_c277.drop 1000).take 100) = true := by decide +kernel
theorem pg_l1100 : px_chkL 20 code 1100 ((pg_c277.drop 1100).take 100) = true := by decide +kernel
