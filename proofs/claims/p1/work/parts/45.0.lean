/-! THE LAW, BY PIECES -/
theorem pg_l0 : px_chkL 20 code 0 ((pg_c277.drop 0).take 100) = true := by decide +kernel
theorem pg_l100 : px_chkL 20 code 100 ((pg_c277.drop 100).take 100) = true := by decide +kernel
theorem pg_l200 : px_chkL 20 code 200 ((pg_c277.drop 200).take 100) = true := by decide +kernel
theorem pg_l300 : px_chkL 20 code 300 ((pg_c277.drop 300).take 100) = true := by decide +kernel
