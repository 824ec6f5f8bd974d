theorem ck_La_law_98 : so_ckt in_La_law 1568 (am_dr 98 2 mt_La_law.1) = true := by decide +kernel
theorem ck_La_law_100 : so_ckt in_La_law 1600 (am_dr 100 2 mt_La_law.1) = true := by decide +kernel
theorem ck_La_law_102 : so_ckt in_La_law 1632 (am_dr 102 2 mt_La_law.1) = true := by decide +kernel
