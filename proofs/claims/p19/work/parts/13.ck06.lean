theorem ck_La_law_69 : so_ckt in_La_law 1104 (am_dr 69 3 mt_La_law.1) = true := by decide +kernel
theorem ck_La_law_72 : so_ckt in_La_law 1152 (am_dr 72 3 mt_La_law.1) = true := by decide +kernel
