theorem run_0 : xex 0 chk0 1300 xlaw 0 xlo0 [] [] 0 0 ([], []) xfin0 = true := by decide +kernel
theorem run_1 : xex 1 chk0 1300 xlaw 0 xlo0 [] [] 0 0 ([], []) xfin0 = true := by decide +kernel
theorem run_2 : xex 2 chk0 1300 xlaw 0 xlo0 [] [] 0 0 ([], []) xfin0 = true := by decide +kernel
theorem run_3 : xex 3 chk0 1300 xlaw 0 xlo0 [] [] 0 0 ([], []) xfin0 = true := by decide +kernel
theorem run_4 : xex 4 chk0 1300 xlaw 0 xlo0 [] [] 0 0 ([], []) xfin0 = true := by decide +kernel
theorem run_5 : xex 5 chk0 1300 xlaw 0 xlo0 [] [] 0 0 ([], []) xfin0 = true := by decide +kernel
