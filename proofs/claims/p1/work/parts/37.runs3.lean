/-! longer runs -/
theorem sz_run_7 : sz_ex szP sz_D5 sz_T6 (sz_X 5) 1000000 (sz_R5 7 7) sz_0 = true := by decide +kernel
theorem sz_run_30 : sz_ex szP sz_D5 sz_T6 (sz_X 5) 1000000 (sz_R5 30 30) sz_0 = true := by decide +kernel
theorem sz_run_9_0 : sz_ex szP sz_D5 sz_T6 (sz_X 5) 1000000 (sz_R6 9 9 (-2147483648) 10 (-2147483648) 2147483647) sz_0 = true := by decide +kernel
theorem sz_run_9_1 : sz_ex szP sz_D5 sz_T6 (sz_X 5) 1000000 (sz_R6 9 9 11 20 (-2147483648) 2147483647) sz_0 = true := by decide +kernel
theorem sz_run_9_2 : sz_ex szP sz_D5 sz_T6 (sz_X 5) 1000000 (sz_R6 9 9 21 30 (-2147483648) 2147483647) sz_0 = true := by decide +kernel
theorem sz_run_9_3 : sz_ex szP sz_D5 sz_T6 (sz_X 5) 1000000 (sz_R6 9 9 31 2147483647 (-2147483648) 2147483647) sz_0 = true := by decide +kernel
theorem sz_run_27_0 : sz_ex szP sz_D5 sz_T6 (sz_X 5) 1000000 (sz_R6 27 27 (-2147483648) 10 (-2147483648) 2147483647) sz_0 = true := by decide +kernel
theorem sz_run_27_1 : sz_ex szP sz_D5 sz_T6 (sz_X 5) 1000000 (sz_R6 27 27 11 20 (-2147483648) 2147483647) sz_0 = true := by decide +kernel
theorem sz_run_27_2 : sz_ex szP sz_D5 sz_T6 (sz_X 5) 1000000 (sz_R6 27 27 21 30 (-2147483648) 2147483647) sz_0 = true := by decide +kernel
theorem sz_run_27_3 : sz_ex szP sz_D5 sz_T6 (sz_X 5) 1000000 (sz_R6 27 27 31 2147483647 (-2147483648) 2147483647) sz_0 = true := by decide +kernel
theorem sz_run_8_0 : sz_ex szP sz_D5 sz_T6 (sz_X 5) 1000000 (sz_R6 8 8 (-2147483648) 0 (-2147483648) 7) sz_0 = true := by decide +kernel
theorem sz_run_8_1 : sz_ex szP sz_D5 sz_T6 (sz_X 5) 1000000 (sz_R6 8 8 (-2147483648) 0 8 2147483647) sz_0 = true := by decide +kernel
theorem sz_run_8_2 : sz_ex szP sz_D5 sz_T6 (sz_X 5) 1000000 (sz_R6 8 8 1 2147483647 (-2147483648) 7) sz_0 = true := by decide +kernel
theorem sz_run_8_3 : sz_ex szP sz_D5 sz_T6 (sz_X 5) 1000000 (sz_R6 8 8 1 2147483647 8 2147483647) sz_0 = true := by decide +kernel
