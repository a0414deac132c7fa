/-! runs -/
theorem sz_s0 : sz_ex szP [] [] (sz_X 0) 10000 [] sz_0 = true := by decide +kernel
theorem sz_s1 : sz_ex szP [] [] (sz_X 1) 10000 [] sz_0 = true := by decide +kernel
theorem sz_s2 : sz_ex szP [] [] (sz_X 2) 10000 [] sz_0 = true := by decide +kernel
theorem sz_s3 : sz_ex szP [] [] (sz_X 3) 10000 [] sz_0 = true := by decide +kernel
theorem sz_s4 : sz_ex szP [] [] (sz_X 4) 10000 [] sz_0 = true := by decide +kernel
theorem sz_run_2 : sz_ex szP sz_D5 [] (sz_X 5) 1000000 (sz_R5 2 2) sz_0 = true := by decide +kernel
theorem sz_run_3 : sz_ex szP sz_D5 [] (sz_X 5) 1000000 (sz_R5 3 3) sz_0 = true := by decide +kernel
theorem sz_run_4 : sz_ex szP sz_D5 [] (sz_X 5) 1000000 (sz_R5 4 4) sz_0 = true := by decide +kernel
theorem sz_run_5 : sz_ex szP sz_D5 [] (sz_X 5) 1000000 (sz_R5 5 5) sz_0 = true := by decide +kernel
theorem sz_run_10 : sz_ex szP sz_D5 [] (sz_X 5) 1000000 (sz_R5 10 10) sz_0 = true := by decide +kernel
theorem sz_run_11 : sz_ex szP sz_D5 [] (sz_X 5) 1000000 (sz_R5 11 11) sz_0 = true := by decide +kernel
theorem sz_run_12 : sz_ex szP sz_D5 [] (sz_X 5) 1000000 (sz_R5 12 12) sz_0 = true := by decide +kernel
theorem sz_run_13 : sz_ex szP sz_D5 [] (sz_X 5) 1000000 (sz_R5 13 13) sz_0 = true := by decide +kernel
theorem sz_run_14 : sz_ex szP sz_D5 [] (sz_X 5) 1000000 (sz_R5 14 14) sz_0 = true := by decide +kernel
theorem sz_run_15 : sz_ex szP sz_D5 [] (sz_X 5) 1000000 (sz_R5 15 15) sz_0 = true := by decide +kernel
theorem sz_run_16 : sz_ex szP sz_D5 [] (sz_X 5) 1000000 (sz_R5 16 16) sz_0 = true := by decide +kernel
theorem sz_run_17 : sz_ex szP sz_D5 [] (sz_X 5) 1000000 (sz_R5 17 17) sz_0 = true := by decide +kernel
theorem sz_run_18 : sz_ex szP sz_D5 [] (sz_X 5) 1000000 (sz_R5 18 18) sz_0 = true := by decide +kernel
theorem sz_run_19 : sz_ex szP sz_D5 [] (sz_X 5) 1000000 (sz_R5 19 19) sz_0 = true := by decide +kernel
theorem sz_run_20 : sz_ex szP sz_D5 [] (sz_X 5) 1000000 (sz_R5 20 20) sz_0 = true := by decide +kernel
theorem sz_run_21 : sz_ex szP sz_D5 [] (sz_X 5) 1000000 (sz_R5 21 21) sz_0 = true := by decide +kernel
theorem sz_run_22 : sz_ex szP sz_D5 [] (sz_X 5) 1000000 (sz_R5 22 22) sz_0 = true := by decide +kernel
theorem sz_run_23 : sz_ex szP sz_D5 [] (sz_X 5) 1000000 (sz_R5 23 23) sz_0 = true := by decide +kernel
theorem sz_run_24 : sz_ex szP sz_D5 [] (sz_X 5) 1000000 (sz_R5 24 24) sz_0 = true := by decide +kernel
theorem sz_run_25 : sz_ex szP sz_D5 [] (sz_X 5) 1000000 (sz_R5 25 25) sz_0 = true := by decide +kernel
theorem sz_run_26 : sz_ex szP sz_D5 [] (sz_X 5) 1000000 (sz_R5 26 26) sz_0 = true := by decide +kernel
theorem sz_run_29 : sz_ex szP sz_D5 [] (sz_X 5) 1000000 (sz_R5 29 29) sz_0 = true := by decide +kernel
theorem sz_run_33 : sz_ex szP sz_D5 [] (sz_X 5) 1000000 (sz_R5 33 33) sz_0 = true := by decide +kernel
theorem sz_run_34 : sz_ex szP sz_D5 [] (sz_X 5) 1000000 (sz_R5 34 34) sz_0 = true := by decide +kernel
theorem sz_run_35 : sz_ex szP sz_D5 [] (sz_X 5) 1000000 (sz_R5 35 35) sz_0 = true := by decide +kernel
theorem sz_run_36 : sz_ex szP sz_D5 [] (sz_X 5) 1000000 (sz_R5 36 36) sz_0 = true := by decide +kernel
theorem sz_run_37 : sz_ex szP sz_D5 [] (sz_X 5) 1000000 (sz_R5 37 37) sz_0 = true := by decide +kernel
theorem sz_run_38 : sz_ex szP sz_D5 [] (sz_X 5) 1000000 (sz_R5 38 63) sz_0 = true := by decide +kernel
