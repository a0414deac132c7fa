/-! every method is as the machine has it: checked by the kernel -/
set_option maxRecDepth 100000 in
theorem mz_okr_0_0 : mz_okR (8, 0, (0, 0, 0), mzc_0) mzt_0 0 30 = true := by decide +kernel
set_option maxRecDepth 100000 in
theorem mz_okr_0_1 : mz_okR (8, 0, (0, 0, 0), mzc_0) mzt_0 30 30 = true := by decide +kernel
set_option maxRecDepth 100000 in
theorem mz_okr_0_2 : mz_okR (8, 0, (0, 0, 0), mzc_0) mzt_0 60 30 = true := by decide +kernel
set_option maxRecDepth 100000 in
theorem mz_okr_0_3 : mz_okR (8, 0, (0, 0, 0), mzc_0) mzt_0 90 30 = true := by decide +kernel
set_option maxRecDepth 100000 in
theorem mz_okr_0_4 : mz_okR (8, 0, (0, 0, 0), mzc_0) mzt_0 120 30 = true := by decide +kernel
set_option maxRecDepth 100000 in
theorem mz_okr_0_5 : mz_okR (8, 0, (0, 0, 0), mzc_0) mzt_0 150 30 = true := by decide +kernel
set_option maxRecDepth 100000 in
theorem mz_okr_0_6 : mz_okR (8, 0, (0, 0, 0), mzc_0) mzt_0 180 30 = true := by decide +kernel
set_option maxRecDepth 100000 in
theorem mz_okr_0_7 : mz_okR (8, 0, (0, 0, 0), mzc_0) mzt_0 210 30 = true := by decide +kernel
set_option maxRecDepth 100000 in
theorem mz_okr_0_8 : mz_okR (8, 0, (0, 0, 0), mzc_0) mzt_0 240 30 = true := by decide +kernel
set_option maxRecDepth 100000 in
theorem mz_okr_0_9 : mz_okR (8, 0, (0, 0, 0), mzc_0) mzt_0 270 30 = true := by decide +kernel
set_option maxRecDepth 100000 in
theorem mz_okr_0_10 : mz_okR (8, 0, (0, 0, 0), mzc_0) mzt_0 300 30 = true := by decide +kernel
set_option maxRecDepth 100000 in
theorem mz_okr_0_11 : mz_okR (8, 0, (0, 0, 0), mzc_0) mzt_0 330 30 = true := by decide +kernel
set_option maxRecDepth 100000 in
theorem mz_okr_0_12 : mz_okR (8, 0, (0, 0, 0), mzc_0) mzt_0 360 30 = true := by decide +kernel
set_option maxRecDepth 100000 in
theorem mz_okr_0_13 : mz_okR (8, 0, (0, 0, 0), mzc_0) mzt_0 390 30 = true := by decide +kernel
set_option maxRecDepth 100000 in
theorem mz_okr_0_14 : mz_okR (8, 0, (0, 0, 0), mzc_0) mzt_0 420 30 = true := by decide +kernel
set_option maxRecDepth 100000 in
theorem mz_okr_0_15 : mz_okR (8, 0, (0, 0, 0), mzc_0) mzt_0 450 30 = true := by decide +kernel
set_option maxRecDepth 100000 in
theorem mz_okr_0_16 : mz_okR (8, 0, (0, 0, 0), mzc_0) mzt_0 480 30 = true := by decide +kernel
set_option maxRecDepth 100000 in
theorem mz_okr_0_17 : mz_okR (8, 0, (0, 0, 0), mzc_0) mzt_0 510 30 = true := by decide +kernel
set_option maxRecDepth 100000 in
theorem mz_okr_0_18 : mz_okR (8, 0, (0, 0, 0), mzc_0) mzt_0 540 30 = true := by decide +kernel
set_option maxRecDepth 100000 in
theorem mz_okr_0_19 : mz_okR (8, 0, (0, 0, 0), mzc_0) mzt_0 570 30 = true := by decide +kernel
set_option maxRecDepth 100000 in
theorem mz_okr_0_20 : mz_okR (8, 0, (0, 0, 0), mzc_0) mzt_0 600 30 = true := by decide +kernel
set_option maxRecDepth 100000 in
theorem mz_okr_0_21 : mz_okR (8, 0, (0, 0, 0), mzc_0) mzt_0 630 30 = true := by decide +kernel
set_option maxRecDepth 100000 in
theorem mz_okr_0_22 : mz_okR (8, 0, (0, 0, 0), mzc_0) mzt_0 660 22 = true := by decide +kernel
set_option maxRecDepth 100000 in
theorem mz_okr_1_0 : mz_okR (5, 0, (0, 8, 9), mzc_1) mzt_1 0 14 = true := by decide +kernel
set_option maxRecDepth 100000 in
theorem mz_oky_1 : mz_okY (5, 0, (0, 8, 9), mzc_1) mzt_1 = true := by decide +kernel
set_option maxRecDepth 100000 in
theorem mz_okr_2_0 : mz_okR (5, 0, (0, 8, 9), mzc_2) mzt_2 0 14 = true := by decide +kernel
set_option maxRecDepth 100000 in
theorem mz_oky_2 : mz_okY (5, 0, (0, 8, 9), mzc_2) mzt_2 = true := by decide +kernel
set_option maxRecDepth 100000 in
theorem mz_okr_3_0 : mz_okR (4, 0, (0, 7, 8), mzc_3) mzt_3 0 13 = true := by decide +kernel
set_option maxRecDepth 100000 in
theorem mz_oky_3 : mz_okY (4, 0, (0, 7, 8), mzc_3) mzt_3 = true := by decide +kernel
set_option maxRecDepth 100000 in
theorem mz_okr_4_0 : mz_okR (4, 0, (0, 6, 7), mzc_4) mzt_4 0 12 = true := by decide +kernel
set_option maxRecDepth 100000 in
theorem mz_oky_4 : mz_okY (4, 0, (0, 6, 7), mzc_4) mzt_4 = true := by decide +kernel
set_option maxRecDepth 100000 in
theorem mz_okr_5_0 : mz_okR (1, 11, (0, 0, 0), mzc_5) mzt_5 0 60 = true := by decide +kernel
set_option maxRecDepth 100000 in
theorem mz_okr_5_1 : mz_okR (1, 11, (0, 0, 0), mzc_5) mzt_5 60 6 = true := by decide +kernel
set_option maxRecDepth 100000 in
theorem mz_oky_5 : mz_okY (1, 11, (0, 0, 0), mzc_5) mzt_5 = true := by decide +kernel
set_option maxRecDepth 100000 in
theorem mz_okr_6_0 : mz_okR (3, 11, (0, 0, 0), mzc_6) mzt_6 0 27 = true := by decide +kernel
set_option maxRecDepth 100000 in
theorem mz_oky_6 : mz_okY (3, 11, (0, 0, 0), mzc_6) mzt_6 = true := by decide +kernel
set_option maxRecDepth 100000 in
theorem mz_okr_7_0 : mz_okR (2, 11, (0, 0, 0), mzc_7) mzt_7 0 15 = true := by decide +kernel
set_option maxRecDepth 100000 in
theorem mz_oky_7 : mz_okY (2, 11, (0, 0, 0), mzc_7) mzt_7 = true := by decide +kernel
set_option maxRecDepth 100000 in
theorem mz_okr_8_0 : mz_okR (2, 11, (0, 0, 0), mzc_8) mzt_8 0 28 = true := by decide +kernel
set_option maxRecDepth 100000 in
theorem mz_oky_8 : mz_okY (2, 11, (0, 0, 0), mzc_8) mzt_8 = true := by decide +kernel
set_option maxRecDepth 100000 in
theorem mz_okr_9_0 : mz_okR (3, 11, (0, 0, 0), mzc_9) mzt_9 0 38 = true := by decide +kernel
set_option maxRecDepth 100000 in
theorem mz_oky_9 : mz_okY (3, 11, (0, 0, 0), mzc_9) mzt_9 = true := by decide +kernel
set_option maxRecDepth 100000 in
theorem mz_okr_10_0 : mz_okR (3, 11, (0, 0, 0), mzc_10) mzt_10 0 21 = true := by decide +kernel
set_option maxRecDepth 100000 in
theorem mz_oky_10 : mz_okY (3, 11, (0, 0, 0), mzc_10) mzt_10 = true := by decide +kernel
set_option maxRecDepth 100000 in
theorem mz_okr_11_0 : mz_okR (3, 11, (0, 0, 0), mzc_11) mzt_11 0 40 = true := by decide +kernel
set_option maxRecDepth 100000 in
theorem mz_oky_11 : mz_okY (3, 11, (0, 0, 0), mzc_11) mzt_11 = true := by decide +kernel
set_option maxRecDepth 100000 in
theorem mz_okr_12_0 : mz_okR (5, 11, (0, 0, 0), mzc_12) mzt_12 0 33 = true := by decide +kernel
set_option maxRecDepth 100000 in
theorem mz_oky_12 : mz_okY (5, 11, (0, 0, 0), mzc_12) mzt_12 = true := by decide +kernel
set_option maxRecDepth 100000 in
theorem mz_okr_13_0 : mz_okR (4, 11, (0, 0, 0), mzc_13) mzt_13 0 15 = true := by decide +kernel
set_option maxRecDepth 100000 in
theorem mz_oky_13 : mz_okY (4, 11, (0, 0, 0), mzc_13) mzt_13 = true := by decide +kernel
set_option maxRecDepth 100000 in
theorem mz_okr_14_0 : mz_okR (5, 11, (0, 0, 0), mzc_14) mzt_14 0 16 = true := by decide +kernel
set_option maxRecDepth 100000 in
theorem mz_oky_14 : mz_okY (5, 11, (0, 0, 0), mzc_14) mzt_14 = true := by decide +kernel
set_option maxRecDepth 100000 in
theorem mz_okr_15_0 : mz_okR (2, 11, (0, 0, 0), mzc_15) mzt_15 0 23 = true := by decide +kernel
set_option maxRecDepth 100000 in
theorem mz_oky_15 : mz_okY (2, 11, (0, 0, 0), mzc_15) mzt_15 = true := by decide +kernel
set_option maxRecDepth 100000 in
theorem mz_okr_16_0 : mz_okR (4, 11, (0, 0, 0), mzc_16) mzt_16 0 44 = true := by decide +kernel
set_option maxRecDepth 100000 in
theorem mz_oky_16 : mz_okY (4, 11, (0, 0, 0), mzc_16) mzt_16 = true := by decide +kernel
set_option maxRecDepth 100000 in
theorem mz_okr_17_0 : mz_okR (1, 11, (0, 0, 0), mzc_17) mzt_17 0 15 = true := by decide +kernel
set_option maxRecDepth 100000 in
theorem mz_oky_17 : mz_okY (1, 11, (0, 0, 0), mzc_17) mzt_17 = true := by decide +kernel
set_option maxRecDepth 100000 in
theorem mz_okr_18_0 : mz_okR (2, 11, (0, 0, 0), mzc_18) mzt_18 0 32 = true := by decide +kernel
set_option maxRecDepth 100000 in
theorem mz_oky_18 : mz_okY (2, 11, (0, 0, 0), mzc_18) mzt_18 = true := by decide +kernel
set_option maxRecDepth 100000 in
theorem mz_okr_19_0 : mz_okR (2, 11, (0, 0, 0), mzc_19) mzt_19 0 28 = true := by decide +kernel
set_option maxRecDepth 100000 in
theorem mz_oky_19 : mz_okY (2, 11, (0, 0, 0), mzc_19) mzt_19 = true := by decide +kernel
set_option maxRecDepth 100000 in
theorem mz_okr_20_0 : mz_okR (2, 11, (0, 0, 0), mzc_20) mzt_20 0 28 = true := by decide +kernel
set_option maxRecDepth 100000 in
theorem mz_oky_20 : mz_okY (2, 11, (0, 0, 0), mzc_20) mzt_20 = true := by decide +kernel
set_option maxRecDepth 100000 in
theorem mz_okr_21_0 : mz_okR (2, 11, (0, 0, 0), mzc_21) mzt_21 0 18 = true := by decide +kernel
set_option maxRecDepth 100000 in
theorem mz_oky_21 : mz_okY (2, 11, (0, 0, 0), mzc_21) mzt_21 = true := by decide +kernel
set_option maxRecDepth 100000 in
theorem mz_okr_22_0 : mz_okR (2, 11, (0, 0, 0), mzc_22) mzt_22 0 33 = true := by decide +kernel
set_option maxRecDepth 100000 in
theorem mz_oky_22 : mz_okY (2, 11, (0, 0, 0), mzc_22) mzt_22 = true := by decide +kernel
set_option maxRecDepth 100000 in
theorem mz_okr_23_0 : mz_okR (2, 11, (0, 0, 0), mzc_23) mzt_23 0 7 = true := by decide +kernel
set_option maxRecDepth 100000 in
theorem mz_oky_23 : mz_okY (2, 11, (0, 0, 0), mzc_23) mzt_23 = true := by decide +kernel
set_option maxRecDepth 100000 in
theorem mz_okr_24_0 : mz_okR (2, 11, (0, 0, 0), mzc_24) mzt_24 0 18 = true := by decide +kernel
set_option maxRecDepth 100000 in
theorem mz_oky_24 : mz_okY (2, 11, (0, 0, 0), mzc_24) mzt_24 = true := by decide +kernel
set_option maxRecDepth 100000 in
theorem mz_okr_25_0 : mz_okR (4, 11, (0, 0, 0), mzc_25) mzt_25 0 47 = true := by decide +kernel
set_option maxRecDepth 100000 in
theorem mz_oky_25 : mz_okY (4, 11, (0, 0, 0), mzc_25) mzt_25 = true := by decide +kernel
set_option maxRecDepth 100000 in
theorem mz_okr_26_0 : mz_okR (2, 11, (0, 0, 0), mzc_26) mzt_26 0 22 = true := by decide +kernel
set_option maxRecDepth 100000 in
theorem mz_oky_26 : mz_okY (2, 11, (0, 0, 0), mzc_26) mzt_26 = true := by decide +kernel
set_option maxRecDepth 100000 in
theorem mz_okr_27_0 : mz_okR (3, 11, (0, 0, 0), mzc_27) mzt_27 0 19 = true := by decide +kernel
set_option maxRecDepth 100000 in
theorem mz_oky_27 : mz_okY (3, 11, (0, 0, 0), mzc_27) mzt_27 = true := by decide +kernel
set_option maxRecDepth 100000 in
theorem mz_okr_28_0 : mz_okR (5, 11, (0, 0, 0), mzc_28) mzt_28 0 35 = true := by decide +kernel
set_option maxRecDepth 100000 in
theorem mz_oky_28 : mz_okY (5, 11, (0, 0, 0), mzc_28) mzt_28 = true := by decide +kernel
set_option maxRecDepth 100000 in
theorem mz_okr_29_0 : mz_okR (6, 11, (0, 0, 0), mzc_29) mzt_29 0 47 = true := by decide +kernel
set_option maxRecDepth 100000 in
theorem mz_oky_29 : mz_okY (6, 11, (0, 0, 0), mzc_29) mzt_29 = true := by decide +kernel
set_option maxRecDepth 100000 in
theorem mz_okr_30_0 : mz_okR (6, 11, (0, 0, 0), mzc_30) mzt_30 0 41 = true := by decide +kernel
set_option maxRecDepth 100000 in
theorem mz_oky_30 : mz_okY (6, 11, (0, 0, 0), mzc_30) mzt_30 = true := by decide +kernel
set_option maxRecDepth 100000 in
theorem mz_okr_31_0 : mz_okR (4, 11, (0, 0, 0), mzc_31) mzt_31 0 38 = true := by decide +kernel
set_option maxRecDepth 100000 in
theorem mz_oky_31 : mz_okY (4, 11, (0, 0, 0), mzc_31) mzt_31 = true := by decide +kernel
