/-! every method is as the machine has it: checked by the kernel -/
set_option maxRecDepth 100000 in
theorem mz_okr_96_0 : mz_okR (4, 12, (0, 0, 0), mzc_96) mzt_96 0 60 = true := by decide +kernel
set_option maxRecDepth 100000 in
theorem mz_okr_96_1 : mz_okR (4, 12, (0, 0, 0), mzc_96) mzt_96 60 41 = true := by decide +kernel
set_option maxRecDepth 100000 in
theorem mz_oky_96 : mz_okY (4, 12, (0, 0, 0), mzc_96) mzt_96 = true := by decide +kernel
set_option maxRecDepth 100000 in
theorem mz_okr_97_0 : mz_okR (4, 12, (0, 0, 0), mzc_97) mzt_97 0 41 = true := by decide +kernel
set_option maxRecDepth 100000 in
theorem mz_oky_97 : mz_okY (4, 12, (0, 0, 0), mzc_97) mzt_97 = true := by decide +kernel
set_option maxRecDepth 100000 in
theorem mz_okr_98_0 : mz_okR (1, 0, (0, 0, 0), mzc_98) mzt_98 0 5 = true := by decide +kernel
set_option maxRecDepth 100000 in
theorem mz_oky_98 : mz_okY (1, 0, (0, 0, 0), mzc_98) mzt_98 = true := by decide +kernel
set_option maxRecDepth 100000 in
theorem mz_okr_99_0 : mz_okR (5, 12, (0, 0, 0), mzc_99) mzt_99 0 60 = true := by decide +kernel
set_option maxRecDepth 100000 in
theorem mz_okr_99_1 : mz_okR (5, 12, (0, 0, 0), mzc_99) mzt_99 60 37 = true := by decide +kernel
set_option maxRecDepth 100000 in
theorem mz_oky_99 : mz_okY (5, 12, (0, 0, 0), mzc_99) mzt_99 = true := by decide +kernel
set_option maxRecDepth 100000 in
theorem mz_okr_100_0 : mz_okR (3, 12, (0, 0, 0), mzc_100) mzt_100 0 25 = true := by decide +kernel
set_option maxRecDepth 100000 in
theorem mz_oky_100 : mz_okY (3, 12, (0, 0, 0), mzc_100) mzt_100 = true := by decide +kernel
set_option maxRecDepth 100000 in
theorem mz_okr_101_0 : mz_okR (3, 12, (0, 0, 0), mzc_101) mzt_101 0 26 = true := by decide +kernel
set_option maxRecDepth 100000 in
theorem mz_oky_101 : mz_okY (3, 12, (0, 0, 0), mzc_101) mzt_101 = true := by decide +kernel
set_option maxRecDepth 100000 in
theorem mz_okr_102_0 : mz_okR (9, 12, (0, 0, 0), mzc_102) mzt_102 0 60 = true := by decide +kernel
set_option maxRecDepth 100000 in
theorem mz_okr_102_1 : mz_okR (9, 12, (0, 0, 0), mzc_102) mzt_102 60 23 = true := by decide +kernel
set_option maxRecDepth 100000 in
theorem mz_oky_102 : mz_okY (9, 12, (0, 0, 0), mzc_102) mzt_102 = true := by decide +kernel
set_option maxRecDepth 100000 in
theorem mz_okr_103_0 : mz_okR (2, 12, (0, 0, 0), mzc_103) mzt_103 0 18 = true := by decide +kernel
set_option maxRecDepth 100000 in
theorem mz_oky_103 : mz_okY (2, 12, (0, 0, 0), mzc_103) mzt_103 = true := by decide +kernel
set_option maxRecDepth 100000 in
theorem mz_okr_104_0 : mz_okR (2, 12, (0, 0, 0), mzc_104) mzt_104 0 54 = true := by decide +kernel
set_option maxRecDepth 100000 in
theorem mz_oky_104 : mz_okY (2, 12, (0, 0, 0), mzc_104) mzt_104 = true := by decide +kernel
set_option maxRecDepth 100000 in
theorem mz_okr_105_0 : mz_okR (3, 12, (0, 0, 0), mzc_105) mzt_105 0 39 = true := by decide +kernel
set_option maxRecDepth 100000 in
theorem mz_oky_105 : mz_okY (3, 12, (0, 0, 0), mzc_105) mzt_105 = true := by decide +kernel
set_option maxRecDepth 100000 in
theorem mz_okr_106_0 : mz_okR (5, 12, (0, 0, 0), mzc_106) mzt_106 0 30 = true := by decide +kernel
set_option maxRecDepth 100000 in
theorem mz_oky_106 : mz_okY (5, 12, (0, 0, 0), mzc_106) mzt_106 = true := by decide +kernel
set_option maxRecDepth 100000 in
theorem mz_okr_107_0 : mz_okR (4, 12, (0, 0, 0), mzc_107) mzt_107 0 26 = true := by decide +kernel
set_option maxRecDepth 100000 in
theorem mz_oky_107 : mz_okY (4, 12, (0, 0, 0), mzc_107) mzt_107 = true := by decide +kernel
set_option maxRecDepth 100000 in
theorem mz_okr_108_0 : mz_okR (5, 12, (0, 0, 0), mzc_108) mzt_108 0 28 = true := by decide +kernel
set_option maxRecDepth 100000 in
theorem mz_oky_108 : mz_okY (5, 12, (0, 0, 0), mzc_108) mzt_108 = true := by decide +kernel
set_option maxRecDepth 100000 in
theorem mz_okr_109_0 : mz_okR (4, 12, (0, 0, 0), mzc_109) mzt_109 0 29 = true := by decide +kernel
set_option maxRecDepth 100000 in
theorem mz_oky_109 : mz_okY (4, 12, (0, 0, 0), mzc_109) mzt_109 = true := by decide +kernel
set_option maxRecDepth 100000 in
theorem mz_okr_110_0 : mz_okR (3, 12, (0, 0, 0), mzc_110) mzt_110 0 18 = true := by decide +kernel
set_option maxRecDepth 100000 in
theorem mz_oky_110 : mz_okY (3, 12, (0, 0, 0), mzc_110) mzt_110 = true := by decide +kernel
set_option maxRecDepth 100000 in
theorem mz_okr_111_0 : mz_okR (5, 12, (0, 0, 0), mzc_111) mzt_111 0 39 = true := by decide +kernel
set_option maxRecDepth 100000 in
theorem mz_oky_111 : mz_okY (5, 12, (0, 0, 0), mzc_111) mzt_111 = true := by decide +kernel
set_option maxRecDepth 100000 in
theorem mz_okr_112_0 : mz_okR (5, 12, (0, 0, 0), mzc_112) mzt_112 0 60 = true := by decide +kernel
set_option maxRecDepth 100000 in
theorem mz_okr_112_1 : mz_okR (5, 12, (0, 0, 0), mzc_112) mzt_112 60 8 = true := by decide +kernel
set_option maxRecDepth 100000 in
theorem mz_oky_112 : mz_okY (5, 12, (0, 0, 0), mzc_112) mzt_112 = true := by decide +kernel
set_option maxRecDepth 100000 in
theorem mz_okr_113_0 : mz_okR (3, 12, (0, 0, 0), mzc_113) mzt_113 0 31 = true := by decide +kernel
set_option maxRecDepth 100000 in
theorem mz_oky_113 : mz_okY (3, 12, (0, 0, 0), mzc_113) mzt_113 = true := by decide +kernel
set_option maxRecDepth 100000 in
theorem mz_okr_114_0 : mz_okR (2, 12, (0, 0, 0), mzc_114) mzt_114 0 20 = true := by decide +kernel
set_option maxRecDepth 100000 in
theorem mz_oky_114 : mz_okY (2, 12, (0, 0, 0), mzc_114) mzt_114 = true := by decide +kernel
set_option maxRecDepth 100000 in
theorem mz_okr_115_0 : mz_okR (3, 12, (0, 0, 0), mzc_115) mzt_115 0 60 = true := by decide +kernel
set_option maxRecDepth 100000 in
theorem mz_okr_115_1 : mz_okR (3, 12, (0, 0, 0), mzc_115) mzt_115 60 20 = true := by decide +kernel
set_option maxRecDepth 100000 in
theorem mz_oky_115 : mz_okY (3, 12, (0, 0, 0), mzc_115) mzt_115 = true := by decide +kernel
set_option maxRecDepth 100000 in
theorem mz_okr_116_0 : mz_okR (5, 12, (0, 0, 0), mzc_116) mzt_116 0 60 = true := by decide +kernel
set_option maxRecDepth 100000 in
theorem mz_okr_116_1 : mz_okR (5, 12, (0, 0, 0), mzc_116) mzt_116 60 13 = true := by decide +kernel
set_option maxRecDepth 100000 in
theorem mz_oky_116 : mz_okY (5, 12, (0, 0, 0), mzc_116) mzt_116 = true := by decide +kernel
set_option maxRecDepth 100000 in
theorem mz_okr_117_0 : mz_okR (3, 12, (0, 0, 0), mzc_117) mzt_117 0 60 = true := by decide +kernel
set_option maxRecDepth 100000 in
theorem mz_okr_117_1 : mz_okR (3, 12, (0, 0, 0), mzc_117) mzt_117 60 15 = true := by decide +kernel
set_option maxRecDepth 100000 in
theorem mz_oky_117 : mz_okY (3, 12, (0, 0, 0), mzc_117) mzt_117 = true := by decide +kernel
set_option maxRecDepth 100000 in
theorem mz_okr_118_0 : mz_okR (2, 12, (0, 0, 0), mzc_118) mzt_118 0 37 = true := by decide +kernel
set_option maxRecDepth 100000 in
theorem mz_oky_118 : mz_okY (2, 12, (0, 0, 0), mzc_118) mzt_118 = true := by decide +kernel
set_option maxRecDepth 100000 in
theorem mz_okr_119_0 : mz_okR (2, 12, (0, 0, 0), mzc_119) mzt_119 0 35 = true := by decide +kernel
set_option maxRecDepth 100000 in
theorem mz_oky_119 : mz_okY (2, 12, (0, 0, 0), mzc_119) mzt_119 = true := by decide +kernel
set_option maxRecDepth 100000 in
theorem mz_okr_120_0 : mz_okR (5, 12, (0, 0, 0), mzc_120) mzt_120 0 36 = true := by decide +kernel
set_option maxRecDepth 100000 in
theorem mz_oky_120 : mz_okY (5, 12, (0, 0, 0), mzc_120) mzt_120 = true := by decide +kernel
set_option maxRecDepth 100000 in
theorem mz_okr_121_0 : mz_okR (5, 12, (0, 0, 0), mzc_121) mzt_121 0 28 = true := by decide +kernel
set_option maxRecDepth 100000 in
theorem mz_oky_121 : mz_okY (5, 12, (0, 0, 0), mzc_121) mzt_121 = true := by decide +kernel
set_option maxRecDepth 100000 in
theorem mz_okr_122_0 : mz_okR (7, 12, (0, 0, 0), mzc_122) mzt_122 0 60 = true := by decide +kernel
set_option maxRecDepth 100000 in
theorem mz_okr_122_1 : mz_okR (7, 12, (0, 0, 0), mzc_122) mzt_122 60 20 = true := by decide +kernel
set_option maxRecDepth 100000 in
theorem mz_oky_122 : mz_okY (7, 12, (0, 0, 0), mzc_122) mzt_122 = true := by decide +kernel
set_option maxRecDepth 100000 in
theorem mz_okr_123_0 : mz_okR (7, 12, (0, 0, 0), mzc_123) mzt_123 0 60 = true := by decide +kernel
set_option maxRecDepth 100000 in
theorem mz_okr_123_1 : mz_okR (7, 12, (0, 0, 0), mzc_123) mzt_123 60 20 = true := by decide +kernel
set_option maxRecDepth 100000 in
theorem mz_oky_123 : mz_okY (7, 12, (0, 0, 0), mzc_123) mzt_123 = true := by decide +kernel
set_option maxRecDepth 100000 in
theorem mz_okr_124_0 : mz_okR (4, 12, (0, 0, 0), mzc_124) mzt_124 0 26 = true := by decide +kernel
set_option maxRecDepth 100000 in
theorem mz_oky_124 : mz_okY (4, 12, (0, 0, 0), mzc_124) mzt_124 = true := by decide +kernel
set_option maxRecDepth 100000 in
theorem mz_okr_125_0 : mz_okR (8, 12, (0, 0, 0), mzc_125) mzt_125 0 60 = true := by decide +kernel
set_option maxRecDepth 100000 in
theorem mz_okr_125_1 : mz_okR (8, 12, (0, 0, 0), mzc_125) mzt_125 60 33 = true := by decide +kernel
set_option maxRecDepth 100000 in
theorem mz_oky_125 : mz_okY (8, 12, (0, 0, 0), mzc_125) mzt_125 = true := by decide +kernel
set_option maxRecDepth 100000 in
theorem mz_okr_126_0 : mz_okR (2, 12, (0, 0, 0), mzc_126) mzt_126 0 20 = true := by decide +kernel
set_option maxRecDepth 100000 in
theorem mz_oky_126 : mz_okY (2, 12, (0, 0, 0), mzc_126) mzt_126 = true := by decide +kernel
set_option maxRecDepth 100000 in
theorem mz_okr_127_0 : mz_okR (5, 12, (0, 0, 0), mzc_127) mzt_127 0 51 = true := by decide +kernel
set_option maxRecDepth 100000 in
theorem mz_oky_127 : mz_okY (5, 12, (0, 0, 0), mzc_127) mzt_127 = true := by decide +kernel
set_option maxRecDepth 100000 in
theorem mz_okr_128_0 : mz_okR (2, 12, (0, 0, 0), mzc_128) mzt_128 0 11 = true := by decide +kernel
set_option maxRecDepth 100000 in
theorem mz_oky_128 : mz_okY (2, 12, (0, 0, 0), mzc_128) mzt_128 = true := by decide +kernel
