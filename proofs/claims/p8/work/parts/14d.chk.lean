/-! every method is as the machine has it: checked by the kernel -/
set_option maxRecDepth 100000 in
theorem mz_okr_129_0 : mz_okR (3, 12, (0, 0, 0), mzc_129) mzt_129 0 18 = true := by decide +kernel
set_option maxRecDepth 100000 in
theorem mz_oky_129 : mz_okY (3, 12, (0, 0, 0), mzc_129) mzt_129 = true := by decide +kernel
set_option maxRecDepth 100000 in
theorem mz_okr_130_0 : mz_okR (3, 12, (0, 0, 0), mzc_130) mzt_130 0 29 = true := by decide +kernel
set_option maxRecDepth 100000 in
theorem mz_oky_130 : mz_okY (3, 12, (0, 0, 0), mzc_130) mzt_130 = true := by decide +kernel
set_option maxRecDepth 100000 in
theorem mz_okr_131_0 : mz_okR (2, 12, (0, 0, 0), mzc_131) mzt_131 0 25 = true := by decide +kernel
set_option maxRecDepth 100000 in
theorem mz_oky_131 : mz_okY (2, 12, (0, 0, 0), mzc_131) mzt_131 = true := by decide +kernel
set_option maxRecDepth 100000 in
theorem mz_okr_132_0 : mz_okR (4, 12, (0, 0, 0), mzc_132) mzt_132 0 52 = true := by decide +kernel
set_option maxRecDepth 100000 in
theorem mz_oky_132 : mz_okY (4, 12, (0, 0, 0), mzc_132) mzt_132 = true := by decide +kernel
set_option maxRecDepth 100000 in
theorem mz_okr_133_0 : mz_okR (6, 12, (0, 0, 0), mzc_133) mzt_133 0 55 = true := by decide +kernel
set_option maxRecDepth 100000 in
theorem mz_oky_133 : mz_okY (6, 12, (0, 0, 0), mzc_133) mzt_133 = true := by decide +kernel
set_option maxRecDepth 100000 in
theorem mz_okr_134_0 : mz_okR (3, 12, (0, 0, 0), mzc_134) mzt_134 0 40 = true := by decide +kernel
set_option maxRecDepth 100000 in
theorem mz_oky_134 : mz_okY (3, 12, (0, 0, 0), mzc_134) mzt_134 = true := by decide +kernel
set_option maxRecDepth 100000 in
theorem mz_okr_135_0 : mz_okR (7, 12, (0, 0, 0), mzc_135) mzt_135 0 60 = true := by decide +kernel
set_option maxRecDepth 100000 in
theorem mz_okr_135_1 : mz_okR (7, 12, (0, 0, 0), mzc_135) mzt_135 60 17 = true := by decide +kernel
set_option maxRecDepth 100000 in
theorem mz_oky_135 : mz_okY (7, 12, (0, 0, 0), mzc_135) mzt_135 = true := by decide +kernel
set_option maxRecDepth 100000 in
theorem mz_okr_136_0 : mz_okR (7, 12, (0, 0, 0), mzc_136) mzt_136 0 48 = true := by decide +kernel
set_option maxRecDepth 100000 in
theorem mz_oky_136 : mz_okY (7, 12, (0, 0, 0), mzc_136) mzt_136 = true := by decide +kernel
set_option maxRecDepth 100000 in
theorem mz_okr_137_0 : mz_okR (3, 12, (0, 0, 0), mzc_137) mzt_137 0 27 = true := by decide +kernel
set_option maxRecDepth 100000 in
theorem mz_oky_137 : mz_okY (3, 12, (0, 0, 0), mzc_137) mzt_137 = true := by decide +kernel
set_option maxRecDepth 100000 in
theorem mz_okr_138_0 : mz_okR (5, 12, (0, 0, 0), mzc_138) mzt_138 0 28 = true := by decide +kernel
set_option maxRecDepth 100000 in
theorem mz_oky_138 : mz_okY (5, 12, (0, 0, 0), mzc_138) mzt_138 = true := by decide +kernel
set_option maxRecDepth 100000 in
theorem mz_okr_139_0 : mz_okR (5, 12, (0, 0, 0), mzc_139) mzt_139 0 42 = true := by decide +kernel
set_option maxRecDepth 100000 in
theorem mz_oky_139 : mz_okY (5, 12, (0, 0, 0), mzc_139) mzt_139 = true := by decide +kernel
set_option maxRecDepth 100000 in
theorem mz_okr_140_0 : mz_okR (2, 12, (0, 0, 0), mzc_140) mzt_140 0 12 = true := by decide +kernel
set_option maxRecDepth 100000 in
theorem mz_oky_140 : mz_okY (2, 12, (0, 0, 0), mzc_140) mzt_140 = true := by decide +kernel
set_option maxRecDepth 100000 in
theorem mz_okr_141_0 : mz_okR (6, 12, (0, 0, 0), mzc_141) mzt_141 0 60 = true := by decide +kernel
set_option maxRecDepth 100000 in
theorem mz_okr_141_1 : mz_okR (6, 12, (0, 0, 0), mzc_141) mzt_141 60 31 = true := by decide +kernel
set_option maxRecDepth 100000 in
theorem mz_oky_141 : mz_okY (6, 12, (0, 0, 0), mzc_141) mzt_141 = true := by decide +kernel
set_option maxRecDepth 100000 in
theorem mz_okr_142_0 : mz_okR (7, 12, (0, 0, 0), mzc_142) mzt_142 0 60 = true := by decide +kernel
set_option maxRecDepth 100000 in
theorem mz_okr_142_1 : mz_okR (7, 12, (0, 0, 0), mzc_142) mzt_142 60 53 = true := by decide +kernel
set_option maxRecDepth 100000 in
theorem mz_oky_142 : mz_okY (7, 12, (0, 0, 0), mzc_142) mzt_142 = true := by decide +kernel
set_option maxRecDepth 100000 in
theorem mz_okr_143_0 : mz_okR (5, 12, (0, 0, 0), mzc_143) mzt_143 0 52 = true := by decide +kernel
set_option maxRecDepth 100000 in
theorem mz_oky_143 : mz_okY (5, 12, (0, 0, 0), mzc_143) mzt_143 = true := by decide +kernel
set_option maxRecDepth 100000 in
theorem mz_okr_144_0 : mz_okR (2, 12, (0, 0, 0), mzc_144) mzt_144 0 13 = true := by decide +kernel
set_option maxRecDepth 100000 in
theorem mz_oky_144 : mz_okY (2, 12, (0, 0, 0), mzc_144) mzt_144 = true := by decide +kernel
set_option maxRecDepth 100000 in
theorem mz_okr_145_0 : mz_okR (2, 12, (0, 0, 0), mzc_145) mzt_145 0 21 = true := by decide +kernel
set_option maxRecDepth 100000 in
theorem mz_oky_145 : mz_okY (2, 12, (0, 0, 0), mzc_145) mzt_145 = true := by decide +kernel
set_option maxRecDepth 100000 in
theorem mz_okr_146_0 : mz_okR (2, 12, (0, 0, 0), mzc_146) mzt_146 0 23 = true := by decide +kernel
set_option maxRecDepth 100000 in
theorem mz_oky_146 : mz_okY (2, 12, (0, 0, 0), mzc_146) mzt_146 = true := by decide +kernel
set_option maxRecDepth 100000 in
theorem mz_okr_147_0 : mz_okR (2, 12, (0, 0, 0), mzc_147) mzt_147 0 10 = true := by decide +kernel
set_option maxRecDepth 100000 in
theorem mz_oky_147 : mz_okY (2, 12, (0, 0, 0), mzc_147) mzt_147 = true := by decide +kernel
set_option maxRecDepth 100000 in
theorem mz_okr_148_0 : mz_okR (2, 12, (0, 0, 0), mzc_148) mzt_148 0 20 = true := by decide +kernel
set_option maxRecDepth 100000 in
theorem mz_oky_148 : mz_okY (2, 12, (0, 0, 0), mzc_148) mzt_148 = true := by decide +kernel
set_option maxRecDepth 100000 in
theorem mz_okr_149_0 : mz_okR (4, 12, (0, 0, 0), mzc_149) mzt_149 0 46 = true := by decide +kernel
set_option maxRecDepth 100000 in
theorem mz_oky_149 : mz_okY (4, 12, (0, 0, 0), mzc_149) mzt_149 = true := by decide +kernel
set_option maxRecDepth 100000 in
theorem mz_okr_150_0 : mz_okR (3, 12, (0, 0, 0), mzc_150) mzt_150 0 24 = true := by decide +kernel
set_option maxRecDepth 100000 in
theorem mz_oky_150 : mz_okY (3, 12, (0, 0, 0), mzc_150) mzt_150 = true := by decide +kernel
set_option maxRecDepth 100000 in
theorem mz_okr_151_0 : mz_okR (3, 12, (0, 0, 0), mzc_151) mzt_151 0 36 = true := by decide +kernel
set_option maxRecDepth 100000 in
theorem mz_oky_151 : mz_okY (3, 12, (0, 0, 0), mzc_151) mzt_151 = true := by decide +kernel
set_option maxRecDepth 100000 in
theorem mz_okr_152_0 : mz_okR (5, 12, (0, 0, 0), mzc_152) mzt_152 0 47 = true := by decide +kernel
set_option maxRecDepth 100000 in
theorem mz_oky_152 : mz_okY (5, 12, (0, 0, 0), mzc_152) mzt_152 = true := by decide +kernel
set_option maxRecDepth 100000 in
theorem mz_okr_153_0 : mz_okR (6, 12, (0, 0, 0), mzc_153) mzt_153 0 26 = true := by decide +kernel
set_option maxRecDepth 100000 in
theorem mz_oky_153 : mz_okY (6, 12, (0, 0, 0), mzc_153) mzt_153 = true := by decide +kernel
set_option maxRecDepth 100000 in
theorem mz_okr_154_0 : mz_okR (7, 12, (0, 0, 0), mzc_154) mzt_154 0 54 = true := by decide +kernel
set_option maxRecDepth 100000 in
theorem mz_oky_154 : mz_okY (7, 12, (0, 0, 0), mzc_154) mzt_154 = true := by decide +kernel
set_option maxRecDepth 100000 in
theorem mz_okr_155_0 : mz_okR (7, 12, (0, 0, 0), mzc_155) mzt_155 0 47 = true := by decide +kernel
set_option maxRecDepth 100000 in
theorem mz_oky_155 : mz_okY (7, 12, (0, 0, 0), mzc_155) mzt_155 = true := by decide +kernel
set_option maxRecDepth 100000 in
theorem mz_okr_156_0 : mz_okR (9, 12, (0, 0, 0), mzc_156) mzt_156 0 60 = true := by decide +kernel
set_option maxRecDepth 100000 in
theorem mz_okr_156_1 : mz_okR (9, 12, (0, 0, 0), mzc_156) mzt_156 60 25 = true := by decide +kernel
set_option maxRecDepth 100000 in
theorem mz_oky_156 : mz_okY (9, 12, (0, 0, 0), mzc_156) mzt_156 = true := by decide +kernel
set_option maxRecDepth 100000 in
theorem mz_okr_157_0 : mz_okR (5, 12, (0, 0, 0), mzc_157) mzt_157 0 44 = true := by decide +kernel
set_option maxRecDepth 100000 in
theorem mz_oky_157 : mz_okY (5, 12, (0, 0, 0), mzc_157) mzt_157 = true := by decide +kernel
set_option maxRecDepth 100000 in
theorem mz_okr_158_0 : mz_okR (4, 12, (0, 0, 0), mzc_158) mzt_158 0 42 = true := by decide +kernel
set_option maxRecDepth 100000 in
theorem mz_oky_158 : mz_okY (4, 12, (0, 0, 0), mzc_158) mzt_158 = true := by decide +kernel
set_option maxRecDepth 100000 in
theorem mz_okr_159_0 : mz_okR (6, 12, (0, 0, 0), mzc_159) mzt_159 0 60 = true := by decide +kernel
set_option maxRecDepth 100000 in
theorem mz_okr_159_1 : mz_okR (6, 12, (0, 0, 0), mzc_159) mzt_159 60 4 = true := by decide +kernel
set_option maxRecDepth 100000 in
theorem mz_oky_159 : mz_okY (6, 12, (0, 0, 0), mzc_159) mzt_159 = true := by decide +kernel
set_option maxRecDepth 100000 in
theorem mz_okr_160_0 : mz_okR (4, 12, (0, 0, 0), mzc_160) mzt_160 0 60 = true := by decide +kernel
set_option maxRecDepth 100000 in
theorem mz_okr_160_1 : mz_okR (4, 12, (0, 0, 0), mzc_160) mzt_160 60 26 = true := by decide +kernel
set_option maxRecDepth 100000 in
theorem mz_oky_160 : mz_okY (4, 12, (0, 0, 0), mzc_160) mzt_160 = true := by decide +kernel
set_option maxRecDepth 100000 in
theorem mz_okr_161_0 : mz_okR (6, 12, (0, 0, 0), mzc_161) mzt_161 0 60 = true := by decide +kernel
set_option maxRecDepth 100000 in
theorem mz_okr_161_1 : mz_okR (6, 12, (0, 0, 0), mzc_161) mzt_161 60 18 = true := by decide +kernel
set_option maxRecDepth 100000 in
theorem mz_oky_161 : mz_okY (6, 12, (0, 0, 0), mzc_161) mzt_161 = true := by decide +kernel
set_option maxRecDepth 100000 in
theorem mz_okr_162_0 : mz_okR (3, 12, (0, 0, 0), mzc_162) mzt_162 0 20 = true := by decide +kernel
set_option maxRecDepth 100000 in
theorem mz_oky_162 : mz_okY (3, 12, (0, 0, 0), mzc_162) mzt_162 = true := by decide +kernel
set_option maxRecDepth 100000 in
theorem mz_okr_163_0 : mz_okR (2, 12, (0, 0, 0), mzc_163) mzt_163 0 16 = true := by decide +kernel
set_option maxRecDepth 100000 in
theorem mz_oky_163 : mz_okY (2, 12, (0, 0, 0), mzc_163) mzt_163 = true := by decide +kernel
