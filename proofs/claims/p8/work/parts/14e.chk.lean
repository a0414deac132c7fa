/-! every method is as the machine has it: checked by the kernel -/
set_option maxRecDepth 100000 in
theorem mz_okr_164_0 : mz_okR (2, 12, (0, 0, 0), mzc_164) mzt_164 0 16 = true := by decide +kernel
set_option maxRecDepth 100000 in
theorem mz_oky_164 : mz_okY (2, 12, (0, 0, 0), mzc_164) mzt_164 = true := by decide +kernel
set_option maxRecDepth 100000 in
theorem mz_okr_165_0 : mz_okR (3, 12, (0, 0, 0), mzc_165) mzt_165 0 25 = true := by decide +kernel
set_option maxRecDepth 100000 in
theorem mz_oky_165 : mz_okY (3, 12, (0, 0, 0), mzc_165) mzt_165 = true := by decide +kernel
set_option maxRecDepth 100000 in
theorem mz_okr_166_0 : mz_okR (9, 12, (0, 0, 0), mzc_166) mzt_166 0 60 = true := by decide +kernel
set_option maxRecDepth 100000 in
theorem mz_okr_166_1 : mz_okR (9, 12, (0, 0, 0), mzc_166) mzt_166 60 53 = true := by decide +kernel
set_option maxRecDepth 100000 in
theorem mz_oky_166 : mz_okY (9, 12, (0, 0, 0), mzc_166) mzt_166 = true := by decide +kernel
set_option maxRecDepth 100000 in
theorem mz_okr_167_0 : mz_okR (3, 12, (0, 0, 0), mzc_167) mzt_167 0 20 = true := by decide +kernel
set_option maxRecDepth 100000 in
theorem mz_oky_167 : mz_okY (3, 12, (0, 0, 0), mzc_167) mzt_167 = true := by decide +kernel
set_option maxRecDepth 100000 in
theorem mz_okr_168_0 : mz_okR (5, 12, (0, 0, 0), mzc_168) mzt_168 0 46 = true := by decide +kernel
set_option maxRecDepth 100000 in
theorem mz_oky_168 : mz_okY (5, 12, (0, 0, 0), mzc_168) mzt_168 = true := by decide +kernel
set_option maxRecDepth 100000 in
theorem mz_okr_169_0 : mz_okR (4, 12, (0, 0, 0), mzc_169) mzt_169 0 36 = true := by decide +kernel
set_option maxRecDepth 100000 in
theorem mz_oky_169 : mz_okY (4, 12, (0, 0, 0), mzc_169) mzt_169 = true := by decide +kernel
set_option maxRecDepth 100000 in
theorem mz_okr_170_0 : mz_okR (2, 12, (0, 0, 0), mzc_170) mzt_170 0 8 = true := by decide +kernel
set_option maxRecDepth 100000 in
theorem mz_oky_170 : mz_okY (2, 12, (0, 0, 0), mzc_170) mzt_170 = true := by decide +kernel
set_option maxRecDepth 100000 in
theorem mz_okr_171_0 : mz_okR (1, 12, (0, 0, 0), mzc_171) mzt_171 0 22 = true := by decide +kernel
set_option maxRecDepth 100000 in
theorem mz_oky_171 : mz_okY (1, 12, (0, 0, 0), mzc_171) mzt_171 = true := by decide +kernel
set_option maxRecDepth 100000 in
theorem mz_okr_172_0 : mz_okR (8, 12, (0, 0, 0), mzc_172) mzt_172 0 60 = true := by decide +kernel
set_option maxRecDepth 100000 in
theorem mz_okr_172_1 : mz_okR (8, 12, (0, 0, 0), mzc_172) mzt_172 60 60 = true := by decide +kernel
set_option maxRecDepth 100000 in
theorem mz_okr_172_2 : mz_okR (8, 12, (0, 0, 0), mzc_172) mzt_172 120 5 = true := by decide +kernel
set_option maxRecDepth 100000 in
theorem mz_oky_172 : mz_okY (8, 12, (0, 0, 0), mzc_172) mzt_172 = true := by decide +kernel
set_option maxRecDepth 100000 in
theorem mz_okr_173_0 : mz_okR (7, 12, (0, 0, 0), mzc_173) mzt_173 0 50 = true := by decide +kernel
set_option maxRecDepth 100000 in
theorem mz_oky_173 : mz_okY (7, 12, (0, 0, 0), mzc_173) mzt_173 = true := by decide +kernel
set_option maxRecDepth 100000 in
theorem mz_okr_174_0 : mz_okR (2, 12, (0, 0, 0), mzc_174) mzt_174 0 15 = true := by decide +kernel
set_option maxRecDepth 100000 in
theorem mz_oky_174 : mz_okY (2, 12, (0, 0, 0), mzc_174) mzt_174 = true := by decide +kernel
set_option maxRecDepth 100000 in
theorem mz_okr_175_0 : mz_okR (1, 12, (0, 0, 0), mzc_175) mzt_175 0 60 = true := by decide +kernel
set_option maxRecDepth 100000 in
theorem mz_okr_175_1 : mz_okR (1, 12, (0, 0, 0), mzc_175) mzt_175 60 4 = true := by decide +kernel
set_option maxRecDepth 100000 in
theorem mz_oky_175 : mz_okY (1, 12, (0, 0, 0), mzc_175) mzt_175 = true := by decide +kernel
set_option maxRecDepth 100000 in
theorem mz_okr_176_0 : mz_okR (4, 12, (0, 0, 0), mzc_176) mzt_176 0 53 = true := by decide +kernel
set_option maxRecDepth 100000 in
theorem mz_oky_176 : mz_okY (4, 12, (0, 0, 0), mzc_176) mzt_176 = true := by decide +kernel
set_option maxRecDepth 100000 in
theorem mz_okr_177_0 : mz_okR (3, 12, (0, 0, 0), mzc_177) mzt_177 0 36 = true := by decide +kernel
set_option maxRecDepth 100000 in
theorem mz_oky_177 : mz_okY (3, 12, (0, 0, 0), mzc_177) mzt_177 = true := by decide +kernel
set_option maxRecDepth 100000 in
theorem mz_okr_178_0 : mz_okR (3, 12, (0, 0, 0), mzc_178) mzt_178 0 39 = true := by decide +kernel
set_option maxRecDepth 100000 in
theorem mz_oky_178 : mz_okY (3, 12, (0, 0, 0), mzc_178) mzt_178 = true := by decide +kernel
set_option maxRecDepth 100000 in
theorem mz_okr_179_0 : mz_okR (4, 12, (0, 0, 0), mzc_179) mzt_179 0 25 = true := by decide +kernel
set_option maxRecDepth 100000 in
theorem mz_oky_179 : mz_okY (4, 12, (0, 0, 0), mzc_179) mzt_179 = true := by decide +kernel
set_option maxRecDepth 100000 in
theorem mz_okr_180_0 : mz_okR (2, 12, (0, 0, 0), mzc_180) mzt_180 0 51 = true := by decide +kernel
set_option maxRecDepth 100000 in
theorem mz_oky_180 : mz_okY (2, 12, (0, 0, 0), mzc_180) mzt_180 = true := by decide +kernel
set_option maxRecDepth 100000 in
theorem mz_okr_181_0 : mz_okR (2, 12, (0, 0, 0), mzc_181) mzt_181 0 20 = true := by decide +kernel
set_option maxRecDepth 100000 in
theorem mz_oky_181 : mz_okY (2, 12, (0, 0, 0), mzc_181) mzt_181 = true := by decide +kernel
set_option maxRecDepth 100000 in
theorem mz_okr_182_0 : mz_okR (3, 1, (0, 0, 0), mzc_182) mzt_182 0 50 = true := by decide +kernel
set_option maxRecDepth 100000 in
theorem mz_oky_182 : mz_okY (3, 1, (0, 0, 0), mzc_182) mzt_182 = true := by decide +kernel
set_option maxRecDepth 100000 in
theorem mz_okr_183_0 : mz_okR (3, 1, (0, 0, 0), mzc_183) mzt_183 0 60 = true := by decide +kernel
set_option maxRecDepth 100000 in
theorem mz_okr_183_1 : mz_okR (3, 1, (0, 0, 0), mzc_183) mzt_183 60 42 = true := by decide +kernel
set_option maxRecDepth 100000 in
theorem mz_oky_183 : mz_okY (3, 1, (0, 0, 0), mzc_183) mzt_183 = true := by decide +kernel
set_option maxRecDepth 100000 in
theorem mz_okr_184_0 : mz_okR (1, 0, (0, 0, 0), mzc_184) mzt_184 0 15 = true := by decide +kernel
set_option maxRecDepth 100000 in
theorem mz_oky_184 : mz_okY (1, 0, (0, 0, 0), mzc_184) mzt_184 = true := by decide +kernel
set_option maxRecDepth 100000 in
theorem mz_okr_185_0 : mz_okR (5, 1, (0, 0, 0), mzc_185) mzt_185 0 52 = true := by decide +kernel
set_option maxRecDepth 100000 in
theorem mz_oky_185 : mz_okY (5, 1, (0, 0, 0), mzc_185) mzt_185 = true := by decide +kernel
set_option maxRecDepth 100000 in
theorem mz_okr_186_0 : mz_okR (12, 1, (0, 0, 0), mzc_186) mzt_186 0 60 = true := by decide +kernel
set_option maxRecDepth 100000 in
theorem mz_okr_186_1 : mz_okR (12, 1, (0, 0, 0), mzc_186) mzt_186 60 36 = true := by decide +kernel
set_option maxRecDepth 100000 in
theorem mz_oky_186 : mz_okY (12, 1, (0, 0, 0), mzc_186) mzt_186 = true := by decide +kernel
set_option maxRecDepth 100000 in
theorem mz_okr_187_0 : mz_okR (4, 0, (0, 0, 0), mzc_187) mzt_187 0 14 = true := by decide +kernel
set_option maxRecDepth 100000 in
theorem mz_oky_187 : mz_okY (4, 0, (0, 0, 0), mzc_187) mzt_187 = true := by decide +kernel
set_option maxRecDepth 100000 in
theorem mz_okr_188_0 : mz_okR (2, 2, (0, 0, 0), mzc_188) mzt_188 0 60 = true := by decide +kernel
set_option maxRecDepth 100000 in
theorem mz_okr_188_1 : mz_okR (2, 2, (0, 0, 0), mzc_188) mzt_188 60 11 = true := by decide +kernel
set_option maxRecDepth 100000 in
theorem mz_oky_188 : mz_okY (2, 2, (0, 0, 0), mzc_188) mzt_188 = true := by decide +kernel
set_option maxRecDepth 100000 in
theorem mz_okr_189_0 : mz_okR (1, 2, (0, 0, 0), mzc_189) mzt_189 0 4 = true := by decide +kernel
set_option maxRecDepth 100000 in
theorem mz_oky_189 : mz_okY (1, 2, (0, 0, 0), mzc_189) mzt_189 = true := by decide +kernel
set_option maxRecDepth 100000 in
theorem mz_okr_190_0 : mz_okR (3, 2, (0, 0, 0), mzc_190) mzt_190 0 60 = true := by decide +kernel
set_option maxRecDepth 100000 in
theorem mz_okr_190_1 : mz_okR (3, 2, (0, 0, 0), mzc_190) mzt_190 60 8 = true := by decide +kernel
set_option maxRecDepth 100000 in
theorem mz_oky_190 : mz_okY (3, 2, (0, 0, 0), mzc_190) mzt_190 = true := by decide +kernel
set_option maxRecDepth 100000 in
theorem mz_okr_191_0 : mz_okR (2, 2, (0, 0, 0), mzc_191) mzt_191 0 60 = true := by decide +kernel
set_option maxRecDepth 100000 in
theorem mz_okr_191_1 : mz_okR (2, 2, (0, 0, 0), mzc_191) mzt_191 60 32 = true := by decide +kernel
set_option maxRecDepth 100000 in
theorem mz_oky_191 : mz_okY (2, 2, (0, 0, 0), mzc_191) mzt_191 = true := by decide +kernel
set_option maxRecDepth 100000 in
theorem mz_okr_192_0 : mz_okR (3, 2, (0, 0, 0), mzc_192) mzt_192 0 56 = true := by decide +kernel
set_option maxRecDepth 100000 in
theorem mz_oky_192 : mz_okY (3, 2, (0, 0, 0), mzc_192) mzt_192 = true := by decide +kernel
set_option maxRecDepth 100000 in
theorem mz_okr_193_0 : mz_okR (6, 2, (0, 0, 0), mzc_193) mzt_193 0 60 = true := by decide +kernel
set_option maxRecDepth 100000 in
theorem mz_okr_193_1 : mz_okR (6, 2, (0, 0, 0), mzc_193) mzt_193 60 4 = true := by decide +kernel
set_option maxRecDepth 100000 in
theorem mz_oky_193 : mz_okY (6, 2, (0, 0, 0), mzc_193) mzt_193 = true := by decide +kernel
set_option maxRecDepth 100000 in
theorem mz_okr_194_0 : mz_okR (4, 2, (0, 0, 0), mzc_194) mzt_194 0 17 = true := by decide +kernel
set_option maxRecDepth 100000 in
theorem mz_oky_194 : mz_okY (4, 2, (0, 0, 0), mzc_194) mzt_194 = true := by decide +kernel
set_option maxRecDepth 100000 in
theorem mz_okr_195_0 : mz_okR (4, 2, (0, 0, 0), mzc_195) mzt_195 0 51 = true := by decide +kernel
set_option maxRecDepth 100000 in
theorem mz_oky_195 : mz_okY (4, 2, (0, 0, 0), mzc_195) mzt_195 = true := by decide +kernel
