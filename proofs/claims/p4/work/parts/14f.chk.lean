/-! every method is as the machine has it: checked by the kernel -/
set_option maxRecDepth 100000 in
theorem mz_okr_196_0 : mz_okR (5, 2, (0, 0, 0), mzc_196) mzt_196 0 35 = true := by decide +kernel
set_option maxRecDepth 100000 in
theorem mz_oky_196 : mz_okY (5, 2, (0, 0, 0), mzc_196) mzt_196 = true := by decide +kernel
set_option maxRecDepth 100000 in
theorem mz_okr_197_0 : mz_okR (3, 2, (0, 0, 0), mzc_197) mzt_197 0 14 = true := by decide +kernel
set_option maxRecDepth 100000 in
theorem mz_oky_197 : mz_okY (3, 2, (0, 0, 0), mzc_197) mzt_197 = true := by decide +kernel
set_option maxRecDepth 100000 in
theorem mz_okr_198_0 : mz_okR (1, 2, (0, 0, 0), mzc_198) mzt_198 0 29 = true := by decide +kernel
set_option maxRecDepth 100000 in
theorem mz_oky_198 : mz_okY (1, 2, (0, 0, 0), mzc_198) mzt_198 = true := by decide +kernel
set_option maxRecDepth 100000 in
theorem mz_okr_199_0 : mz_okR (4, 2, (0, 0, 0), mzc_199) mzt_199 0 26 = true := by decide +kernel
set_option maxRecDepth 100000 in
theorem mz_oky_199 : mz_okY (4, 2, (0, 0, 0), mzc_199) mzt_199 = true := by decide +kernel
set_option maxRecDepth 100000 in
theorem mz_okr_200_0 : mz_okR (3, 2, (0, 0, 0), mzc_200) mzt_200 0 18 = true := by decide +kernel
set_option maxRecDepth 100000 in
theorem mz_oky_200 : mz_okY (3, 2, (0, 0, 0), mzc_200) mzt_200 = true := by decide +kernel
set_option maxRecDepth 100000 in
theorem mz_okr_201_0 : mz_okR (2, 2, (0, 0, 0), mzc_201) mzt_201 0 46 = true := by decide +kernel
set_option maxRecDepth 100000 in
theorem mz_oky_201 : mz_okY (2, 2, (0, 0, 0), mzc_201) mzt_201 = true := by decide +kernel
set_option maxRecDepth 100000 in
theorem mz_okr_202_0 : mz_okR (6, 2, (0, 0, 0), mzc_202) mzt_202 0 54 = true := by decide +kernel
set_option maxRecDepth 100000 in
theorem mz_oky_202 : mz_okY (6, 2, (0, 0, 0), mzc_202) mzt_202 = true := by decide +kernel
set_option maxRecDepth 100000 in
theorem mz_okr_203_0 : mz_okR (6, 2, (0, 0, 0), mzc_203) mzt_203 0 56 = true := by decide +kernel
set_option maxRecDepth 100000 in
theorem mz_oky_203 : mz_okY (6, 2, (0, 0, 0), mzc_203) mzt_203 = true := by decide +kernel
set_option maxRecDepth 100000 in
theorem mz_okr_204_0 : mz_okR (6, 2, (0, 0, 0), mzc_204) mzt_204 0 51 = true := by decide +kernel
set_option maxRecDepth 100000 in
theorem mz_oky_204 : mz_okY (6, 2, (0, 0, 0), mzc_204) mzt_204 = true := by decide +kernel
set_option maxRecDepth 100000 in
theorem mz_okr_205_0 : mz_okR (6, 2, (0, 0, 0), mzc_205) mzt_205 0 56 = true := by decide +kernel
set_option maxRecDepth 100000 in
theorem mz_oky_205 : mz_okY (6, 2, (0, 0, 0), mzc_205) mzt_205 = true := by decide +kernel
set_option maxRecDepth 100000 in
theorem mz_okr_206_0 : mz_okR (5, 2, (0, 0, 0), mzc_206) mzt_206 0 60 = true := by decide +kernel
set_option maxRecDepth 100000 in
theorem mz_okr_206_1 : mz_okR (5, 2, (0, 0, 0), mzc_206) mzt_206 60 1 = true := by decide +kernel
set_option maxRecDepth 100000 in
theorem mz_oky_206 : mz_okY (5, 2, (0, 0, 0), mzc_206) mzt_206 = true := by decide +kernel
set_option maxRecDepth 100000 in
theorem mz_okr_207_0 : mz_okR (4, 2, (0, 0, 0), mzc_207) mzt_207 0 22 = true := by decide +kernel
set_option maxRecDepth 100000 in
theorem mz_oky_207 : mz_okY (4, 2, (0, 0, 0), mzc_207) mzt_207 = true := by decide +kernel
set_option maxRecDepth 100000 in
theorem mz_okr_208_0 : mz_okR (4, 2, (0, 0, 0), mzc_208) mzt_208 0 21 = true := by decide +kernel
set_option maxRecDepth 100000 in
theorem mz_oky_208 : mz_okY (4, 2, (0, 0, 0), mzc_208) mzt_208 = true := by decide +kernel
set_option maxRecDepth 100000 in
theorem mz_okr_209_0 : mz_okR (4, 2, (0, 0, 0), mzc_209) mzt_209 0 31 = true := by decide +kernel
set_option maxRecDepth 100000 in
theorem mz_oky_209 : mz_okY (4, 2, (0, 0, 0), mzc_209) mzt_209 = true := by decide +kernel
set_option maxRecDepth 100000 in
theorem mz_okr_210_0 : mz_okR (4, 2, (0, 0, 0), mzc_210) mzt_210 0 31 = true := by decide +kernel
set_option maxRecDepth 100000 in
theorem mz_oky_210 : mz_okY (4, 2, (0, 0, 0), mzc_210) mzt_210 = true := by decide +kernel
set_option maxRecDepth 100000 in
theorem mz_okr_211_0 : mz_okR (3, 2, (0, 0, 0), mzc_211) mzt_211 0 60 = true := by decide +kernel
set_option maxRecDepth 100000 in
theorem mz_okr_211_1 : mz_okR (3, 2, (0, 0, 0), mzc_211) mzt_211 60 30 = true := by decide +kernel
set_option maxRecDepth 100000 in
theorem mz_oky_211 : mz_okY (3, 2, (0, 0, 0), mzc_211) mzt_211 = true := by decide +kernel
set_option maxRecDepth 100000 in
theorem mz_okr_212_0 : mz_okR (2, 3, (0, 0, 0), mzc_212) mzt_212 0 6 = true := by decide +kernel
set_option maxRecDepth 100000 in
theorem mz_oky_212 : mz_okY (2, 3, (0, 0, 0), mzc_212) mzt_212 = true := by decide +kernel
set_option maxRecDepth 100000 in
theorem mz_okr_213_0 : mz_okR (2, 3, (0, 0, 0), mzc_213) mzt_213 0 20 = true := by decide +kernel
set_option maxRecDepth 100000 in
theorem mz_oky_213 : mz_okY (2, 3, (0, 0, 0), mzc_213) mzt_213 = true := by decide +kernel
set_option maxRecDepth 100000 in
theorem mz_okr_214_0 : mz_okR (1, 4, (0, 0, 0), mzc_214) mzt_214 0 60 = true := by decide +kernel
set_option maxRecDepth 100000 in
theorem mz_okr_214_1 : mz_okR (1, 4, (0, 0, 0), mzc_214) mzt_214 60 6 = true := by decide +kernel
set_option maxRecDepth 100000 in
theorem mz_oky_214 : mz_okY (1, 4, (0, 0, 0), mzc_214) mzt_214 = true := by decide +kernel
set_option maxRecDepth 100000 in
theorem mz_okr_215_0 : mz_okR (2, 4, (0, 0, 0), mzc_215) mzt_215 0 24 = true := by decide +kernel
set_option maxRecDepth 100000 in
theorem mz_oky_215 : mz_okY (2, 4, (0, 0, 0), mzc_215) mzt_215 = true := by decide +kernel
set_option maxRecDepth 100000 in
theorem mz_okr_216_0 : mz_okR (2, 4, (0, 0, 0), mzc_216) mzt_216 0 37 = true := by decide +kernel
set_option maxRecDepth 100000 in
theorem mz_oky_216 : mz_okY (2, 4, (0, 0, 0), mzc_216) mzt_216 = true := by decide +kernel
set_option maxRecDepth 100000 in
theorem mz_okr_217_0 : mz_okR (6, 4, (0, 0, 0), mzc_217) mzt_217 0 21 = true := by decide +kernel
set_option maxRecDepth 100000 in
theorem mz_oky_217 : mz_okY (6, 4, (0, 0, 0), mzc_217) mzt_217 = true := by decide +kernel
set_option maxRecDepth 100000 in
theorem mz_okr_218_0 : mz_okR (2, 4, (0, 0, 0), mzc_218) mzt_218 0 10 = true := by decide +kernel
set_option maxRecDepth 100000 in
theorem mz_oky_218 : mz_okY (2, 4, (0, 0, 0), mzc_218) mzt_218 = true := by decide +kernel
set_option maxRecDepth 100000 in
theorem mz_okr_219_0 : mz_okR (5, 4, (0, 0, 0), mzc_219) mzt_219 0 25 = true := by decide +kernel
set_option maxRecDepth 100000 in
theorem mz_oky_219 : mz_okY (5, 4, (0, 0, 0), mzc_219) mzt_219 = true := by decide +kernel
set_option maxRecDepth 100000 in
theorem mz_okr_220_0 : mz_okR (1, 4, (0, 0, 0), mzc_220) mzt_220 0 22 = true := by decide +kernel
set_option maxRecDepth 100000 in
theorem mz_oky_220 : mz_okY (1, 4, (0, 0, 0), mzc_220) mzt_220 = true := by decide +kernel
set_option maxRecDepth 100000 in
theorem mz_okr_221_0 : mz_okR (1, 0, (0, 0, 0), mzc_221) mzt_221 0 6 = true := by decide +kernel
set_option maxRecDepth 100000 in
theorem mz_oky_221 : mz_okY (1, 0, (0, 0, 0), mzc_221) mzt_221 = true := by decide +kernel
set_option maxRecDepth 100000 in
theorem mz_okr_222_0 : mz_okR (1, 0, (0, 0, 0), mzc_222) mzt_222 0 6 = true := by decide +kernel
set_option maxRecDepth 100000 in
theorem mz_oky_222 : mz_okY (1, 0, (0, 0, 0), mzc_222) mzt_222 = true := by decide +kernel
set_option maxRecDepth 100000 in
theorem mz_okr_223_0 : mz_okR (3, 5, (0, 0, 0), mzc_223) mzt_223 0 56 = true := by decide +kernel
set_option maxRecDepth 100000 in
theorem mz_oky_223 : mz_okY (3, 5, (0, 0, 0), mzc_223) mzt_223 = true := by decide +kernel
set_option maxRecDepth 100000 in
theorem mz_okr_224_0 : mz_okR (1, 5, (0, 0, 0), mzc_224) mzt_224 0 9 = true := by decide +kernel
set_option maxRecDepth 100000 in
theorem mz_oky_224 : mz_okY (1, 5, (0, 0, 0), mzc_224) mzt_224 = true := by decide +kernel
set_option maxRecDepth 100000 in
theorem mz_okr_225_0 : mz_okR (1, 5, (0, 0, 0), mzc_225) mzt_225 0 19 = true := by decide +kernel
set_option maxRecDepth 100000 in
theorem mz_oky_225 : mz_okY (1, 5, (0, 0, 0), mzc_225) mzt_225 = true := by decide +kernel
set_option maxRecDepth 100000 in
theorem mz_okr_226_0 : mz_okR (1, 5, (0, 0, 0), mzc_226) mzt_226 0 32 = true := by decide +kernel
set_option maxRecDepth 100000 in
theorem mz_oky_226 : mz_okY (1, 5, (0, 0, 0), mzc_226) mzt_226 = true := by decide +kernel
set_option maxRecDepth 100000 in
theorem mz_okr_227_0 : mz_okR (2, 5, (0, 0, 0), mzc_227) mzt_227 0 21 = true := by decide +kernel
set_option maxRecDepth 100000 in
theorem mz_oky_227 : mz_okY (2, 5, (0, 0, 0), mzc_227) mzt_227 = true := by decide +kernel
set_option maxRecDepth 100000 in
theorem mz_okr_228_0 : mz_okR (2, 5, (0, 0, 0), mzc_228) mzt_228 0 24 = true := by decide +kernel
set_option maxRecDepth 100000 in
theorem mz_oky_228 : mz_okY (2, 5, (0, 0, 0), mzc_228) mzt_228 = true := by decide +kernel
set_option maxRecDepth 100000 in
theorem mz_okr_229_0 : mz_okR (3, 6, (0, 0, 0), mzc_229) mzt_229 0 23 = true := by decide +kernel
set_option maxRecDepth 100000 in
theorem mz_oky_229 : mz_okY (3, 6, (0, 0, 0), mzc_229) mzt_229 = true := by decide +kernel
set_option maxRecDepth 100000 in
theorem mz_okr_230_0 : mz_okR (1, 6, (0, 0, 0), mzc_230) mzt_230 0 4 = true := by decide +kernel
set_option maxRecDepth 100000 in
theorem mz_oky_230 : mz_okY (1, 6, (0, 0, 0), mzc_230) mzt_230 = true := by decide +kernel
set_option maxRecDepth 100000 in
theorem mz_okr_231_0 : mz_okR (3, 6, (0, 0, 0), mzc_231) mzt_231 0 26 = true := by decide +kernel
set_option maxRecDepth 100000 in
theorem mz_oky_231 : mz_okY (3, 6, (0, 0, 0), mzc_231) mzt_231 = true := by decide +kernel
set_option maxRecDepth 100000 in
theorem mz_okr_232_0 : mz_okR (5, 6, (0, 0, 0), mzc_232) mzt_232 0 60 = true := by decide +kernel
set_option maxRecDepth 100000 in
theorem mz_okr_232_1 : mz_okR (5, 6, (0, 0, 0), mzc_232) mzt_232 60 9 = true := by decide +kernel
set_option maxRecDepth 100000 in
theorem mz_oky_232 : mz_okY (5, 6, (0, 0, 0), mzc_232) mzt_232 = true := by decide +kernel
set_option maxRecDepth 100000 in
theorem mz_okr_233_0 : mz_okR (6, 6, (0, 0, 0), mzc_233) mzt_233 0 40 = true := by decide +kernel
set_option maxRecDepth 100000 in
theorem mz_oky_233 : mz_okY (6, 6, (0, 0, 0), mzc_233) mzt_233 = true := by decide +kernel
set_option maxRecDepth 100000 in
theorem mz_okr_234_0 : mz_okR (5, 6, (0, 0, 0), mzc_234) mzt_234 0 58 = true := by decide +kernel
set_option maxRecDepth 100000 in
theorem mz_oky_234 : mz_okY (5, 6, (0, 0, 0), mzc_234) mzt_234 = true := by decide +kernel
set_option maxRecDepth 100000 in
theorem mz_okr_235_0 : mz_okR (5, 6, (0, 0, 0), mzc_235) mzt_235 0 46 = true := by decide +kernel
set_option maxRecDepth 100000 in
theorem mz_oky_235 : mz_okY (5, 6, (0, 0, 0), mzc_235) mzt_235 = true := by decide +kernel
set_option maxRecDepth 100000 in
theorem mz_okr_236_0 : mz_okR (8, 6, (0, 0, 0), mzc_236) mzt_236 0 60 = true := by decide +kernel
set_option maxRecDepth 100000 in
theorem mz_okr_236_1 : mz_okR (8, 6, (0, 0, 0), mzc_236) mzt_236 60 15 = true := by decide +kernel
set_option maxRecDepth 100000 in
theorem mz_oky_236 : mz_okY (8, 6, (0, 0, 0), mzc_236) mzt_236 = true := by decide +kernel
set_option maxRecDepth 100000 in
theorem mz_okr_237_0 : mz_okR (5, 6, (0, 0, 0), mzc_237) mzt_237 0 36 = true := by decide +kernel
set_option maxRecDepth 100000 in
theorem mz_oky_237 : mz_okY (5, 6, (0, 0, 0), mzc_237) mzt_237 = true := by decide +kernel
set_option maxRecDepth 100000 in
theorem mz_okr_238_0 : mz_okR (6, 6, (0, 0, 0), mzc_238) mzt_238 0 60 = true := by decide +kernel
set_option maxRecDepth 100000 in
theorem mz_okr_238_1 : mz_okR (6, 6, (0, 0, 0), mzc_238) mzt_238 60 1 = true := by decide +kernel
set_option maxRecDepth 100000 in
theorem mz_oky_238 : mz_okY (6, 6, (0, 0, 0), mzc_238) mzt_238 = true := by decide +kernel
set_option maxRecDepth 100000 in
theorem mz_okr_239_0 : mz_okR (2, 6, (0, 0, 0), mzc_239) mzt_239 0 7 = true := by decide +kernel
set_option maxRecDepth 100000 in
theorem mz_oky_239 : mz_okY (2, 6, (0, 0, 0), mzc_239) mzt_239 = true := by decide +kernel
set_option maxRecDepth 100000 in
theorem mz_okr_240_0 : mz_okR (2, 6, (0, 0, 0), mzc_240) mzt_240 0 13 = true := by decide +kernel
set_option maxRecDepth 100000 in
theorem mz_oky_240 : mz_okY (2, 6, (0, 0, 0), mzc_240) mzt_240 = true := by decide +kernel
