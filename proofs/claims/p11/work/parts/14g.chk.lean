/-! every method is as the machine has it: checked by the kernel -/
set_option maxRecDepth 100000 in
theorem mz_okr_241_0 : mz_okR (6, 6, (0, 0, 0), mzc_241) mzt_241 0 31 = true := by decide +kernel
set_option maxRecDepth 100000 in
theorem mz_oky_241 : mz_okY (6, 6, (0, 0, 0), mzc_241) mzt_241 = true := by decide +kernel
set_option maxRecDepth 100000 in
theorem mz_okr_242_0 : mz_okR (2, 6, (0, 0, 0), mzc_242) mzt_242 0 11 = true := by decide +kernel
set_option maxRecDepth 100000 in
theorem mz_oky_242 : mz_okY (2, 6, (0, 0, 0), mzc_242) mzt_242 = true := by decide +kernel
set_option maxRecDepth 100000 in
theorem mz_okr_243_0 : mz_okR (3, 6, (0, 0, 0), mzc_243) mzt_243 0 21 = true := by decide +kernel
set_option maxRecDepth 100000 in
theorem mz_oky_243 : mz_okY (3, 6, (0, 0, 0), mzc_243) mzt_243 = true := by decide +kernel
set_option maxRecDepth 100000 in
theorem mz_okr_244_0 : mz_okR (3, 6, (0, 0, 0), mzc_244) mzt_244 0 19 = true := by decide +kernel
set_option maxRecDepth 100000 in
theorem mz_oky_244 : mz_okY (3, 6, (0, 0, 0), mzc_244) mzt_244 = true := by decide +kernel
set_option maxRecDepth 100000 in
theorem mz_okr_245_0 : mz_okR (6, 6, (0, 0, 0), mzc_245) mzt_245 0 52 = true := by decide +kernel
set_option maxRecDepth 100000 in
theorem mz_oky_245 : mz_okY (6, 6, (0, 0, 0), mzc_245) mzt_245 = true := by decide +kernel
set_option maxRecDepth 100000 in
theorem mz_okr_246_0 : mz_okR (4, 6, (0, 0, 0), mzc_246) mzt_246 0 37 = true := by decide +kernel
set_option maxRecDepth 100000 in
theorem mz_oky_246 : mz_okY (4, 6, (0, 0, 0), mzc_246) mzt_246 = true := by decide +kernel
set_option maxRecDepth 100000 in
theorem mz_okr_247_0 : mz_okR (4, 6, (0, 0, 0), mzc_247) mzt_247 0 22 = true := by decide +kernel
set_option maxRecDepth 100000 in
theorem mz_oky_247 : mz_okY (4, 6, (0, 0, 0), mzc_247) mzt_247 = true := by decide +kernel
set_option maxRecDepth 100000 in
theorem mz_okr_248_0 : mz_okR (3, 7, (0, 0, 0), mzc_248) mzt_248 0 29 = true := by decide +kernel
set_option maxRecDepth 100000 in
theorem mz_oky_248 : mz_okY (3, 7, (0, 0, 0), mzc_248) mzt_248 = true := by decide +kernel
set_option maxRecDepth 100000 in
theorem mz_okr_249_0 : mz_okR (1, 7, (0, 0, 0), mzc_249) mzt_249 0 12 = true := by decide +kernel
set_option maxRecDepth 100000 in
theorem mz_oky_249 : mz_okY (1, 7, (0, 0, 0), mzc_249) mzt_249 = true := by decide +kernel
set_option maxRecDepth 100000 in
theorem mz_okr_250_0 : mz_okR (6, 7, (0, 0, 0), mzc_250) mzt_250 0 25 = true := by decide +kernel
set_option maxRecDepth 100000 in
theorem mz_oky_250 : mz_okY (6, 7, (0, 0, 0), mzc_250) mzt_250 = true := by decide +kernel
set_option maxRecDepth 100000 in
theorem mz_okr_251_0 : mz_okR (3, 7, (0, 0, 0), mzc_251) mzt_251 0 16 = true := by decide +kernel
set_option maxRecDepth 100000 in
theorem mz_oky_251 : mz_okY (3, 7, (0, 0, 0), mzc_251) mzt_251 = true := by decide +kernel
set_option maxRecDepth 100000 in
theorem mz_okr_252_0 : mz_okR (6, 7, (0, 0, 0), mzc_252) mzt_252 0 49 = true := by decide +kernel
set_option maxRecDepth 100000 in
theorem mz_oky_252 : mz_okY (6, 7, (0, 0, 0), mzc_252) mzt_252 = true := by decide +kernel
set_option maxRecDepth 100000 in
theorem mz_okr_253_0 : mz_okR (6, 7, (0, 0, 0), mzc_253) mzt_253 0 52 = true := by decide +kernel
set_option maxRecDepth 100000 in
theorem mz_oky_253 : mz_okY (6, 7, (0, 0, 0), mzc_253) mzt_253 = true := by decide +kernel
set_option maxRecDepth 100000 in
theorem mz_okr_254_0 : mz_okR (3, 7, (0, 0, 0), mzc_254) mzt_254 0 19 = true := by decide +kernel
set_option maxRecDepth 100000 in
theorem mz_oky_254 : mz_okY (3, 7, (0, 0, 0), mzc_254) mzt_254 = true := by decide +kernel
set_option maxRecDepth 100000 in
theorem mz_okr_255_0 : mz_okR (3, 7, (0, 0, 0), mzc_255) mzt_255 0 19 = true := by decide +kernel
set_option maxRecDepth 100000 in
theorem mz_oky_255 : mz_okY (3, 7, (0, 0, 0), mzc_255) mzt_255 = true := by decide +kernel
set_option maxRecDepth 100000 in
theorem mz_okr_256_0 : mz_okR (5, 7, (0, 0, 0), mzc_256) mzt_256 0 27 = true := by decide +kernel
set_option maxRecDepth 100000 in
theorem mz_oky_256 : mz_okY (5, 7, (0, 0, 0), mzc_256) mzt_256 = true := by decide +kernel
set_option maxRecDepth 100000 in
theorem mz_okr_257_0 : mz_okR (3, 7, (0, 0, 0), mzc_257) mzt_257 0 51 = true := by decide +kernel
set_option maxRecDepth 100000 in
theorem mz_oky_257 : mz_okY (3, 7, (0, 0, 0), mzc_257) mzt_257 = true := by decide +kernel
set_option maxRecDepth 100000 in
theorem mz_okr_258_0 : mz_okR (9, 7, (0, 0, 0), mzc_258) mzt_258 0 60 = true := by decide +kernel
set_option maxRecDepth 100000 in
theorem mz_okr_258_1 : mz_okR (9, 7, (0, 0, 0), mzc_258) mzt_258 60 20 = true := by decide +kernel
set_option maxRecDepth 100000 in
theorem mz_oky_258 : mz_okY (9, 7, (0, 0, 0), mzc_258) mzt_258 = true := by decide +kernel
set_option maxRecDepth 100000 in
theorem mz_okr_259_0 : mz_okR (2, 8, (0, 0, 0), mzc_259) mzt_259 0 14 = true := by decide +kernel
set_option maxRecDepth 100000 in
theorem mz_oky_259 : mz_okY (2, 8, (0, 0, 0), mzc_259) mzt_259 = true := by decide +kernel
set_option maxRecDepth 100000 in
theorem mz_okr_260_0 : mz_okR (1, 8, (0, 0, 0), mzc_260) mzt_260 0 34 = true := by decide +kernel
set_option maxRecDepth 100000 in
theorem mz_oky_260 : mz_okY (1, 8, (0, 0, 0), mzc_260) mzt_260 = true := by decide +kernel
set_option maxRecDepth 100000 in
theorem mz_okr_261_0 : mz_okR (2, 8, (0, 0, 0), mzc_261) mzt_261 0 37 = true := by decide +kernel
set_option maxRecDepth 100000 in
theorem mz_oky_261 : mz_okY (2, 8, (0, 0, 0), mzc_261) mzt_261 = true := by decide +kernel
set_option maxRecDepth 100000 in
theorem mz_okr_262_0 : mz_okR (6, 8, (0, 0, 0), mzc_262) mzt_262 0 60 = true := by decide +kernel
set_option maxRecDepth 100000 in
theorem mz_oky_262 : mz_okY (6, 8, (0, 0, 0), mzc_262) mzt_262 = true := by decide +kernel
set_option maxRecDepth 100000 in
theorem mz_okr_263_0 : mz_okR (5, 8, (0, 0, 0), mzc_263) mzt_263 0 55 = true := by decide +kernel
set_option maxRecDepth 100000 in
theorem mz_oky_263 : mz_okY (5, 8, (0, 0, 0), mzc_263) mzt_263 = true := by decide +kernel
set_option maxRecDepth 100000 in
theorem mz_okr_264_0 : mz_okR (1, 0, (0, 0, 0), mzc_264) mzt_264 0 12 = true := by decide +kernel
set_option maxRecDepth 100000 in
theorem mz_oky_264 : mz_okY (1, 0, (0, 0, 0), mzc_264) mzt_264 = true := by decide +kernel
set_option maxRecDepth 100000 in
theorem mz_okr_265_0 : mz_okR (5, 8, (0, 0, 0), mzc_265) mzt_265 0 60 = true := by decide +kernel
set_option maxRecDepth 100000 in
theorem mz_okr_265_1 : mz_okR (5, 8, (0, 0, 0), mzc_265) mzt_265 60 6 = true := by decide +kernel
set_option maxRecDepth 100000 in
theorem mz_oky_265 : mz_okY (5, 8, (0, 0, 0), mzc_265) mzt_265 = true := by decide +kernel
set_option maxRecDepth 100000 in
theorem mz_okr_266_0 : mz_okR (1, 8, (0, 0, 0), mzc_266) mzt_266 0 26 = true := by decide +kernel
set_option maxRecDepth 100000 in
theorem mz_oky_266 : mz_okY (1, 8, (0, 0, 0), mzc_266) mzt_266 = true := by decide +kernel
set_option maxRecDepth 100000 in
theorem mz_okr_267_0 : mz_okR (2, 8, (0, 0, 0), mzc_267) mzt_267 0 54 = true := by decide +kernel
set_option maxRecDepth 100000 in
theorem mz_oky_267 : mz_okY (2, 8, (0, 0, 0), mzc_267) mzt_267 = true := by decide +kernel
set_option maxRecDepth 100000 in
theorem mz_okr_268_0 : mz_okR (7, 8, (0, 0, 0), mzc_268) mzt_268 0 55 = true := by decide +kernel
set_option maxRecDepth 100000 in
theorem mz_oky_268 : mz_okY (7, 8, (0, 0, 0), mzc_268) mzt_268 = true := by decide +kernel
set_option maxRecDepth 100000 in
theorem mz_okr_269_0 : mz_okR (2, 8, (0, 0, 0), mzc_269) mzt_269 0 24 = true := by decide +kernel
set_option maxRecDepth 100000 in
theorem mz_oky_269 : mz_okY (2, 8, (0, 0, 0), mzc_269) mzt_269 = true := by decide +kernel
set_option maxRecDepth 100000 in
theorem mz_okr_270_0 : mz_okR (1, 8, (0, 0, 0), mzc_270) mzt_270 0 55 = true := by decide +kernel
set_option maxRecDepth 100000 in
theorem mz_oky_270 : mz_okY (1, 8, (0, 0, 0), mzc_270) mzt_270 = true := by decide +kernel
set_option maxRecDepth 100000 in
theorem mz_okr_271_0 : mz_okR (1, 0, (0, 0, 0), mzc_271) mzt_271 0 12 = true := by decide +kernel
set_option maxRecDepth 100000 in
theorem mz_oky_271 : mz_okY (1, 0, (0, 0, 0), mzc_271) mzt_271 = true := by decide +kernel
set_option maxRecDepth 100000 in
theorem mz_okr_272_0 : mz_okR (1, 9, (0, 0, 0), mzc_272) mzt_272 0 10 = true := by decide +kernel
set_option maxRecDepth 100000 in
theorem mz_oky_272 : mz_okY (1, 9, (0, 0, 0), mzc_272) mzt_272 = true := by decide +kernel
set_option maxRecDepth 100000 in
theorem mz_okr_273_0 : mz_okR (1, 9, (0, 0, 0), mzc_273) mzt_273 0 4 = true := by decide +kernel
set_option maxRecDepth 100000 in
theorem mz_oky_273 : mz_okY (1, 9, (0, 0, 0), mzc_273) mzt_273 = true := by decide +kernel
set_option maxRecDepth 100000 in
theorem mz_okr_274_0 : mz_okR (3, 9, (0, 0, 0), mzc_274) mzt_274 0 19 = true := by decide +kernel
set_option maxRecDepth 100000 in
theorem mz_oky_274 : mz_okY (3, 9, (0, 0, 0), mzc_274) mzt_274 = true := by decide +kernel
set_option maxRecDepth 100000 in
theorem mz_okr_275_0 : mz_okR (1, 10, (0, 0, 0), mzc_275) mzt_275 0 13 = true := by decide +kernel
set_option maxRecDepth 100000 in
theorem mz_oky_275 : mz_okY (1, 10, (0, 0, 0), mzc_275) mzt_275 = true := by decide +kernel
set_option maxRecDepth 100000 in
theorem mz_okr_276_0 : mz_okR (2, 10, (0, 0, 0), mzc_276) mzt_276 0 17 = true := by decide +kernel
set_option maxRecDepth 100000 in
theorem mz_oky_276 : mz_okY (2, 10, (0, 0, 0), mzc_276) mzt_276 = true := by decide +kernel
set_option maxRecDepth 100000 in
theorem mz_okr_277_0 : mz_okR (2, 10, (0, 0, 0), mzc_277) mzt_277 0 13 = true := by decide +kernel
set_option maxRecDepth 100000 in
theorem mz_oky_277 : mz_okY (2, 10, (0, 0, 0), mzc_277) mzt_277 = true := by decide +kernel
set_option maxRecDepth 100000 in
theorem mz_okr_278_0 : mz_okR (1, 10, (0, 0, 0), mzc_278) mzt_278 0 5 = true := by decide +kernel
set_option maxRecDepth 100000 in
theorem mz_oky_278 : mz_okY (1, 10, (0, 0, 0), mzc_278) mzt_278 = true := by decide +kernel
set_option maxRecDepth 100000 in
theorem mz_okr_279_0 : mz_okR (1, 10, (0, 0, 0), mzc_279) mzt_279 0 9 = true := by decide +kernel
set_option maxRecDepth 100000 in
theorem mz_oky_279 : mz_okY (1, 10, (0, 0, 0), mzc_279) mzt_279 = true := by decide +kernel
set_option maxRecDepth 100000 in
theorem mz_okr_280_0 : mz_okR (2, 10, (0, 0, 0), mzc_280) mzt_280 0 22 = true := by decide +kernel
set_option maxRecDepth 100000 in
theorem mz_oky_280 : mz_okY (2, 10, (0, 0, 0), mzc_280) mzt_280 = true := by decide +kernel
set_option maxRecDepth 100000 in
theorem mz_okr_281_0 : mz_okR (1, 10, (0, 0, 0), mzc_281) mzt_281 0 29 = true := by decide +kernel
set_option maxRecDepth 100000 in
theorem mz_oky_281 : mz_okY (1, 10, (0, 0, 0), mzc_281) mzt_281 = true := by decide +kernel
set_option maxRecDepth 100000 in
theorem mz_okr_282_0 : mz_okR (1, 10, (0, 0, 0), mzc_282) mzt_282 0 12 = true := by decide +kernel
set_option maxRecDepth 100000 in
theorem mz_oky_282 : mz_okY (1, 10, (0, 0, 0), mzc_282) mzt_282 = true := by decide +kernel
set_option maxRecDepth 100000 in
theorem mz_okr_283_0 : mz_okR (3, 10, (0, 0, 0), mzc_283) mzt_283 0 16 = true := by decide +kernel
set_option maxRecDepth 100000 in
theorem mz_oky_283 : mz_okY (3, 10, (0, 0, 0), mzc_283) mzt_283 = true := by decide +kernel
set_option maxRecDepth 100000 in
theorem mz_okr_284_0 : mz_okR (1, 10, (0, 0, 0), mzc_284) mzt_284 0 5 = true := by decide +kernel
set_option maxRecDepth 100000 in
theorem mz_oky_284 : mz_okY (1, 10, (0, 0, 0), mzc_284) mzt_284 = true := by decide +kernel
set_option maxRecDepth 100000 in
theorem mz_okr_285_0 : mz_okR (1, 0, (0, 0, 0), mzc_285) mzt_285 0 42 = true := by decide +kernel
set_option maxRecDepth 100000 in
theorem mz_oky_285 : mz_okY (1, 0, (0, 0, 0), mzc_285) mzt_285 = true := by decide +kernel
set_option maxRecDepth 100000 in
theorem mz_okr_286_0 : mz_okR (3, 0, (0, 0, 0), mzc_286) mzt_286 0 19 = true := by decide +kernel
set_option maxRecDepth 100000 in
theorem mz_oky_286 : mz_okY (3, 0, (0, 0, 0), mzc_286) mzt_286 = true := by decide +kernel
set_option maxRecDepth 100000 in
theorem mz_okr_287_0 : mz_okR (3, 0, (0, 0, 0), mzc_287) mzt_287 0 16 = true := by decide +kernel
set_option maxRecDepth 100000 in
theorem mz_oky_287 : mz_okY (3, 0, (0, 0, 0), mzc_287) mzt_287 = true := by decide +kernel
set_option maxRecDepth 100000 in
theorem mz_okr_288_0 : mz_okR (2, 0, (0, 0, 0), mzc_288) mzt_288 0 7 = true := by decide +kernel
set_option maxRecDepth 100000 in
theorem mz_oky_288 : mz_okY (2, 0, (0, 0, 0), mzc_288) mzt_288 = true := by decide +kernel
set_option maxRecDepth 100000 in
theorem mz_okr_289_0 : mz_okR (2, 0, (0, 0, 0), mzc_289) mzt_289 0 7 = true := by decide +kernel
set_option maxRecDepth 100000 in
theorem mz_oky_289 : mz_okY (2, 0, (0, 0, 0), mzc_289) mzt_289 = true := by decide +kernel
set_option maxRecDepth 100000 in
theorem mz_okr_290_0 : mz_okR (4, 0, (0, 0, 0), mzc_290) mzt_290 0 15 = true := by decide +kernel
set_option maxRecDepth 100000 in
theorem mz_oky_290 : mz_okY (4, 0, (0, 0, 0), mzc_290) mzt_290 = true := by decide +kernel
set_option maxRecDepth 100000 in
theorem mz_okr_291_0 : mz_okR (5, 0, (0, 0, 0), mzc_291) mzt_291 0 15 = true := by decide +kernel
set_option maxRecDepth 100000 in
theorem mz_oky_291 : mz_okY (5, 0, (0, 0, 0), mzc_291) mzt_291 = true := by decide +kernel
