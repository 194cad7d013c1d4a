-- the instructions are those of the byte code
set_option maxRecDepth 100000 in
theorem s_ckg_238_0 : (s_wj 238 s_c_238 && (s_wj 239 s_c_239 && (s_wj 240 s_c_240 && (s_wj 241 s_c_241 && (s_wj 242 s_c_242 && (s_wj 243 s_c_243 && (s_wj 244 s_c_244 && (s_wj 245 s_c_245 && (s_wj 246 s_c_246 && (s_wj 247 s_c_247 && (s_wj 248 s_c_248 && (s_wj 249 s_c_249 && (s_wj 250 s_c_250 && (s_wj 251 s_c_251 && (s_wj 252 s_c_252 && (s_wj 253 s_c_253 && (s_wj 254 s_c_254 && (s_wj 255 s_c_255 && (s_wj 256 s_c_256 && ( true)))))))))))))))))))) = true := by decide +kernel
theorem s_ck_238 : s_c_238.all (s_okI (g_by 238) (g_me 238).2.1) = true := s_wj_ok (s_a1 s_ckg_238_0)
theorem s_ckg_238_1 : _ = true := s_a2 s_ckg_238_0
theorem s_ck_239 : s_c_239.all (s_okI (g_by 239) (g_me 239).2.1) = true := s_wj_ok (s_a1 s_ckg_238_1)
theorem s_ckg_238_2 : _ = true := s_a2 s_ckg_238_1
theorem s_ck_240 : s_c_240.all (s_okI (g_by 240) (g_me 240).2.1) = true := s_wj_ok (s_a1 s_ckg_238_2)
theorem s_ckg_238_3 : _ = true := s_a2 s_ckg_238_2
theorem s_ck_241 : s_c_241.all (s_okI (g_by 241) (g_me 241).2.1) = true := s_wj_ok (s_a1 s_ckg_238_3)
theorem s_ckg_238_4 : _ = true := s_a2 s_ckg_238_3
theorem s_ck_242 : s_c_242.all (s_okI (g_by 242) (g_me 242).2.1) = true := s_wj_ok (s_a1 s_ckg_238_4)
theorem s_ckg_238_5 : _ = true := s_a2 s_ckg_238_4
theorem s_ck_243 : s_c_243.all (s_okI (g_by 243) (g_me 243).2.1) = true := s_wj_ok (s_a1 s_ckg_238_5)
theorem s_ckg_238_6 : _ = true := s_a2 s_ckg_238_5
theorem s_ck_244 : s_c_244.all (s_okI (g_by 244) (g_me 244).2.1) = true := s_wj_ok (s_a1 s_ckg_238_6)
theorem s_ckg_238_7 : _ = true := s_a2 s_ckg_238_6
theorem s_ck_245 : s_c_245.all (s_okI (g_by 245) (g_me 245).2.1) = true := s_wj_ok (s_a1 s_ckg_238_7)
theorem s_ckg_238_8 : _ = true := s_a2 s_ckg_238_7
theorem s_ck_246 : s_c_246.all (s_okI (g_by 246) (g_me 246).2.1) = true := s_wj_ok (s_a1 s_ckg_238_8)
theorem s_ckg_238_9 : _ = true := s_a2 s_ckg_238_8
theorem s_ck_247 : s_c_247.all (s_okI (g_by 247) (g_me 247).2.1) = true := s_wj_ok (s_a1 s_ckg_238_9)
theorem s_ckg_238_10 : _ = true := s_a2 s_ckg_238_9
theorem s_ck_248 : s_c_248.all (s_okI (g_by 248) (g_me 248).2.1) = true := s_wj_ok (s_a1 s_ckg_238_10)
theorem s_ckg_238_11 : _ = true := s_a2 s_ckg_238_10
theorem s_ck_249 : s_c_249.all (s_okI (g_by 249) (g_me 249).2.1) = true := s_wj_ok (s_a1 s_ckg_238_11)
theorem s_ckg_238_12 : _ = true := s_a2 s_ckg_238_11
theorem s_ck_250 : s_c_250.all (s_okI (g_by 250) (g_me 250).2.1) = true := s_wj_ok (s_a1 s_ckg_238_12)
theorem s_ckg_238_13 : _ = true := s_a2 s_ckg_238_12
theorem s_ck_251 : s_c_251.all (s_okI (g_by 251) (g_me 251).2.1) = true := s_wj_ok (s_a1 s_ckg_238_13)
theorem s_ckg_238_14 : _ = true := s_a2 s_ckg_238_13
theorem s_ck_252 : s_c_252.all (s_okI (g_by 252) (g_me 252).2.1) = true := s_wj_ok (s_a1 s_ckg_238_14)
theorem s_ckg_238_15 : _ = true := s_a2 s_ckg_238_14
theorem s_ck_253 : s_c_253.all (s_okI (g_by 253) (g_me 253).2.1) = true := s_wj_ok (s_a1 s_ckg_238_15)
theorem s_ckg_238_16 : _ = true := s_a2 s_ckg_238_15
theorem s_ck_254 : s_c_254.all (s_okI (g_by 254) (g_me 254).2.1) = true := s_wj_ok (s_a1 s_ckg_238_16)
theorem s_ckg_238_17 : _ = true := s_a2 s_ckg_238_16
theorem s_ck_255 : s_c_255.all (s_okI (g_by 255) (g_me 255).2.1) = true := s_wj_ok (s_a1 s_ckg_238_17)
theorem s_ckg_238_18 : _ = true := s_a2 s_ckg_238_17
theorem s_ck_256 : s_c_256.all (s_okI (g_by 256) (g_me 256).2.1) = true := s_wj_ok (s_a1 s_ckg_238_18)
set_option maxRecDepth 100000 in
theorem s_ckg_257_0 : (s_wj 257 s_c_257 && (s_wj 258 s_c_258 && (s_wj 259 s_c_259 && (s_wj 260 s_c_260 && (s_wj 261 s_c_261 && (s_wj 262 s_c_262 && (s_wj 263 s_c_263 && (s_wj 264 s_c_264 && (s_wj 265 s_c_265 && (s_wj 266 s_c_266 && (s_wj 267 s_c_267 && ( true)))))))))))) = true := by decide +kernel
theorem s_ck_257 : s_c_257.all (s_okI (g_by 257) (g_me 257).2.1) = true := s_wj_ok (s_a1 s_ckg_257_0)
theorem s_ckg_257_1 : _ = true := s_a2 s_ckg_257_0
theorem s_ck_258 : s_c_258.all (s_okI (g_by 258) (g_me 258).2.1) = true := s_wj_ok (s_a1 s_ckg_257_1)
theorem s_ckg_257_2 : _ = true := s_a2 s_ckg_257_1
theorem s_ck_259 : s_c_259.all (s_okI (g_by 259) (g_me 259).2.1) = true := s_wj_ok (s_a1 s_ckg_257_2)
theorem s_ckg_257_3 : _ = true := s_a2 s_ckg_257_2
theorem s_ck_260 : s_c_260.all (s_okI (g_by 260) (g_me 260).2.1) = true := s_wj_ok (s_a1 s_ckg_257_3)
theorem s_ckg_257_4 : _ = true := s_a2 s_ckg_257_3
theorem s_ck_261 : s_c_261.all (s_okI (g_by 261) (g_me 261).2.1) = true := s_wj_ok (s_a1 s_ckg_257_4)
theorem s_ckg_257_5 : _ = true := s_a2 s_ckg_257_4
theorem s_ck_262 : s_c_262.all (s_okI (g_by 262) (g_me 262).2.1) = true := s_wj_ok (s_a1 s_ckg_257_5)
theorem s_ckg_257_6 : _ = true := s_a2 s_ckg_257_5
theorem s_ck_263 : s_c_263.all (s_okI (g_by 263) (g_me 263).2.1) = true := s_wj_ok (s_a1 s_ckg_257_6)
theorem s_ckg_257_7 : _ = true := s_a2 s_ckg_257_6
theorem s_ck_264 : s_c_264.all (s_okI (g_by 264) (g_me 264).2.1) = true := s_wj_ok (s_a1 s_ckg_257_7)
theorem s_ckg_257_8 : _ = true := s_a2 s_ckg_257_7
theorem s_ck_265 : s_c_265.all (s_okI (g_by 265) (g_me 265).2.1) = true := s_wj_ok (s_a1 s_ckg_257_8)
theorem s_ckg_257_9 : _ = true := s_a2 s_ckg_257_8
theorem s_ck_266 : s_c_266.all (s_okI (g_by 266) (g_me 266).2.1) = true := s_wj_ok (s_a1 s_ckg_257_9)
theorem s_ckg_257_10 : _ = true := s_a2 s_ckg_257_9
theorem s_ck_267 : s_c_267.all (s_okI (g_by 267) (g_me 267).2.1) = true := s_wj_ok (s_a1 s_ckg_257_10)
set_option maxRecDepth 100000 in
theorem s_ckg_268_0 : (s_wj 268 s_c_268 && (s_wj 269 s_c_269 && (s_wj 270 s_c_270 && (s_wj 271 s_c_271 && (s_wj 272 s_c_272 && (s_wj 273 s_c_273 && (s_wj 274 s_c_274 && (s_wj 275 s_c_275 && (s_wj 276 s_c_276 && (s_wj 277 s_c_277 && (s_wj 278 s_c_278 && (s_wj 279 s_c_279 && (s_wj 280 s_c_280 && (s_wj 281 s_c_281 && (s_wj 282 s_c_282 && ( true)))))))))))))))) = true := by decide +kernel
theorem s_ck_268 : s_c_268.all (s_okI (g_by 268) (g_me 268).2.1) = true := s_wj_ok (s_a1 s_ckg_268_0)
theorem s_ckg_268_1 : _ = true := s_a2 s_ckg_268_0
theorem s_ck_269 : s_c_269.all (s_okI (g_by 269) (g_me 269).2.1) = true := s_wj_ok (s_a1 s_ckg_268_1)
theorem s_ckg_268_2 : _ = true := s_a2 s_ckg_268_1
theorem s_ck_270 : s_c_270.all (s_okI (g_by 270) (g_me 270).2.1) = true := s_wj_ok (s_a1 s_ckg_268_2)
theorem s_ckg_268_3 : _ = true := s_a2 s_ckg_268_2
theorem s_ck_271 : s_c_271.all (s_okI (g_by 271) (g_me 271).2.1) = true := s_wj_ok (s_a1 s_ckg_268_3)
theorem s_ckg_268_4 : _ = true := s_a2 s_ckg_268_3
theorem s_ck_272 : s_c_272.all (s_okI (g_by 272) (g_me 272).2.1) = true := s_wj_ok (s_a1 s_ckg_268_4)
theorem s_ckg_268_5 : _ = true := s_a2 s_ckg_268_4
theorem s_ck_273 : s_c_273.all (s_okI (g_by 273) (g_me 273).2.1) = true := s_wj_ok (s_a1 s_ckg_268_5)
theorem s_ckg_268_6 : _ = true := s_a2 s_ckg_268_5
theorem s_ck_274 : s_c_274.all (s_okI (g_by 274) (g_me 274).2.1) = true := s_wj_ok (s_a1 s_ckg_268_6)
theorem s_ckg_268_7 : _ = true := s_a2 s_ckg_268_6
theorem s_ck_275 : s_c_275.all (s_okI (g_by 275) (g_me 275).2.1) = true := s_wj_ok (s_a1 s_ckg_268_7)
theorem s_ckg_268_8 : _ = true := s_a2 s_ckg_268_7
theorem s_ck_276 : s_c_276.all (s_okI (g_by 276) (g_me 276).2.1) = true := s_wj_ok (s_a1 s_ckg_268_8)
theorem s_ckg_268_9 : _ = true := s_a2 s_ckg_268_8
theorem s_ck_277 : s_c_277.all (s_okI (g_by 277) (g_me 277).2.1) = true := s_wj_ok (s_a1 s_ckg_268_9)
theorem s_ckg_268_10 : _ = true := s_a2 s_ckg_268_9
theorem s_ck_278 : s_c_278.all (s_okI (g_by 278) (g_me 278).2.1) = true := s_wj_ok (s_a1 s_ckg_268_10)
theorem s_ckg_268_11 : _ = true := s_a2 s_ckg_268_10
theorem s_ck_279 : s_c_279.all (s_okI (g_by 279) (g_me 279).2.1) = true := s_wj_ok (s_a1 s_ckg_268_11)
theorem s_ckg_268_12 : _ = true := s_a2 s_ckg_268_11
theorem s_ck_280 : s_c_280.all (s_okI (g_by 280) (g_me 280).2.1) = true := s_wj_ok (s_a1 s_ckg_268_12)
theorem s_ckg_268_13 : _ = true := s_a2 s_ckg_268_12
theorem s_ck_281 : s_c_281.all (s_okI (g_by 281) (g_me 281).2.1) = true := s_wj_ok (s_a1 s_ckg_268_13)
theorem s_ckg_268_14 : _ = true := s_a2 s_ckg_268_13
theorem s_ck_282 : s_c_282.all (s_okI (g_by 282) (g_me 282).2.1) = true := s_wj_ok (s_a1 s_ckg_268_14)
set_option maxRecDepth 100000 in
theorem s_ckg_283_0 : (s_wj 283 s_c_283 && (s_wj 284 s_c_284 && (s_wj 285 s_c_285 && (s_wj 286 s_c_286 && (s_wj 287 s_c_287 && (s_wj 288 s_c_288 && (s_wj 289 s_c_289 && (s_wj 290 s_c_290 && (s_wj 291 s_c_291 && (s_wj 292 s_c_292 && (s_wj 293 s_c_293 && (s_wj 294 s_c_294 && (s_wj 295 s_c_295 && (s_wj 296 s_c_296 && (s_wj 297 s_c_297 && (s_wj 298 s_c_298 && (s_wj 299 s_c_299 && (s_wj 300 s_c_300 && (s_wj 301 s_c_301 && ( true)))))))))))))))))))) = true := by decide +kernel
theorem s_ck_283 : s_c_283.all (s_okI (g_by 283) (g_me 283).2.1) = true := s_wj_ok (s_a1 s_ckg_283_0)
theorem s_ckg_283_1 : _ = true := s_a2 s_ckg_283_0
theorem s_ck_284 : s_c_284.all (s_okI (g_by 284) (g_me 284).2.1) = true := s_wj_ok (s_a1 s_ckg_283_1)
theorem s_ckg_283_2 : _ = true := s_a2 s_ckg_283_1
theorem s_ck_285 : s_c_285.all (s_okI (g_by 285) (g_me 285).2.1) = true := s_wj_ok (s_a1 s_ckg_283_2)
theorem s_ckg_283_3 : _ = true := s_a2 s_ckg_283_2
theorem s_ck_286 : s_c_286.all (s_okI (g_by 286) (g_me 286).2.1) = true := s_wj_ok (s_a1 s_ckg_283_3)
theorem s_ckg_283_4 : _ = true := s_a2 s_ckg_283_3
theorem s_ck_287 : s_c_287.all (s_okI (g_by 287) (g_me 287).2.1) = true := s_wj_ok (s_a1 s_ckg_283_4)
theorem s_ckg_283_5 : _ = true := s_a2 s_ckg_283_4
theorem s_ck_288 : s_c_288.all (s_okI (g_by 288) (g_me 288).2.1) = true := s_wj_ok (s_a1 s_ckg_283_5)
theorem s_ckg_283_6 : _ = true := s_a2 s_ckg_283_5
theorem s_ck_289 : s_c_289.all (s_okI (g_by 289) (g_me 289).2.1) = true := s_wj_ok (s_a1 s_ckg_283_6)
theorem s_ckg_283_7 : _ = true := s_a2 s_ckg_283_6
theorem s_ck_290 : s_c_290.all (s_okI (g_by 290) (g_me 290).2.1) = true := s_wj_ok (s_a1 s_ckg_283_7)
theorem s_ckg_283_8 : _ = true := s_a2 s_ckg_283_7
theorem s_ck_291 : s_c_291.all (s_okI (g_by 291) (g_me 291).2.1) = true := s_wj_ok (s_a1 s_ckg_283_8)
theorem s_ckg_283_9 : _ = true := s_a2 s_ckg_283_8
theorem s_ck_292 : s_c_292.all (s_okI (g_by 292) (g_me 292).2.1) = true := s_wj_ok (s_a1 s_ckg_283_9)
theorem s_ckg_283_10 : _ = true := s_a2 s_ckg_283_9
theorem s_ck_293 : s_c_293.all (s_okI (g_by 293) (g_me 293).2.1) = true := s_wj_ok (s_a1 s_ckg_283_10)
theorem s_ckg_283_11 : _ = true := s_a2 s_ckg_283_10
theorem s_ck_294 : s_c_294.all (s_okI (g_by 294) (g_me 294).2.1) = true := s_wj_ok (s_a1 s_ckg_283_11)
theorem s_ckg_283_12 : _ = true := s_a2 s_ckg_283_11
theorem s_ck_295 : s_c_295.all (s_okI (g_by 295) (g_me 295).2.1) = true := s_wj_ok (s_a1 s_ckg_283_12)
theorem s_ckg_283_13 : _ = true := s_a2 s_ckg_283_12
theorem s_ck_296 : s_c_296.all (s_okI (g_by 296) (g_me 296).2.1) = true := s_wj_ok (s_a1 s_ckg_283_13)
theorem s_ckg_283_14 : _ = true := s_a2 s_ckg_283_13
theorem s_ck_297 : s_c_297.all (s_okI (g_by 297) (g_me 297).2.1) = true := s_wj_ok (s_a1 s_ckg_283_14)
theorem s_ckg_283_15 : _ = true := s_a2 s_ckg_283_14
theorem s_ck_298 : s_c_298.all (s_okI (g_by 298) (g_me 298).2.1) = true := s_wj_ok (s_a1 s_ckg_283_15)
theorem s_ckg_283_16 : _ = true := s_a2 s_ckg_283_15
theorem s_ck_299 : s_c_299.all (s_okI (g_by 299) (g_me 299).2.1) = true := s_wj_ok (s_a1 s_ckg_283_16)
theorem s_ckg_283_17 : _ = true := s_a2 s_ckg_283_16
theorem s_ck_300 : s_c_300.all (s_okI (g_by 300) (g_me 300).2.1) = true := s_wj_ok (s_a1 s_ckg_283_17)
theorem s_ckg_283_18 : _ = true := s_a2 s_ckg_283_17
theorem s_ck_301 : s_c_301.all (s_okI (g_by 301) (g_me 301).2.1) = true := s_wj_ok (s_a1 s_ckg_283_18)
