set_option maxRecDepth 100000 in
theorem ck_252 : chkM 252 = true := (show chkL 252 prog_14_method_83_code ko_252 wl_12 0 kc_252 = true by decide +kernel)
set_option maxRecDepth 100000 in
theorem ck_253 : chkM 253 = true := (show chkL 253 prog_14_method_84_code ko_253 wl_12 0 kc_253 = true by decide +kernel)
set_option maxRecDepth 100000 in
theorem ck_254 : chkM 254 = true := (show chkL 254 prog_14_method_85_code ko_254 wl_12 0 kc_254 = true by decide +kernel)
set_option maxRecDepth 100000 in
theorem ck_255 : chkM 255 = true := (show chkL 255 prog_14_method_86_code ko_255 wl_12 0 kc_255 = true by decide +kernel)
set_option maxRecDepth 100000 in
theorem ck_256 : chkM 256 = true := (show chkL 256 prog_14_method_87_code ko_256 wl_12 0 kc_256 = true by decide +kernel)
set_option maxRecDepth 100000 in
theorem ck_257 : chkM 257 = true := (show chkL 257 prog_14_method_88_code ko_257 wl_12 0 kc_257 = true by decide +kernel)
set_option maxRecDepth 100000 in
theorem ck_258 : chkM 258 = true := (show chkL 258 prog_14_method_89_code ko_258 wl_12 0 kc_258 = true by decide +kernel)
set_option maxRecDepth 100000 in
theorem ck_259 : chkM 259 = true := (show chkL 259 prog_14_method_90_code ko_259 wl_12 0 kc_259 = true by decide +kernel)
set_option maxRecDepth 100000 in
theorem ck_260 : chkM 260 = true := (show chkL 260 prog_14_method_91_code ko_260 wl_12 0 kc_260 = true by decide +kernel)
set_option maxRecDepth 100000 in
theorem ck_261 : chkM 261 = true := (show chkL 261 prog_14_method_92_code ko_261 wl_12 0 kc_261 = true by decide +kernel)
set_option maxRecDepth 100000 in
theorem ck_262 : chkM 262 = true := (show chkL 262 prog_14_method_93_code ko_262 wl_12 0 kc_262 = true by decide +kernel)
set_option maxRecDepth 100000 in
theorem ck_263 : chkM 263 = true := (show chkL 263 prog_14_method_94_code ko_263 wl_12 0 kc_263 = true by decide +kernel)
set_option maxRecDepth 100000 in
theorem ck_264 : chkM 264 = true := (show chkL 264 prog_14_method_95_code ko_264 wl_12 0 kc_264 = true by decide +kernel)
set_option maxRecDepth 100000 in
theorem ck_265 : chkM 265 = true := (show chkL 265 prog_14_method_96_code ko_265 wl_12 0 kc_265 = true by decide +kernel)
set_option maxRecDepth 100000 in
theorem ck_266 : chkM 266 = true := (show chkL 266 prog_14_method_97_code ko_266 wl_12 0 kc_266 = true by decide +kernel)
set_option maxRecDepth 100000 in
theorem ck_267 : chkM 267 = true := (show chkL 267 prog_14_method_98_code ko_267 wl_12 0 kc_267 = true by decide +kernel)
set_option maxRecDepth 100000 in
theorem ck_268 : chkM 268 = true := (show chkL 268 prog_14_method_99_code ko_268 wl_12 0 kc_268 = true by decide +kernel)
set_option maxRecDepth 100000 in
theorem ck_269 : chkM 269 = true := (show chkL 269 prog_14_method_100_code ko_269 wl_12 0 kc_269 = true by decide +kernel)
set_option maxRecDepth 100000 in
theorem ck_270 : chkM 270 = true := (show chkL 270 prog_14_method_101_code ko_270 wl_12 0 kc_270 = true by decide +kernel)
set_option maxRecDepth 100000 in
theorem ck_271 : chkM 271 = true := (show chkL 271 prog_14_method_102_code ko_271 wl_12 0 kc_271 = true by decide +kernel)
set_option maxRecDepth 100000 in
theorem ck_272 : chkM 272 = true := (show chkL 272 prog_14_method_103_code ko_272 wl_12 0 kc_272 = true by decide +kernel)
set_option maxRecDepth 100000 in
theorem ck_273 : chkM 273 = true := (show chkL 273 prog_14_method_104_code ko_273 wl_12 0 kc_273 = true by decide +kernel)
set_option maxRecDepth 100000 in
theorem ck_274 : chkM 274 = true := (show chkL 274 prog_14_method_105_code ko_274 wl_12 0 kc_274 = true by decide +kernel)
set_option maxRecDepth 100000 in
theorem ck_275 : chkM 275 = true := (show chkL 275 prog_14_method_106_code ko_275 wl_12 0 kc_275 = true by decide +kernel)
set_option maxRecDepth 100000 in
theorem ck_276 : chkM 276 = true := (show chkL 276 prog_14_method_107_code ko_276 wl_12 0 kc_276 = true by decide +kernel)
set_option maxRecDepth 100000 in
theorem ck_277 : chkM 277 = true := (show chkL 277 prog_14_method_108_code ko_277 wl_12 0 kc_277 = true by decide +kernel)
set_option maxRecDepth 100000 in
theorem ck_278 : chkM 278 = true := (show chkL 278 prog_14_method_109_code ko_278 wl_12 0 kc_278 = true by decide +kernel)
set_option maxRecDepth 100000 in
theorem ck_279 : chkM 279 = true := (show chkL 279 prog_14_method_110_code ko_279 wl_12 0 kc_279 = true by decide +kernel)
set_option maxRecDepth 100000 in
theorem ck_280 : chkM 280 = true := (show chkL 280 prog_14_method_111_code ko_280 wl_12 0 kc_280 = true by decide +kernel)
set_option maxRecDepth 100000 in
theorem ck_281 : chkM 281 = true := (show chkL 281 prog_14_method_112_code ko_281 wl_12 0 kc_281 = true by decide +kernel)
set_option maxRecDepth 100000 in
theorem ck_282 : chkM 282 = true := (show chkL 282 prog_14_method_113_code ko_282 wl_12 0 kc_282 = true by decide +kernel)
set_option maxRecDepth 100000 in
theorem ck_283 : chkM 283 = true := (show chkL 283 prog_16_method_48_code ko_283 wl_13 0 kc_283 = true by decide +kernel)
set_option maxRecDepth 100000 in
theorem ck_284 : chkM 284 = true := (show chkL 284 prog_16_method_49_code ko_284 wl_13 0 kc_284 = true by decide +kernel)
set_option maxRecDepth 100000 in
theorem ck_285 : chkM 285 = true := (show chkL 285 prog_17_method_59_code ko_285 [] 0 kc_285 = true by decide +kernel)
set_option maxRecDepth 100000 in
theorem ck_286 : chkM 286 = true := (show chkL 286 prog_17_method_65_code ko_286 [] 0 kc_286 = true by decide +kernel)
set_option maxRecDepth 100000 in
theorem ck_287 : chkM 287 = true := (show chkL 287 prog_17_method_66_code ko_287 [] 0 kc_287 = true by decide +kernel)
set_option maxRecDepth 100000 in
theorem ck_288 : chkM 288 = true := (show chkL 288 prog_17_method_69_code ko_288 [] 0 kc_288 = true by decide +kernel)
set_option maxRecDepth 100000 in
theorem ck_289 : chkM 289 = true := (show chkL 289 prog_17_method_70_code ko_289 [] 0 kc_289 = true by decide +kernel)
set_option maxRecDepth 100000 in
theorem ck_290 : chkM 290 = true := (show chkL 290 prog_18_method_54_code ko_290 wl_14 0 kc_290 = true by decide +kernel)
set_option maxRecDepth 100000 in
theorem ck_291 : chkM 291 = true := (show chkL 291 prog_18_method_56_code ko_291 wl_14 0 kc_291 = true by decide +kernel)
set_option maxRecDepth 100000 in
theorem ck_292 : chkM 292 = true := (show chkL 292 prog_18_method_79_code ko_292 wl_14 0 kc_292 = true by decide +kernel)
set_option maxRecDepth 100000 in
theorem ck_293 : chkM 293 = true := (show chkL 293 prog_18_method_80_code ko_293 wl_14 0 kc_293 = true by decide +kernel)
set_option maxRecDepth 100000 in
theorem ck_294 : chkM 294 = true := (show chkL 294 prog_18_method_152_code ko_294 wl_14 0 kc_294 = true by decide +kernel)
set_option maxRecDepth 100000 in
theorem ck_295 : chkM 295 = true := (show chkL 295 prog_18_method_154_code ko_295 wl_14 0 kc_295 = true by decide +kernel)
set_option maxRecDepth 100000 in
theorem ck_296 : chkM 296 = true := (show chkL 296 prog_18_method_155_code ko_296 wl_14 0 kc_296 = true by decide +kernel)
set_option maxRecDepth 100000 in
theorem ck_297 : chkM 297 = true := (show chkL 297 prog_19_method_2_code ko_297 wl_15 0 kc_297 = true by decide +kernel)
set_option maxRecDepth 100000 in
theorem ck_298 : chkM 298 = true := (show chkL 298 prog_19_method_4_code ko_298 wl_15 0 kc_298 = true by decide +kernel)
set_option maxRecDepth 100000 in
theorem ck_299 : chkM 299 = true := (show chkL 299 prog_19_method_22_code ko_299 wl_15 0 kc_299 = true by decide +kernel)
set_option maxRecDepth 100000 in
theorem ck_300 : chkM 300 = true := (show chkL 300 prog_19_method_23_code ko_300 wl_15 0 kc_300 = true by decide +kernel)
set_option maxRecDepth 100000 in
theorem ck_301 : chkM 301 = true := (show chkL 301 prog_22_method_11_code ko_301 [] 0 kc_301 = true by decide +kernel)
