set_option maxRecDepth 100000 in
theorem ck_207 : chkM 207 = true := (show chkL 207 prog_14_method_38_code ko_207 wl_12 0 kc_207 = true by decide +kernel)
set_option maxRecDepth 100000 in
theorem ck_208 : chkM 208 = true := (show chkL 208 prog_14_method_39_code ko_208 wl_12 0 kc_208 = true by decide +kernel)
set_option maxRecDepth 100000 in
theorem ck_209 : chkM 209 = true := (show chkL 209 prog_14_method_40_code ko_209 wl_12 0 kc_209 = true by decide +kernel)
set_option maxRecDepth 100000 in
theorem ck_210 : chkM 210 = true := (show chkL 210 prog_14_method_41_code ko_210 wl_12 0 kc_210 = true by decide +kernel)
set_option maxRecDepth 100000 in
theorem ck_211 : chkM 211 = true := (show chkL 211 prog_14_method_42_code ko_211 wl_12 0 kc_211 = true by decide +kernel)
set_option maxRecDepth 100000 in
theorem ck_212 : chkM 212 = true := (show chkL 212 prog_14_method_43_code ko_212 wl_12 0 kc_212 = true by decide +kernel)
set_option maxRecDepth 100000 in
theorem ck_213 : chkM 213 = true := (show chkL 213 prog_14_method_44_code ko_213 wl_12 0 kc_213 = true by decide +kernel)
set_option maxRecDepth 100000 in
theorem ck_214 : chkM 214 = true := (show chkL 214 prog_14_method_45_code ko_214 wl_12 0 kc_214 = true by decide +kernel)
set_option maxRecDepth 100000 in
theorem ck_215 : chkM 215 = true := (show chkL 215 prog_14_method_46_code ko_215 wl_12 0 kc_215 = true by decide +kernel)
set_option maxRecDepth 100000 in
theorem ck_216 : chkM 216 = true := (show chkL 216 prog_14_method_47_code ko_216 wl_12 0 kc_216 = true by decide +kernel)
set_option maxRecDepth 100000 in
theorem ck_217 : chkM 217 = true := (show chkL 217 prog_14_method_48_code ko_217 wl_12 0 kc_217 = true by decide +kernel)
set_option maxRecDepth 100000 in
theorem ck_218 : chkM 218 = true := (show chkL 218 prog_14_method_49_code ko_218 wl_12 0 kc_218 = true by decide +kernel)
set_option maxRecDepth 100000 in
theorem ck_219 : chkM 219 = true := (show chkL 219 prog_14_method_50_code ko_219 wl_12 0 kc_219 = true by decide +kernel)
set_option maxRecDepth 100000 in
theorem ck_220 : chkM 220 = true := (show chkL 220 prog_14_method_51_code ko_220 wl_12 0 kc_220 = true by decide +kernel)
set_option maxRecDepth 100000 in
theorem ck_221 : chkM 221 = true := (show chkL 221 prog_14_method_52_code ko_221 wl_12 0 kc_221 = true by decide +kernel)
set_option maxRecDepth 100000 in
theorem ck_222 : chkM 222 = true := (show chkL 222 prog_14_method_53_code ko_222 wl_12 0 kc_222 = true by decide +kernel)
set_option maxRecDepth 100000 in
theorem ck_223 : chkM 223 = true := (show chkL 223 prog_14_method_54_code ko_223 wl_12 0 kc_223 = true by decide +kernel)
set_option maxRecDepth 100000 in
theorem ck_224 : chkM 224 = true := (show chkL 224 prog_14_method_55_code ko_224 wl_12 0 kc_224 = true by decide +kernel)
set_option maxRecDepth 100000 in
theorem ck_225 : chkM 225 = true := (show chkL 225 prog_14_method_56_code ko_225 wl_12 0 kc_225 = true by decide +kernel)
set_option maxRecDepth 100000 in
theorem ck_226 : chkM 226 = true := (show chkL 226 prog_14_method_57_code ko_226 wl_12 0 kc_226 = true by decide +kernel)
set_option maxRecDepth 100000 in
theorem ck_227 : chkM 227 = true := (show chkL 227 prog_14_method_58_code ko_227 wl_12 0 kc_227 = true by decide +kernel)
set_option maxRecDepth 100000 in
theorem ck_228 : chkM 228 = true := (show chkL 228 prog_14_method_59_code ko_228 wl_12 0 kc_228 = true by decide +kernel)
set_option maxRecDepth 100000 in
theorem ck_229 : chkM 229 = true := (show chkL 229 prog_14_method_60_code ko_229 wl_12 0 kc_229 = true by decide +kernel)
set_option maxRecDepth 100000 in
theorem ck_230 : chkM 230 = true := (show chkL 230 prog_14_method_61_code ko_230 wl_12 0 kc_230 = true by decide +kernel)
set_option maxRecDepth 100000 in
theorem ck_231 : chkM 231 = true := (show chkL 231 prog_14_method_62_code ko_231 wl_12 0 kc_231 = true by decide +kernel)
set_option maxRecDepth 100000 in
theorem ck_232 : chkM 232 = true := (show chkL 232 prog_14_method_63_code ko_232 wl_12 0 kc_232 = true by decide +kernel)
set_option maxRecDepth 100000 in
theorem ck_233 : chkM 233 = true := (show chkL 233 prog_14_method_64_code ko_233 wl_12 0 kc_233 = true by decide +kernel)
set_option maxRecDepth 100000 in
theorem ck_234 : chkM 234 = true := (show chkL 234 prog_14_method_65_code ko_234 wl_12 0 kc_234 = true by decide +kernel)
set_option maxRecDepth 100000 in
theorem ck_235 : chkM 235 = true := (show chkL 235 prog_14_method_66_code ko_235 wl_12 0 kc_235 = true by decide +kernel)
set_option maxRecDepth 100000 in
theorem ck_236 : chkM 236 = true := (show chkL 236 prog_14_method_67_code ko_236 wl_12 0 kc_236 = true by decide +kernel)
set_option maxRecDepth 100000 in
theorem ck_237 : chkM 237 = true := (show chkL 237 prog_14_method_68_code ko_237 wl_12 0 kc_237 = true by decide +kernel)
set_option maxRecDepth 100000 in
theorem ck_238 : chkM 238 = true := (show chkL 238 prog_14_method_69_code ko_238 wl_12 0 kc_238 = true by decide +kernel)
set_option maxRecDepth 100000 in
theorem ck_239 : chkM 239 = true := (show chkL 239 prog_14_method_70_code ko_239 wl_12 0 kc_239 = true by decide +kernel)
set_option maxRecDepth 100000 in
theorem ck_240 : chkM 240 = true := (show chkL 240 prog_14_method_71_code ko_240 wl_12 0 kc_240 = true by decide +kernel)
set_option maxRecDepth 100000 in
theorem ck_241 : chkM 241 = true := (show chkL 241 prog_14_method_72_code ko_241 wl_12 0 kc_241 = true by decide +kernel)
set_option maxRecDepth 100000 in
theorem ck_242 : chkM 242 = true := (show chkL 242 prog_14_method_73_code ko_242 wl_12 0 kc_242 = true by decide +kernel)
set_option maxRecDepth 100000 in
theorem ck_243 : chkM 243 = true := (show chkL 243 prog_14_method_74_code ko_243 wl_12 0 kc_243 = true by decide +kernel)
set_option maxRecDepth 100000 in
theorem ck_244 : chkM 244 = true := (show chkL 244 prog_14_method_75_code ko_244 wl_12 0 kc_244 = true by decide +kernel)
set_option maxRecDepth 100000 in
theorem ck_245 : chkM 245 = true := (show chkL 245 prog_14_method_76_code ko_245 wl_12 0 kc_245 = true by decide +kernel)
set_option maxRecDepth 100000 in
theorem ck_246 : chkM 246 = true := (show chkL 246 prog_14_method_77_code ko_246 wl_12 0 kc_246 = true by decide +kernel)
set_option maxRecDepth 100000 in
theorem ck_247 : chkM 247 = true := (show chkL 247 prog_14_method_78_code ko_247 wl_12 0 kc_247 = true by decide +kernel)
set_option maxRecDepth 100000 in
theorem ck_248 : chkM 248 = true := (show chkL 248 prog_14_method_79_code ko_248 wl_12 0 kc_248 = true by decide +kernel)
set_option maxRecDepth 100000 in
theorem ck_249 : chkM 249 = true := (show chkL 249 prog_14_method_80_code ko_249 wl_12 0 kc_249 = true by decide +kernel)
set_option maxRecDepth 100000 in
theorem ck_250 : chkM 250 = true := (show chkL 250 prog_14_method_81_code ko_250 wl_12 0 kc_250 = true by decide +kernel)
set_option maxRecDepth 100000 in
theorem ck_251 : chkM 251 = true := (show chkL 251 prog_14_method_82_code ko_251 wl_12 0 kc_251 = true by decide +kernel)
