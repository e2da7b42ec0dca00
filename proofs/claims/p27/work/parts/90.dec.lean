theorem zs_dL_law_0 : zsuf cL_law 0 cL_law.data.toList := rfl
noncomputable def zr_dL_law_0 := zo_187 (k := 7)  (q := 3) zs_dL_law_0 rfl rfl
noncomputable def dL_law_0 := zr_dL_law_0.1
noncomputable def zr_dL_law_3 := zo_89 (q := 4) zr_dL_law_0.2 rfl
noncomputable def dL_law_3 := zr_dL_law_3.1
noncomputable def zr_dL_law_4 := zo_183 (k := 9)  (q := 7) zr_dL_law_3.2 rfl rfl
noncomputable def dL_law_4 := zr_dL_law_4.1
theorem zo_76 {c : ByteArray} {p q : Nat} {L : List UInt8} (h : zsuf c p (76 :: L)) (hq : p + 1 = q) : zD c p (.astore_n 1) 1 ∧ zsuf c q L := zfin hq (Eq.trans (zbd (zu1 (v := 76) h rfl)) rfl) (zsuf_tl h)
noncomputable def zr_dL_law_7 := zo_76 (q := 8) zr_dL_law_4.2 rfl
noncomputable def dL_law_7 := zr_dL_law_7.1
noncomputable def zr_dL_law_8 := zo_187 (k := 10)  (q := 11) zr_dL_law_7.2 rfl rfl
noncomputable def dL_law_8 := zr_dL_law_8.1
noncomputable def zr_dL_law_11 := zo_89 (q := 12) zr_dL_law_8.2 rfl
noncomputable def dL_law_11 := zr_dL_law_11.1
noncomputable def zr_dL_law_12 := zo_183 (k := 12)  (q := 15) zr_dL_law_11.2 rfl rfl
noncomputable def dL_law_12 := zr_dL_law_12.1
theorem zo_77 {c : ByteArray} {p q : Nat} {L : List UInt8} (h : zsuf c p (77 :: L)) (hq : p + 1 = q) : zD c p (.astore_n 2) 1 ∧ zsuf c q L := zfin hq (Eq.trans (zbd (zu1 (v := 77) h rfl)) rfl) (zsuf_tl h)
noncomputable def zr_dL_law_15 := zo_77 (q := 16) zr_dL_law_12.2 rfl
noncomputable def dL_law_15 := zr_dL_law_15.1
noncomputable def zr_dL_law_16 := zo_3 (q := 17) zr_dL_law_15.2 rfl
noncomputable def dL_law_16 := zr_dL_law_16.1
noncomputable def zr_dL_law_17 := zo_62 (q := 18) zr_dL_law_16.2 rfl
noncomputable def dL_law_17 := zr_dL_law_17.1
noncomputable def zr_dL_law_18 := zo_29 (q := 19) zr_dL_law_17.2 rfl
noncomputable def dL_law_18 := zr_dL_law_18.1
noncomputable def zr_dL_law_19 := zo_42 (q := 20) zr_dL_law_18.2 rfl
noncomputable def dL_law_19 := zr_dL_law_19.1
noncomputable def zr_dL_law_20 := zo_190 (q := 21) zr_dL_law_19.2 rfl
noncomputable def dL_law_20 := zr_dL_law_20.1
noncomputable def zr_dL_law_21 := zo_16 (k := 7)  (q := 23) zr_dL_law_20.2 (by decide +kernel) rfl
noncomputable def dL_law_21 := zr_dL_law_21.1
noncomputable def zr_dL_law_23 := zo_100 (q := 24) zr_dL_law_21.2 rfl
noncomputable def dL_law_23 := zr_dL_law_23.1
noncomputable def zr_dL_law_24 := zo_163 (k := 1596)  (q := 27) zr_dL_law_23.2 (by decide +kernel) rfl
noncomputable def dL_law_24 := zr_dL_law_24.1
noncomputable def zr_dL_law_27 := zo_42 (q := 28) zr_dL_law_24.2 rfl
noncomputable def dL_law_27 := zr_dL_law_27.1
noncomputable def zr_dL_law_28 := zo_29 (q := 29) zr_dL_law_27.2 rfl
noncomputable def dL_law_28 := zr_dL_law_28.1
noncomputable def zr_dL_law_29 := zo_46 (q := 30) zr_dL_law_28.2 rfl
noncomputable def dL_law_29 := zr_dL_law_29.1
noncomputable def zr_dL_law_30 := zo_16 (k := 63)  (q := 32) zr_dL_law_29.2 (by decide +kernel) rfl
noncomputable def dL_law_30 := zr_dL_law_30.1
noncomputable def zr_dL_law_32 := zo_126 (q := 33) zr_dL_law_30.2 rfl
noncomputable def dL_law_32 := zr_dL_law_32.1
theorem dL_law_33 : zD cL_law 33 (.tableswitch 1581 0 35 #[159, 182, 205, 248, 281, 356, 369, 392, 435, 468, 511, 544, 587, 640, 673, 706, 749, 782, 825, 868, 911, 944, 997, 1030, 1083, 1106, 1139, 1182, 1245, 1320, 1333, 1346, 1389, 1432, 1495, 1548]) 159 := by decide +kernel
noncomputable def zr_dL_law_33 := zskip zr_dL_law_32.2 159 (q := 192) rfl
noncomputable def zr_dL_law_192 := zo_43 (q := 193) zr_dL_law_33 rfl
noncomputable def dL_law_192 := zr_dL_law_192.1
noncomputable def zr_dL_law_193 := zo_42 (q := 194) zr_dL_law_192.2 rfl
noncomputable def dL_law_193 := zr_dL_law_193.1
noncomputable def zr_dL_law_194 := zo_29 (q := 195) zr_dL_law_193.2 rfl
noncomputable def dL_law_194 := zr_dL_law_194.1
noncomputable def zr_dL_law_195 := zo_4 (q := 196) zr_dL_law_194.2 rfl
noncomputable def dL_law_195 := zr_dL_law_195.1
noncomputable def zr_dL_law_196 := zo_96 (q := 197) zr_dL_law_195.2 rfl
noncomputable def dL_law_196 := zr_dL_law_196.1
noncomputable def zr_dL_law_197 := zo_46 (q := 198) zr_dL_law_196.2 rfl
noncomputable def dL_law_197 := zr_dL_law_197.1
noncomputable def zr_dL_law_198 := zo_182 (k := 13)  (q := 201) zr_dL_law_197.2 rfl rfl
noncomputable def dL_law_198 := zr_dL_law_198.1
noncomputable def zr_dL_law_201 := zo_87 (q := 202) zr_dL_law_198.2 rfl
noncomputable def dL_law_201 := zr_dL_law_201.1
noncomputable def zr_dL_law_202 := zo_44 (q := 203) zr_dL_law_201.2 rfl
noncomputable def dL_law_202 := zr_dL_law_202.1
noncomputable def zr_dL_law_203 := zo_42 (q := 204) zr_dL_law_202.2 rfl
noncomputable def dL_law_203 := zr_dL_law_203.1
noncomputable def zr_dL_law_204 := zo_29 (q := 205) zr_dL_law_203.2 rfl
noncomputable def dL_law_204 := zr_dL_law_204.1
noncomputable def zr_dL_law_205 := zo_4 (q := 206) zr_dL_law_204.2 rfl
noncomputable def dL_law_205 := zr_dL_law_205.1
noncomputable def zr_dL_law_206 := zo_96 (q := 207) zr_dL_law_205.2 rfl
noncomputable def dL_law_206 := zr_dL_law_206.1
noncomputable def zr_dL_law_207 := zo_46 (q := 208) zr_dL_law_206.2 rfl
noncomputable def dL_law_207 := zr_dL_law_207.1
noncomputable def zr_dL_law_208 := zo_182 (k := 17)  (q := 211) zr_dL_law_207.2 rfl rfl
noncomputable def dL_law_208 := zr_dL_law_208.1
noncomputable def zr_dL_law_211 := zo_87 (q := 212) zr_dL_law_208.2 rfl
noncomputable def dL_law_211 := zr_dL_law_211.1
noncomputable def zr_dL_law_212 := zo_167 (k := 1402)  (q := 215) zr_dL_law_211.2 (by decide +kernel) rfl
noncomputable def dL_law_212 := zr_dL_law_212.1
noncomputable def zr_dL_law_215 := zo_43 (q := 216) zr_dL_law_212.2 rfl
noncomputable def dL_law_215 := zr_dL_law_215.1
noncomputable def zr_dL_law_216 := zo_42 (q := 217) zr_dL_law_215.2 rfl
noncomputable def dL_law_216 := zr_dL_law_216.1
noncomputable def zr_dL_law_217 := zo_29 (q := 218) zr_dL_law_216.2 rfl
noncomputable def dL_law_217 := zr_dL_law_217.1
noncomputable def zr_dL_law_218 := zo_4 (q := 219) zr_dL_law_217.2 rfl
noncomputable def dL_law_218 := zr_dL_law_218.1
noncomputable def zr_dL_law_219 := zo_96 (q := 220) zr_dL_law_218.2 rfl
noncomputable def dL_law_219 := zr_dL_law_219.1
noncomputable def zr_dL_law_220 := zo_46 (q := 221) zr_dL_law_219.2 rfl
noncomputable def dL_law_220 := zr_dL_law_220.1
noncomputable def zr_dL_law_221 := zo_182 (k := 18)  (q := 224) zr_dL_law_220.2 rfl rfl
noncomputable def dL_law_221 := zr_dL_law_221.1
noncomputable def zr_dL_law_224 := zo_87 (q := 225) zr_dL_law_221.2 rfl
noncomputable def dL_law_224 := zr_dL_law_224.1
noncomputable def zr_dL_law_225 := zo_44 (q := 226) zr_dL_law_224.2 rfl
noncomputable def dL_law_225 := zr_dL_law_225.1
noncomputable def zr_dL_law_226 := zo_42 (q := 227) zr_dL_law_225.2 rfl
noncomputable def dL_law_226 := zr_dL_law_226.1
noncomputable def zr_dL_law_227 := zo_29 (q := 228) zr_dL_law_226.2 rfl
noncomputable def dL_law_227 := zr_dL_law_227.1
noncomputable def zr_dL_law_228 := zo_4 (q := 229) zr_dL_law_227.2 rfl
noncomputable def dL_law_228 := zr_dL_law_228.1
noncomputable def zr_dL_law_229 := zo_96 (q := 230) zr_dL_law_228.2 rfl
noncomputable def dL_law_229 := zr_dL_law_229.1
noncomputable def zr_dL_law_230 := zo_46 (q := 231) zr_dL_law_229.2 rfl
noncomputable def dL_law_230 := zr_dL_law_230.1
noncomputable def zr_dL_law_231 := zo_182 (k := 21)  (q := 234) zr_dL_law_230.2 rfl rfl
noncomputable def dL_law_231 := zr_dL_law_231.1
noncomputable def zr_dL_law_234 := zo_87 (q := 235) zr_dL_law_231.2 rfl
noncomputable def dL_law_234 := zr_dL_law_234.1
noncomputable def zr_dL_law_235 := zo_167 (k := 1379)  (q := 238) zr_dL_law_234.2 (by decide +kernel) rfl
noncomputable def dL_law_235 := zr_dL_law_235.1
noncomputable def zr_dL_law_238 := zo_43 (q := 239) zr_dL_law_235.2 rfl
noncomputable def dL_law_238 := zr_dL_law_238.1
noncomputable def zr_dL_law_239 := zo_42 (q := 240) zr_dL_law_238.2 rfl
noncomputable def dL_law_239 := zr_dL_law_239.1
noncomputable def zr_dL_law_240 := zo_29 (q := 241) zr_dL_law_239.2 rfl
noncomputable def dL_law_240 := zr_dL_law_240.1
noncomputable def zr_dL_law_241 := zo_4 (q := 242) zr_dL_law_240.2 rfl
noncomputable def dL_law_241 := zr_dL_law_241.1
noncomputable def zr_dL_law_242 := zo_96 (q := 243) zr_dL_law_241.2 rfl
noncomputable def dL_law_242 := zr_dL_law_242.1
noncomputable def zr_dL_law_243 := zo_46 (q := 244) zr_dL_law_242.2 rfl
noncomputable def dL_law_243 := zr_dL_law_243.1
noncomputable def zr_dL_law_244 := zo_42 (q := 245) zr_dL_law_243.2 rfl
noncomputable def dL_law_244 := zr_dL_law_244.1
noncomputable def zr_dL_law_245 := zo_29 (q := 246) zr_dL_law_244.2 rfl
noncomputable def dL_law_245 := zr_dL_law_245.1
noncomputable def zr_dL_law_246 := zo_5 (q := 247) zr_dL_law_245.2 rfl
noncomputable def dL_law_246 := zr_dL_law_246.1
noncomputable def zr_dL_law_247 := zo_96 (q := 248) zr_dL_law_246.2 rfl
noncomputable def dL_law_247 := zr_dL_law_247.1
noncomputable def zr_dL_law_248 := zo_46 (q := 249) zr_dL_law_247.2 rfl
noncomputable def dL_law_248 := zr_dL_law_248.1
noncomputable def zr_dL_law_249 := zo_42 (q := 250) zr_dL_law_248.2 rfl
noncomputable def dL_law_249 := zr_dL_law_249.1
noncomputable def zr_dL_law_250 := zo_29 (q := 251) zr_dL_law_249.2 rfl
noncomputable def dL_law_250 := zr_dL_law_250.1
noncomputable def zr_dL_law_251 := zo_6 (q := 252) zr_dL_law_250.2 rfl
noncomputable def dL_law_251 := zr_dL_law_251.1
noncomputable def zr_dL_law_252 := zo_96 (q := 253) zr_dL_law_251.2 rfl
noncomputable def dL_law_252 := zr_dL_law_252.1
noncomputable def zr_dL_law_253 := zo_46 (q := 254) zr_dL_law_252.2 rfl
noncomputable def dL_law_253 := zr_dL_law_253.1
noncomputable def zr_dL_law_254 := zo_182 (k := 22)  (q := 257) zr_dL_law_253.2 rfl rfl
noncomputable def dL_law_254 := zr_dL_law_254.1
noncomputable def zr_dL_law_257 := zo_87 (q := 258) zr_dL_law_254.2 rfl
noncomputable def dL_law_257 := zr_dL_law_257.1
noncomputable def zr_dL_law_258 := zo_44 (q := 259) zr_dL_law_257.2 rfl
noncomputable def dL_law_258 := zr_dL_law_258.1
noncomputable def zr_dL_law_259 := zo_42 (q := 260) zr_dL_law_258.2 rfl
noncomputable def dL_law_259 := zr_dL_law_259.1
noncomputable def zr_dL_law_260 := zo_29 (q := 261) zr_dL_law_259.2 rfl
noncomputable def dL_law_260 := zr_dL_law_260.1
noncomputable def zr_dL_law_261 := zo_4 (q := 262) zr_dL_law_260.2 rfl
noncomputable def dL_law_261 := zr_dL_law_261.1
noncomputable def zr_dL_law_262 := zo_96 (q := 263) zr_dL_law_261.2 rfl
noncomputable def dL_law_262 := zr_dL_law_262.1
noncomputable def zr_dL_law_263 := zo_46 (q := 264) zr_dL_law_262.2 rfl
noncomputable def dL_law_263 := zr_dL_law_263.1
noncomputable def zr_dL_law_264 := zo_42 (q := 265) zr_dL_law_263.2 rfl
noncomputable def dL_law_264 := zr_dL_law_264.1
noncomputable def zr_dL_law_265 := zo_29 (q := 266) zr_dL_law_264.2 rfl
noncomputable def dL_law_265 := zr_dL_law_265.1
noncomputable def zr_dL_law_266 := zo_5 (q := 267) zr_dL_law_265.2 rfl
noncomputable def dL_law_266 := zr_dL_law_266.1
noncomputable def zr_dL_law_267 := zo_96 (q := 268) zr_dL_law_266.2 rfl
noncomputable def dL_law_267 := zr_dL_law_267.1
noncomputable def zr_dL_law_268 := zo_46 (q := 269) zr_dL_law_267.2 rfl
noncomputable def dL_law_268 := zr_dL_law_268.1
noncomputable def zr_dL_law_269 := zo_42 (q := 270) zr_dL_law_268.2 rfl
noncomputable def dL_law_269 := zr_dL_law_269.1
noncomputable def zr_dL_law_270 := zo_29 (q := 271) zr_dL_law_269.2 rfl
noncomputable def dL_law_270 := zr_dL_law_270.1
noncomputable def zr_dL_law_271 := zo_6 (q := 272) zr_dL_law_270.2 rfl
noncomputable def dL_law_271 := zr_dL_law_271.1
noncomputable def zr_dL_law_272 := zo_96 (q := 273) zr_dL_law_271.2 rfl
noncomputable def dL_law_272 := zr_dL_law_272.1
noncomputable def zr_dL_law_273 := zo_46 (q := 274) zr_dL_law_272.2 rfl
noncomputable def dL_law_273 := zr_dL_law_273.1
noncomputable def zr_dL_law_274 := zo_182 (k := 26)  (q := 277) zr_dL_law_273.2 rfl rfl
noncomputable def dL_law_274 := zr_dL_law_274.1
noncomputable def zr_dL_law_277 := zo_87 (q := 278) zr_dL_law_274.2 rfl
noncomputable def dL_law_277 := zr_dL_law_277.1
noncomputable def zr_dL_law_278 := zo_167 (k := 1336)  (q := 281) zr_dL_law_277.2 (by decide +kernel) rfl
noncomputable def dL_law_278 := zr_dL_law_278.1
noncomputable def zr_dL_law_281 := zo_43 (q := 282) zr_dL_law_278.2 rfl
noncomputable def dL_law_281 := zr_dL_law_281.1
noncomputable def zr_dL_law_282 := zo_42 (q := 283) zr_dL_law_281.2 rfl
noncomputable def dL_law_282 := zr_dL_law_282.1
noncomputable def zr_dL_law_283 := zo_29 (q := 284) zr_dL_law_282.2 rfl
noncomputable def dL_law_283 := zr_dL_law_283.1
noncomputable def zr_dL_law_284 := zo_4 (q := 285) zr_dL_law_283.2 rfl
noncomputable def dL_law_284 := zr_dL_law_284.1
noncomputable def zr_dL_law_285 := zo_96 (q := 286) zr_dL_law_284.2 rfl
noncomputable def dL_law_285 := zr_dL_law_285.1
noncomputable def zr_dL_law_286 := zo_46 (q := 287) zr_dL_law_285.2 rfl
noncomputable def dL_law_286 := zr_dL_law_286.1
noncomputable def zr_dL_law_287 := zo_42 (q := 288) zr_dL_law_286.2 rfl
noncomputable def dL_law_287 := zr_dL_law_287.1
noncomputable def zr_dL_law_288 := zo_29 (q := 289) zr_dL_law_287.2 rfl
noncomputable def dL_law_288 := zr_dL_law_288.1
noncomputable def zr_dL_law_289 := zo_5 (q := 290) zr_dL_law_288.2 rfl
noncomputable def dL_law_289 := zr_dL_law_289.1
noncomputable def zr_dL_law_290 := zo_96 (q := 291) zr_dL_law_289.2 rfl
noncomputable def dL_law_290 := zr_dL_law_290.1
noncomputable def zr_dL_law_291 := zo_46 (q := 292) zr_dL_law_290.2 rfl
noncomputable def dL_law_291 := zr_dL_law_291.1
noncomputable def zr_dL_law_292 := zo_182 (k := 27)  (q := 295) zr_dL_law_291.2 rfl rfl
noncomputable def dL_law_292 := zr_dL_law_292.1
noncomputable def zr_dL_law_295 := zo_87 (q := 296) zr_dL_law_292.2 rfl
noncomputable def dL_law_295 := zr_dL_law_295.1
noncomputable def zr_dL_law_296 := zo_44 (q := 297) zr_dL_law_295.2 rfl
noncomputable def dL_law_296 := zr_dL_law_296.1
noncomputable def zr_dL_law_297 := zo_42 (q := 298) zr_dL_law_296.2 rfl
noncomputable def dL_law_297 := zr_dL_law_297.1
noncomputable def zr_dL_law_298 := zo_29 (q := 299) zr_dL_law_297.2 rfl
noncomputable def dL_law_298 := zr_dL_law_298.1
noncomputable def zr_dL_law_299 := zo_4 (q := 300) zr_dL_law_298.2 rfl
noncomputable def dL_law_299 := zr_dL_law_299.1
noncomputable def zr_dL_law_300 := zo_96 (q := 301) zr_dL_law_299.2 rfl
noncomputable def dL_law_300 := zr_dL_law_300.1
noncomputable def zr_dL_law_301 := zo_46 (q := 302) zr_dL_law_300.2 rfl
noncomputable def dL_law_301 := zr_dL_law_301.1
noncomputable def zr_dL_law_302 := zo_42 (q := 303) zr_dL_law_301.2 rfl
noncomputable def dL_law_302 := zr_dL_law_302.1
noncomputable def zr_dL_law_303 := zo_29 (q := 304) zr_dL_law_302.2 rfl
noncomputable def dL_law_303 := zr_dL_law_303.1
noncomputable def zr_dL_law_304 := zo_5 (q := 305) zr_dL_law_303.2 rfl
noncomputable def dL_law_304 := zr_dL_law_304.1
noncomputable def zr_dL_law_305 := zo_96 (q := 306) zr_dL_law_304.2 rfl
noncomputable def dL_law_305 := zr_dL_law_305.1
noncomputable def zr_dL_law_306 := zo_46 (q := 307) zr_dL_law_305.2 rfl
noncomputable def dL_law_306 := zr_dL_law_306.1
noncomputable def zr_dL_law_307 := zo_182 (k := 31)  (q := 310) zr_dL_law_306.2 rfl rfl
noncomputable def dL_law_307 := zr_dL_law_307.1
noncomputable def zr_dL_law_310 := zo_87 (q := 311) zr_dL_law_307.2 rfl
noncomputable def dL_law_310 := zr_dL_law_310.1
noncomputable def zr_dL_law_311 := zo_167 (k := 1303)  (q := 314) zr_dL_law_310.2 (by decide +kernel) rfl
noncomputable def dL_law_311 := zr_dL_law_311.1
noncomputable def zr_dL_law_314 := zo_43 (q := 315) zr_dL_law_311.2 rfl
noncomputable def dL_law_314 := zr_dL_law_314.1
noncomputable def zr_dL_law_315 := zo_42 (q := 316) zr_dL_law_314.2 rfl
noncomputable def dL_law_315 := zr_dL_law_315.1
noncomputable def zr_dL_law_316 := zo_29 (q := 317) zr_dL_law_315.2 rfl
noncomputable def dL_law_316 := zr_dL_law_316.1
noncomputable def zr_dL_law_317 := zo_4 (q := 318) zr_dL_law_316.2 rfl
noncomputable def dL_law_317 := zr_dL_law_317.1
noncomputable def zr_dL_law_318 := zo_96 (q := 319) zr_dL_law_317.2 rfl
noncomputable def dL_law_318 := zr_dL_law_318.1
noncomputable def zr_dL_law_319 := zo_46 (q := 320) zr_dL_law_318.2 rfl
noncomputable def dL_law_319 := zr_dL_law_319.1
noncomputable def zr_dL_law_320 := zo_42 (q := 321) zr_dL_law_319.2 rfl
noncomputable def dL_law_320 := zr_dL_law_320.1
noncomputable def zr_dL_law_321 := zo_29 (q := 322) zr_dL_law_320.2 rfl
noncomputable def dL_law_321 := zr_dL_law_321.1
noncomputable def zr_dL_law_322 := zo_5 (q := 323) zr_dL_law_321.2 rfl
noncomputable def dL_law_322 := zr_dL_law_322.1
noncomputable def zr_dL_law_323 := zo_96 (q := 324) zr_dL_law_322.2 rfl
noncomputable def dL_law_323 := zr_dL_law_323.1
noncomputable def zr_dL_law_324 := zo_46 (q := 325) zr_dL_law_323.2 rfl
noncomputable def dL_law_324 := zr_dL_law_324.1
noncomputable def zr_dL_law_325 := zo_42 (q := 326) zr_dL_law_324.2 rfl
noncomputable def dL_law_325 := zr_dL_law_325.1
noncomputable def zr_dL_law_326 := zo_29 (q := 327) zr_dL_law_325.2 rfl
noncomputable def dL_law_326 := zr_dL_law_326.1
noncomputable def zr_dL_law_327 := zo_6 (q := 328) zr_dL_law_326.2 rfl
noncomputable def dL_law_327 := zr_dL_law_327.1
noncomputable def zr_dL_law_328 := zo_96 (q := 329) zr_dL_law_327.2 rfl
noncomputable def dL_law_328 := zr_dL_law_328.1
noncomputable def zr_dL_law_329 := zo_46 (q := 330) zr_dL_law_328.2 rfl
noncomputable def dL_law_329 := zr_dL_law_329.1
noncomputable def zr_dL_law_330 := zo_42 (q := 331) zr_dL_law_329.2 rfl
noncomputable def dL_law_330 := zr_dL_law_330.1
noncomputable def zr_dL_law_331 := zo_29 (q := 332) zr_dL_law_330.2 rfl
noncomputable def dL_law_331 := zr_dL_law_331.1
noncomputable def zr_dL_law_332 := zo_7 (q := 333) zr_dL_law_331.2 rfl
noncomputable def dL_law_332 := zr_dL_law_332.1
noncomputable def zr_dL_law_333 := zo_96 (q := 334) zr_dL_law_332.2 rfl
noncomputable def dL_law_333 := zr_dL_law_333.1
noncomputable def zr_dL_law_334 := zo_46 (q := 335) zr_dL_law_333.2 rfl
noncomputable def dL_law_334 := zr_dL_law_334.1
noncomputable def zr_dL_law_335 := zo_42 (q := 336) zr_dL_law_334.2 rfl
noncomputable def dL_law_335 := zr_dL_law_335.1
noncomputable def zr_dL_law_336 := zo_29 (q := 337) zr_dL_law_335.2 rfl
noncomputable def dL_law_336 := zr_dL_law_336.1
noncomputable def zr_dL_law_337 := zo_8 (q := 338) zr_dL_law_336.2 rfl
noncomputable def dL_law_337 := zr_dL_law_337.1
noncomputable def zr_dL_law_338 := zo_96 (q := 339) zr_dL_law_337.2 rfl
noncomputable def dL_law_338 := zr_dL_law_338.1
noncomputable def zr_dL_law_339 := zo_46 (q := 340) zr_dL_law_338.2 rfl
noncomputable def dL_law_339 := zr_dL_law_339.1
noncomputable def zr_dL_law_340 := zo_42 (q := 341) zr_dL_law_339.2 rfl
noncomputable def dL_law_340 := zr_dL_law_340.1
noncomputable def zr_dL_law_341 := zo_29 (q := 342) zr_dL_law_340.2 rfl
noncomputable def dL_law_341 := zr_dL_law_341.1
noncomputable def zr_dL_law_342 := zo_16 (k := 6)  (q := 344) zr_dL_law_341.2 (by decide +kernel) rfl
noncomputable def dL_law_342 := zr_dL_law_342.1
noncomputable def zr_dL_law_344 := zo_96 (q := 345) zr_dL_law_342.2 rfl
noncomputable def dL_law_344 := zr_dL_law_344.1
noncomputable def zr_dL_law_345 := zo_46 (q := 346) zr_dL_law_344.2 rfl
noncomputable def dL_law_345 := zr_dL_law_345.1
noncomputable def zr_dL_law_346 := zo_182 (k := 32)  (q := 349) zr_dL_law_345.2 rfl rfl
noncomputable def dL_law_346 := zr_dL_law_346.1
noncomputable def zr_dL_law_349 := zo_87 (q := 350) zr_dL_law_346.2 rfl
noncomputable def dL_law_349 := zr_dL_law_349.1
noncomputable def zr_dL_law_350 := zo_44 (q := 351) zr_dL_law_349.2 rfl
noncomputable def dL_law_350 := zr_dL_law_350.1
noncomputable def zr_dL_law_351 := zo_42 (q := 352) zr_dL_law_350.2 rfl
noncomputable def dL_law_351 := zr_dL_law_351.1
noncomputable def zr_dL_law_352 := zo_29 (q := 353) zr_dL_law_351.2 rfl
noncomputable def dL_law_352 := zr_dL_law_352.1
noncomputable def zr_dL_law_353 := zo_4 (q := 354) zr_dL_law_352.2 rfl
noncomputable def dL_law_353 := zr_dL_law_353.1
noncomputable def zr_dL_law_354 := zo_96 (q := 355) zr_dL_law_353.2 rfl
noncomputable def dL_law_354 := zr_dL_law_354.1
noncomputable def zr_dL_law_355 := zo_46 (q := 356) zr_dL_law_354.2 rfl
noncomputable def dL_law_355 := zr_dL_law_355.1
noncomputable def zr_dL_law_356 := zo_42 (q := 357) zr_dL_law_355.2 rfl
noncomputable def dL_law_356 := zr_dL_law_356.1
noncomputable def zr_dL_law_357 := zo_29 (q := 358) zr_dL_law_356.2 rfl
noncomputable def dL_law_357 := zr_dL_law_357.1
noncomputable def zr_dL_law_358 := zo_5 (q := 359) zr_dL_law_357.2 rfl
noncomputable def dL_law_358 := zr_dL_law_358.1
noncomputable def zr_dL_law_359 := zo_96 (q := 360) zr_dL_law_358.2 rfl
noncomputable def dL_law_359 := zr_dL_law_359.1
noncomputable def zr_dL_law_360 := zo_46 (q := 361) zr_dL_law_359.2 rfl
noncomputable def dL_law_360 := zr_dL_law_360.1
noncomputable def zr_dL_law_361 := zo_42 (q := 362) zr_dL_law_360.2 rfl
noncomputable def dL_law_361 := zr_dL_law_361.1
noncomputable def zr_dL_law_362 := zo_29 (q := 363) zr_dL_law_361.2 rfl
noncomputable def dL_law_362 := zr_dL_law_362.1
noncomputable def zr_dL_law_363 := zo_6 (q := 364) zr_dL_law_362.2 rfl
noncomputable def dL_law_363 := zr_dL_law_363.1
noncomputable def zr_dL_law_364 := zo_96 (q := 365) zr_dL_law_363.2 rfl
noncomputable def dL_law_364 := zr_dL_law_364.1
noncomputable def zr_dL_law_365 := zo_46 (q := 366) zr_dL_law_364.2 rfl
noncomputable def dL_law_365 := zr_dL_law_365.1
noncomputable def zr_dL_law_366 := zo_42 (q := 367) zr_dL_law_365.2 rfl
noncomputable def dL_law_366 := zr_dL_law_366.1
noncomputable def zr_dL_law_367 := zo_29 (q := 368) zr_dL_law_366.2 rfl
noncomputable def dL_law_367 := zr_dL_law_367.1
noncomputable def zr_dL_law_368 := zo_7 (q := 369) zr_dL_law_367.2 rfl
noncomputable def dL_law_368 := zr_dL_law_368.1
noncomputable def zr_dL_law_369 := zo_96 (q := 370) zr_dL_law_368.2 rfl
noncomputable def dL_law_369 := zr_dL_law_369.1
noncomputable def zr_dL_law_370 := zo_46 (q := 371) zr_dL_law_369.2 rfl
noncomputable def dL_law_370 := zr_dL_law_370.1
noncomputable def zr_dL_law_371 := zo_42 (q := 372) zr_dL_law_370.2 rfl
noncomputable def dL_law_371 := zr_dL_law_371.1
noncomputable def zr_dL_law_372 := zo_29 (q := 373) zr_dL_law_371.2 rfl
noncomputable def dL_law_372 := zr_dL_law_372.1
noncomputable def zr_dL_law_373 := zo_8 (q := 374) zr_dL_law_372.2 rfl
noncomputable def dL_law_373 := zr_dL_law_373.1
noncomputable def zr_dL_law_374 := zo_96 (q := 375) zr_dL_law_373.2 rfl
noncomputable def dL_law_374 := zr_dL_law_374.1
noncomputable def zr_dL_law_375 := zo_46 (q := 376) zr_dL_law_374.2 rfl
noncomputable def dL_law_375 := zr_dL_law_375.1
noncomputable def zr_dL_law_376 := zo_42 (q := 377) zr_dL_law_375.2 rfl
noncomputable def dL_law_376 := zr_dL_law_376.1
noncomputable def zr_dL_law_377 := zo_29 (q := 378) zr_dL_law_376.2 rfl
noncomputable def dL_law_377 := zr_dL_law_377.1
noncomputable def zr_dL_law_378 := zo_16 (k := 6)  (q := 380) zr_dL_law_377.2 (by decide +kernel) rfl
noncomputable def dL_law_378 := zr_dL_law_378.1
noncomputable def zr_dL_law_380 := zo_96 (q := 381) zr_dL_law_378.2 rfl
noncomputable def dL_law_380 := zr_dL_law_380.1
noncomputable def zr_dL_law_381 := zo_46 (q := 382) zr_dL_law_380.2 rfl
noncomputable def dL_law_381 := zr_dL_law_381.1
noncomputable def zr_dL_law_382 := zo_182 (k := 36)  (q := 385) zr_dL_law_381.2 rfl rfl
noncomputable def dL_law_382 := zr_dL_law_382.1
noncomputable def zr_dL_law_385 := zo_87 (q := 386) zr_dL_law_382.2 rfl
noncomputable def dL_law_385 := zr_dL_law_385.1
noncomputable def zr_dL_law_386 := zo_167 (k := 1228)  (q := 389) zr_dL_law_385.2 (by decide +kernel) rfl
noncomputable def dL_law_386 := zr_dL_law_386.1
noncomputable def zr_dL_law_389 := zo_43 (q := 390) zr_dL_law_386.2 rfl
noncomputable def dL_law_389 := zr_dL_law_389.1
noncomputable def zr_dL_law_390 := zo_182 (k := 37)  (q := 393) zr_dL_law_389.2 rfl rfl
noncomputable def dL_law_390 := zr_dL_law_390.1
noncomputable def zr_dL_law_393 := zo_87 (q := 394) zr_dL_law_390.2 rfl
noncomputable def dL_law_393 := zr_dL_law_393.1
noncomputable def zr_dL_law_394 := zo_44 (q := 395) zr_dL_law_393.2 rfl
noncomputable def dL_law_394 := zr_dL_law_394.1
noncomputable def zr_dL_law_395 := zo_182 (k := 41)  (q := 398) zr_dL_law_394.2 rfl rfl
noncomputable def dL_law_395 := zr_dL_law_395.1
noncomputable def zr_dL_law_398 := zo_87 (q := 399) zr_dL_law_395.2 rfl
noncomputable def dL_law_398 := zr_dL_law_398.1
noncomputable def zr_dL_law_399 := zo_167 (k := 1215)  (q := 402) zr_dL_law_398.2 (by decide +kernel) rfl
noncomputable def dL_law_399 := zr_dL_law_399.1
noncomputable def zr_dL_law_402 := zo_43 (q := 403) zr_dL_law_399.2 rfl
noncomputable def dL_law_402 := zr_dL_law_402.1
noncomputable def zr_dL_law_403 := zo_42 (q := 404) zr_dL_law_402.2 rfl
noncomputable def dL_law_403 := zr_dL_law_403.1
noncomputable def zr_dL_law_404 := zo_29 (q := 405) zr_dL_law_403.2 rfl
noncomputable def dL_law_404 := zr_dL_law_404.1
noncomputable def zr_dL_law_405 := zo_4 (q := 406) zr_dL_law_404.2 rfl
noncomputable def dL_law_405 := zr_dL_law_405.1
noncomputable def zr_dL_law_406 := zo_96 (q := 407) zr_dL_law_405.2 rfl
noncomputable def dL_law_406 := zr_dL_law_406.1
noncomputable def zr_dL_law_407 := zo_46 (q := 408) zr_dL_law_406.2 rfl
noncomputable def dL_law_407 := zr_dL_law_407.1
noncomputable def zr_dL_law_408 := zo_182 (k := 42)  (q := 411) zr_dL_law_407.2 rfl rfl
noncomputable def dL_law_408 := zr_dL_law_408.1
noncomputable def zr_dL_law_411 := zo_87 (q := 412) zr_dL_law_408.2 rfl
noncomputable def dL_law_411 := zr_dL_law_411.1
noncomputable def zr_dL_law_412 := zo_44 (q := 413) zr_dL_law_411.2 rfl
noncomputable def dL_law_412 := zr_dL_law_412.1
noncomputable def zr_dL_law_413 := zo_42 (q := 414) zr_dL_law_412.2 rfl
noncomputable def dL_law_413 := zr_dL_law_413.1
noncomputable def zr_dL_law_414 := zo_29 (q := 415) zr_dL_law_413.2 rfl
noncomputable def dL_law_414 := zr_dL_law_414.1
noncomputable def zr_dL_law_415 := zo_4 (q := 416) zr_dL_law_414.2 rfl
noncomputable def dL_law_415 := zr_dL_law_415.1
noncomputable def zr_dL_law_416 := zo_96 (q := 417) zr_dL_law_415.2 rfl
noncomputable def dL_law_416 := zr_dL_law_416.1
noncomputable def zr_dL_law_417 := zo_46 (q := 418) zr_dL_law_416.2 rfl
noncomputable def dL_law_417 := zr_dL_law_417.1
noncomputable def zr_dL_law_418 := zo_182 (k := 45)  (q := 421) zr_dL_law_417.2 rfl rfl
noncomputable def dL_law_418 := zr_dL_law_418.1
noncomputable def zr_dL_law_421 := zo_87 (q := 422) zr_dL_law_418.2 rfl
noncomputable def dL_law_421 := zr_dL_law_421.1
noncomputable def zr_dL_law_422 := zo_167 (k := 1192)  (q := 425) zr_dL_law_421.2 (by decide +kernel) rfl
noncomputable def dL_law_422 := zr_dL_law_422.1
noncomputable def zr_dL_law_425 := zo_43 (q := 426) zr_dL_law_422.2 rfl
noncomputable def dL_law_425 := zr_dL_law_425.1
noncomputable def zr_dL_law_426 := zo_42 (q := 427) zr_dL_law_425.2 rfl
noncomputable def dL_law_426 := zr_dL_law_426.1
noncomputable def zr_dL_law_427 := zo_29 (q := 428) zr_dL_law_426.2 rfl
noncomputable def dL_law_427 := zr_dL_law_427.1
noncomputable def zr_dL_law_428 := zo_4 (q := 429) zr_dL_law_427.2 rfl
noncomputable def dL_law_428 := zr_dL_law_428.1
noncomputable def zr_dL_law_429 := zo_96 (q := 430) zr_dL_law_428.2 rfl
noncomputable def dL_law_429 := zr_dL_law_429.1
noncomputable def zr_dL_law_430 := zo_46 (q := 431) zr_dL_law_429.2 rfl
noncomputable def dL_law_430 := zr_dL_law_430.1
noncomputable def zr_dL_law_431 := zo_42 (q := 432) zr_dL_law_430.2 rfl
noncomputable def dL_law_431 := zr_dL_law_431.1
noncomputable def zr_dL_law_432 := zo_29 (q := 433) zr_dL_law_431.2 rfl
noncomputable def dL_law_432 := zr_dL_law_432.1
noncomputable def zr_dL_law_433 := zo_5 (q := 434) zr_dL_law_432.2 rfl
noncomputable def dL_law_433 := zr_dL_law_433.1
noncomputable def zr_dL_law_434 := zo_96 (q := 435) zr_dL_law_433.2 rfl
noncomputable def dL_law_434 := zr_dL_law_434.1
noncomputable def zr_dL_law_435 := zo_46 (q := 436) zr_dL_law_434.2 rfl
noncomputable def dL_law_435 := zr_dL_law_435.1
noncomputable def zr_dL_law_436 := zo_42 (q := 437) zr_dL_law_435.2 rfl
noncomputable def dL_law_436 := zr_dL_law_436.1
noncomputable def zr_dL_law_437 := zo_29 (q := 438) zr_dL_law_436.2 rfl
noncomputable def dL_law_437 := zr_dL_law_437.1
noncomputable def zr_dL_law_438 := zo_6 (q := 439) zr_dL_law_437.2 rfl
noncomputable def dL_law_438 := zr_dL_law_438.1
noncomputable def zr_dL_law_439 := zo_96 (q := 440) zr_dL_law_438.2 rfl
noncomputable def dL_law_439 := zr_dL_law_439.1
noncomputable def zr_dL_law_440 := zo_46 (q := 441) zr_dL_law_439.2 rfl
noncomputable def dL_law_440 := zr_dL_law_440.1
noncomputable def zr_dL_law_441 := zo_182 (k := 46)  (q := 444) zr_dL_law_440.2 rfl rfl
noncomputable def dL_law_441 := zr_dL_law_441.1
noncomputable def zr_dL_law_444 := zo_87 (q := 445) zr_dL_law_441.2 rfl
noncomputable def dL_law_444 := zr_dL_law_444.1
noncomputable def zr_dL_law_445 := zo_44 (q := 446) zr_dL_law_444.2 rfl
noncomputable def dL_law_445 := zr_dL_law_445.1
noncomputable def zr_dL_law_446 := zo_42 (q := 447) zr_dL_law_445.2 rfl
noncomputable def dL_law_446 := zr_dL_law_446.1
noncomputable def zr_dL_law_447 := zo_29 (q := 448) zr_dL_law_446.2 rfl
noncomputable def dL_law_447 := zr_dL_law_447.1
noncomputable def zr_dL_law_448 := zo_4 (q := 449) zr_dL_law_447.2 rfl
noncomputable def dL_law_448 := zr_dL_law_448.1
noncomputable def zr_dL_law_449 := zo_96 (q := 450) zr_dL_law_448.2 rfl
noncomputable def dL_law_449 := zr_dL_law_449.1
noncomputable def zr_dL_law_450 := zo_46 (q := 451) zr_dL_law_449.2 rfl
noncomputable def dL_law_450 := zr_dL_law_450.1
noncomputable def zr_dL_law_451 := zo_42 (q := 452) zr_dL_law_450.2 rfl
noncomputable def dL_law_451 := zr_dL_law_451.1
noncomputable def zr_dL_law_452 := zo_29 (q := 453) zr_dL_law_451.2 rfl
noncomputable def dL_law_452 := zr_dL_law_452.1
noncomputable def zr_dL_law_453 := zo_5 (q := 454) zr_dL_law_452.2 rfl
noncomputable def dL_law_453 := zr_dL_law_453.1
noncomputable def zr_dL_law_454 := zo_96 (q := 455) zr_dL_law_453.2 rfl
noncomputable def dL_law_454 := zr_dL_law_454.1
noncomputable def zr_dL_law_455 := zo_46 (q := 456) zr_dL_law_454.2 rfl
noncomputable def dL_law_455 := zr_dL_law_455.1
noncomputable def zr_dL_law_456 := zo_42 (q := 457) zr_dL_law_455.2 rfl
noncomputable def dL_law_456 := zr_dL_law_456.1
noncomputable def zr_dL_law_457 := zo_29 (q := 458) zr_dL_law_456.2 rfl
noncomputable def dL_law_457 := zr_dL_law_457.1
noncomputable def zr_dL_law_458 := zo_6 (q := 459) zr_dL_law_457.2 rfl
noncomputable def dL_law_458 := zr_dL_law_458.1
noncomputable def zr_dL_law_459 := zo_96 (q := 460) zr_dL_law_458.2 rfl
noncomputable def dL_law_459 := zr_dL_law_459.1
noncomputable def zr_dL_law_460 := zo_46 (q := 461) zr_dL_law_459.2 rfl
noncomputable def dL_law_460 := zr_dL_law_460.1
noncomputable def zr_dL_law_461 := zo_182 (k := 49)  (q := 464) zr_dL_law_460.2 rfl rfl
noncomputable def dL_law_461 := zr_dL_law_461.1
noncomputable def zr_dL_law_464 := zo_87 (q := 465) zr_dL_law_461.2 rfl
noncomputable def dL_law_464 := zr_dL_law_464.1
noncomputable def zr_dL_law_465 := zo_167 (k := 1149)  (q := 468) zr_dL_law_464.2 (by decide +kernel) rfl
noncomputable def dL_law_465 := zr_dL_law_465.1
noncomputable def zr_dL_law_468 := zo_43 (q := 469) zr_dL_law_465.2 rfl
noncomputable def dL_law_468 := zr_dL_law_468.1
noncomputable def zr_dL_law_469 := zo_42 (q := 470) zr_dL_law_468.2 rfl
noncomputable def dL_law_469 := zr_dL_law_469.1
noncomputable def zr_dL_law_470 := zo_29 (q := 471) zr_dL_law_469.2 rfl
noncomputable def dL_law_470 := zr_dL_law_470.1
noncomputable def zr_dL_law_471 := zo_4 (q := 472) zr_dL_law_470.2 rfl
noncomputable def dL_law_471 := zr_dL_law_471.1
noncomputable def zr_dL_law_472 := zo_96 (q := 473) zr_dL_law_471.2 rfl
noncomputable def dL_law_472 := zr_dL_law_472.1
noncomputable def zr_dL_law_473 := zo_46 (q := 474) zr_dL_law_472.2 rfl
noncomputable def dL_law_473 := zr_dL_law_473.1
noncomputable def zr_dL_law_474 := zo_42 (q := 475) zr_dL_law_473.2 rfl
noncomputable def dL_law_474 := zr_dL_law_474.1
noncomputable def zr_dL_law_475 := zo_29 (q := 476) zr_dL_law_474.2 rfl
noncomputable def dL_law_475 := zr_dL_law_475.1
noncomputable def zr_dL_law_476 := zo_5 (q := 477) zr_dL_law_475.2 rfl
noncomputable def dL_law_476 := zr_dL_law_476.1
noncomputable def zr_dL_law_477 := zo_96 (q := 478) zr_dL_law_476.2 rfl
noncomputable def dL_law_477 := zr_dL_law_477.1
noncomputable def zr_dL_law_478 := zo_46 (q := 479) zr_dL_law_477.2 rfl
noncomputable def dL_law_478 := zr_dL_law_478.1
noncomputable def zr_dL_law_479 := zo_182 (k := 50)  (q := 482) zr_dL_law_478.2 rfl rfl
noncomputable def dL_law_479 := zr_dL_law_479.1
noncomputable def zr_dL_law_482 := zo_87 (q := 483) zr_dL_law_479.2 rfl
noncomputable def dL_law_482 := zr_dL_law_482.1
noncomputable def zr_dL_law_483 := zo_44 (q := 484) zr_dL_law_482.2 rfl
noncomputable def dL_law_483 := zr_dL_law_483.1
noncomputable def zr_dL_law_484 := zo_42 (q := 485) zr_dL_law_483.2 rfl
noncomputable def dL_law_484 := zr_dL_law_484.1
noncomputable def zr_dL_law_485 := zo_29 (q := 486) zr_dL_law_484.2 rfl
noncomputable def dL_law_485 := zr_dL_law_485.1
noncomputable def zr_dL_law_486 := zo_4 (q := 487) zr_dL_law_485.2 rfl
noncomputable def dL_law_486 := zr_dL_law_486.1
noncomputable def zr_dL_law_487 := zo_96 (q := 488) zr_dL_law_486.2 rfl
noncomputable def dL_law_487 := zr_dL_law_487.1
noncomputable def zr_dL_law_488 := zo_46 (q := 489) zr_dL_law_487.2 rfl
noncomputable def dL_law_488 := zr_dL_law_488.1
noncomputable def zr_dL_law_489 := zo_42 (q := 490) zr_dL_law_488.2 rfl
noncomputable def dL_law_489 := zr_dL_law_489.1
noncomputable def zr_dL_law_490 := zo_29 (q := 491) zr_dL_law_489.2 rfl
noncomputable def dL_law_490 := zr_dL_law_490.1
noncomputable def zr_dL_law_491 := zo_5 (q := 492) zr_dL_law_490.2 rfl
noncomputable def dL_law_491 := zr_dL_law_491.1
noncomputable def zr_dL_law_492 := zo_96 (q := 493) zr_dL_law_491.2 rfl
noncomputable def dL_law_492 := zr_dL_law_492.1
noncomputable def zr_dL_law_493 := zo_46 (q := 494) zr_dL_law_492.2 rfl
noncomputable def dL_law_493 := zr_dL_law_493.1
noncomputable def zr_dL_law_494 := zo_182 (k := 53)  (q := 497) zr_dL_law_493.2 rfl rfl
noncomputable def dL_law_494 := zr_dL_law_494.1
noncomputable def zr_dL_law_497 := zo_87 (q := 498) zr_dL_law_494.2 rfl
noncomputable def dL_law_497 := zr_dL_law_497.1
noncomputable def zr_dL_law_498 := zo_167 (k := 1116)  (q := 501) zr_dL_law_497.2 (by decide +kernel) rfl
noncomputable def dL_law_498 := zr_dL_law_498.1
noncomputable def zr_dL_law_501 := zo_43 (q := 502) zr_dL_law_498.2 rfl
noncomputable def dL_law_501 := zr_dL_law_501.1
noncomputable def zr_dL_law_502 := zo_42 (q := 503) zr_dL_law_501.2 rfl
noncomputable def dL_law_502 := zr_dL_law_502.1
noncomputable def zr_dL_law_503 := zo_29 (q := 504) zr_dL_law_502.2 rfl
noncomputable def dL_law_503 := zr_dL_law_503.1
noncomputable def zr_dL_law_504 := zo_4 (q := 505) zr_dL_law_503.2 rfl
noncomputable def dL_law_504 := zr_dL_law_504.1
noncomputable def zr_dL_law_505 := zo_96 (q := 506) zr_dL_law_504.2 rfl
noncomputable def dL_law_505 := zr_dL_law_505.1
noncomputable def zr_dL_law_506 := zo_46 (q := 507) zr_dL_law_505.2 rfl
noncomputable def dL_law_506 := zr_dL_law_506.1
noncomputable def zr_dL_law_507 := zo_42 (q := 508) zr_dL_law_506.2 rfl
noncomputable def dL_law_507 := zr_dL_law_507.1
noncomputable def zr_dL_law_508 := zo_29 (q := 509) zr_dL_law_507.2 rfl
noncomputable def dL_law_508 := zr_dL_law_508.1
noncomputable def zr_dL_law_509 := zo_5 (q := 510) zr_dL_law_508.2 rfl
noncomputable def dL_law_509 := zr_dL_law_509.1
noncomputable def zr_dL_law_510 := zo_96 (q := 511) zr_dL_law_509.2 rfl
noncomputable def dL_law_510 := zr_dL_law_510.1
noncomputable def zr_dL_law_511 := zo_46 (q := 512) zr_dL_law_510.2 rfl
noncomputable def dL_law_511 := zr_dL_law_511.1
noncomputable def zr_dL_law_512 := zo_42 (q := 513) zr_dL_law_511.2 rfl
noncomputable def dL_law_512 := zr_dL_law_512.1
noncomputable def zr_dL_law_513 := zo_29 (q := 514) zr_dL_law_512.2 rfl
noncomputable def dL_law_513 := zr_dL_law_513.1
noncomputable def zr_dL_law_514 := zo_6 (q := 515) zr_dL_law_513.2 rfl
noncomputable def dL_law_514 := zr_dL_law_514.1
noncomputable def zr_dL_law_515 := zo_96 (q := 516) zr_dL_law_514.2 rfl
noncomputable def dL_law_515 := zr_dL_law_515.1
noncomputable def zr_dL_law_516 := zo_46 (q := 517) zr_dL_law_515.2 rfl
noncomputable def dL_law_516 := zr_dL_law_516.1
noncomputable def zr_dL_law_517 := zo_182 (k := 54)  (q := 520) zr_dL_law_516.2 rfl rfl
noncomputable def dL_law_517 := zr_dL_law_517.1
noncomputable def zr_dL_law_520 := zo_87 (q := 521) zr_dL_law_517.2 rfl
noncomputable def dL_law_520 := zr_dL_law_520.1
noncomputable def zr_dL_law_521 := zo_44 (q := 522) zr_dL_law_520.2 rfl
noncomputable def dL_law_521 := zr_dL_law_521.1
noncomputable def zr_dL_law_522 := zo_42 (q := 523) zr_dL_law_521.2 rfl
noncomputable def dL_law_522 := zr_dL_law_522.1
noncomputable def zr_dL_law_523 := zo_29 (q := 524) zr_dL_law_522.2 rfl
noncomputable def dL_law_523 := zr_dL_law_523.1
noncomputable def zr_dL_law_524 := zo_4 (q := 525) zr_dL_law_523.2 rfl
noncomputable def dL_law_524 := zr_dL_law_524.1
noncomputable def zr_dL_law_525 := zo_96 (q := 526) zr_dL_law_524.2 rfl
noncomputable def dL_law_525 := zr_dL_law_525.1
noncomputable def zr_dL_law_526 := zo_46 (q := 527) zr_dL_law_525.2 rfl
noncomputable def dL_law_526 := zr_dL_law_526.1
noncomputable def zr_dL_law_527 := zo_42 (q := 528) zr_dL_law_526.2 rfl
noncomputable def dL_law_527 := zr_dL_law_527.1
noncomputable def zr_dL_law_528 := zo_29 (q := 529) zr_dL_law_527.2 rfl
noncomputable def dL_law_528 := zr_dL_law_528.1
noncomputable def zr_dL_law_529 := zo_5 (q := 530) zr_dL_law_528.2 rfl
noncomputable def dL_law_529 := zr_dL_law_529.1
noncomputable def zr_dL_law_530 := zo_96 (q := 531) zr_dL_law_529.2 rfl
noncomputable def dL_law_530 := zr_dL_law_530.1
noncomputable def zr_dL_law_531 := zo_46 (q := 532) zr_dL_law_530.2 rfl
noncomputable def dL_law_531 := zr_dL_law_531.1
noncomputable def zr_dL_law_532 := zo_42 (q := 533) zr_dL_law_531.2 rfl
noncomputable def dL_law_532 := zr_dL_law_532.1
noncomputable def zr_dL_law_533 := zo_29 (q := 534) zr_dL_law_532.2 rfl
noncomputable def dL_law_533 := zr_dL_law_533.1
noncomputable def zr_dL_law_534 := zo_6 (q := 535) zr_dL_law_533.2 rfl
noncomputable def dL_law_534 := zr_dL_law_534.1
noncomputable def zr_dL_law_535 := zo_96 (q := 536) zr_dL_law_534.2 rfl
noncomputable def dL_law_535 := zr_dL_law_535.1
noncomputable def zr_dL_law_536 := zo_46 (q := 537) zr_dL_law_535.2 rfl
noncomputable def dL_law_536 := zr_dL_law_536.1
noncomputable def zr_dL_law_537 := zo_182 (k := 57)  (q := 540) zr_dL_law_536.2 rfl rfl
noncomputable def dL_law_537 := zr_dL_law_537.1
noncomputable def zr_dL_law_540 := zo_87 (q := 541) zr_dL_law_537.2 rfl
noncomputable def dL_law_540 := zr_dL_law_540.1
noncomputable def zr_dL_law_541 := zo_167 (k := 1073)  (q := 544) zr_dL_law_540.2 (by decide +kernel) rfl
noncomputable def dL_law_541 := zr_dL_law_541.1
noncomputable def zr_dL_law_544 := zo_43 (q := 545) zr_dL_law_541.2 rfl
noncomputable def dL_law_544 := zr_dL_law_544.1
noncomputable def zr_dL_law_545 := zo_42 (q := 546) zr_dL_law_544.2 rfl
noncomputable def dL_law_545 := zr_dL_law_545.1
noncomputable def zr_dL_law_546 := zo_29 (q := 547) zr_dL_law_545.2 rfl
noncomputable def dL_law_546 := zr_dL_law_546.1
noncomputable def zr_dL_law_547 := zo_4 (q := 548) zr_dL_law_546.2 rfl
noncomputable def dL_law_547 := zr_dL_law_547.1
noncomputable def zr_dL_law_548 := zo_96 (q := 549) zr_dL_law_547.2 rfl
noncomputable def dL_law_548 := zr_dL_law_548.1
noncomputable def zr_dL_law_549 := zo_46 (q := 550) zr_dL_law_548.2 rfl
noncomputable def dL_law_549 := zr_dL_law_549.1
noncomputable def zr_dL_law_550 := zo_42 (q := 551) zr_dL_law_549.2 rfl
noncomputable def dL_law_550 := zr_dL_law_550.1
noncomputable def zr_dL_law_551 := zo_29 (q := 552) zr_dL_law_550.2 rfl
noncomputable def dL_law_551 := zr_dL_law_551.1
noncomputable def zr_dL_law_552 := zo_5 (q := 553) zr_dL_law_551.2 rfl
noncomputable def dL_law_552 := zr_dL_law_552.1
noncomputable def zr_dL_law_553 := zo_96 (q := 554) zr_dL_law_552.2 rfl
noncomputable def dL_law_553 := zr_dL_law_553.1
noncomputable def zr_dL_law_554 := zo_46 (q := 555) zr_dL_law_553.2 rfl
noncomputable def dL_law_554 := zr_dL_law_554.1
noncomputable def zr_dL_law_555 := zo_182 (k := 58)  (q := 558) zr_dL_law_554.2 rfl rfl
noncomputable def dL_law_555 := zr_dL_law_555.1
noncomputable def zr_dL_law_558 := zo_87 (q := 559) zr_dL_law_555.2 rfl
noncomputable def dL_law_558 := zr_dL_law_558.1
noncomputable def zr_dL_law_559 := zo_44 (q := 560) zr_dL_law_558.2 rfl
noncomputable def dL_law_559 := zr_dL_law_559.1
noncomputable def zr_dL_law_560 := zo_42 (q := 561) zr_dL_law_559.2 rfl
noncomputable def dL_law_560 := zr_dL_law_560.1
noncomputable def zr_dL_law_561 := zo_29 (q := 562) zr_dL_law_560.2 rfl
noncomputable def dL_law_561 := zr_dL_law_561.1
noncomputable def zr_dL_law_562 := zo_4 (q := 563) zr_dL_law_561.2 rfl
noncomputable def dL_law_562 := zr_dL_law_562.1
noncomputable def zr_dL_law_563 := zo_96 (q := 564) zr_dL_law_562.2 rfl
noncomputable def dL_law_563 := zr_dL_law_563.1
noncomputable def zr_dL_law_564 := zo_46 (q := 565) zr_dL_law_563.2 rfl
noncomputable def dL_law_564 := zr_dL_law_564.1
noncomputable def zr_dL_law_565 := zo_42 (q := 566) zr_dL_law_564.2 rfl
noncomputable def dL_law_565 := zr_dL_law_565.1
noncomputable def zr_dL_law_566 := zo_29 (q := 567) zr_dL_law_565.2 rfl
noncomputable def dL_law_566 := zr_dL_law_566.1
noncomputable def zr_dL_law_567 := zo_5 (q := 568) zr_dL_law_566.2 rfl
noncomputable def dL_law_567 := zr_dL_law_567.1
noncomputable def zr_dL_law_568 := zo_96 (q := 569) zr_dL_law_567.2 rfl
noncomputable def dL_law_568 := zr_dL_law_568.1
noncomputable def zr_dL_law_569 := zo_46 (q := 570) zr_dL_law_568.2 rfl
noncomputable def dL_law_569 := zr_dL_law_569.1
noncomputable def zr_dL_law_570 := zo_182 (k := 61)  (q := 573) zr_dL_law_569.2 rfl rfl
noncomputable def dL_law_570 := zr_dL_law_570.1
noncomputable def zr_dL_law_573 := zo_87 (q := 574) zr_dL_law_570.2 rfl
noncomputable def dL_law_573 := zr_dL_law_573.1
noncomputable def zr_dL_law_574 := zo_167 (k := 1040)  (q := 577) zr_dL_law_573.2 (by decide +kernel) rfl
noncomputable def dL_law_574 := zr_dL_law_574.1
noncomputable def zr_dL_law_577 := zo_43 (q := 578) zr_dL_law_574.2 rfl
noncomputable def dL_law_577 := zr_dL_law_577.1
noncomputable def zr_dL_law_578 := zo_42 (q := 579) zr_dL_law_577.2 rfl
noncomputable def dL_law_578 := zr_dL_law_578.1
noncomputable def zr_dL_law_579 := zo_29 (q := 580) zr_dL_law_578.2 rfl
noncomputable def dL_law_579 := zr_dL_law_579.1
noncomputable def zr_dL_law_580 := zo_4 (q := 581) zr_dL_law_579.2 rfl
noncomputable def dL_law_580 := zr_dL_law_580.1
noncomputable def zr_dL_law_581 := zo_96 (q := 582) zr_dL_law_580.2 rfl
noncomputable def dL_law_581 := zr_dL_law_581.1
noncomputable def zr_dL_law_582 := zo_46 (q := 583) zr_dL_law_581.2 rfl
noncomputable def dL_law_582 := zr_dL_law_582.1
noncomputable def zr_dL_law_583 := zo_42 (q := 584) zr_dL_law_582.2 rfl
noncomputable def dL_law_583 := zr_dL_law_583.1
noncomputable def zr_dL_law_584 := zo_29 (q := 585) zr_dL_law_583.2 rfl
noncomputable def dL_law_584 := zr_dL_law_584.1
noncomputable def zr_dL_law_585 := zo_5 (q := 586) zr_dL_law_584.2 rfl
noncomputable def dL_law_585 := zr_dL_law_585.1
noncomputable def zr_dL_law_586 := zo_96 (q := 587) zr_dL_law_585.2 rfl
noncomputable def dL_law_586 := zr_dL_law_586.1
noncomputable def zr_dL_law_587 := zo_46 (q := 588) zr_dL_law_586.2 rfl
noncomputable def dL_law_587 := zr_dL_law_587.1
noncomputable def zr_dL_law_588 := zo_42 (q := 589) zr_dL_law_587.2 rfl
noncomputable def dL_law_588 := zr_dL_law_588.1
noncomputable def zr_dL_law_589 := zo_29 (q := 590) zr_dL_law_588.2 rfl
noncomputable def dL_law_589 := zr_dL_law_589.1
noncomputable def zr_dL_law_590 := zo_6 (q := 591) zr_dL_law_589.2 rfl
noncomputable def dL_law_590 := zr_dL_law_590.1
noncomputable def zr_dL_law_591 := zo_96 (q := 592) zr_dL_law_590.2 rfl
noncomputable def dL_law_591 := zr_dL_law_591.1
noncomputable def zr_dL_law_592 := zo_46 (q := 593) zr_dL_law_591.2 rfl
noncomputable def dL_law_592 := zr_dL_law_592.1
noncomputable def zr_dL_law_593 := zo_182 (k := 62)  (q := 596) zr_dL_law_592.2 rfl rfl
noncomputable def dL_law_593 := zr_dL_law_593.1
noncomputable def zr_dL_law_596 := zo_87 (q := 597) zr_dL_law_593.2 rfl
noncomputable def dL_law_596 := zr_dL_law_596.1
noncomputable def zr_dL_law_597 := zo_44 (q := 598) zr_dL_law_596.2 rfl
noncomputable def dL_law_597 := zr_dL_law_597.1
noncomputable def zr_dL_law_598 := zo_42 (q := 599) zr_dL_law_597.2 rfl
noncomputable def dL_law_598 := zr_dL_law_598.1
noncomputable def zr_dL_law_599 := zo_29 (q := 600) zr_dL_law_598.2 rfl
noncomputable def dL_law_599 := zr_dL_law_599.1
noncomputable def zr_dL_law_600 := zo_4 (q := 601) zr_dL_law_599.2 rfl
noncomputable def dL_law_600 := zr_dL_law_600.1
noncomputable def zr_dL_law_601 := zo_96 (q := 602) zr_dL_law_600.2 rfl
noncomputable def dL_law_601 := zr_dL_law_601.1
noncomputable def zr_dL_law_602 := zo_46 (q := 603) zr_dL_law_601.2 rfl
noncomputable def dL_law_602 := zr_dL_law_602.1
noncomputable def zr_dL_law_603 := zo_42 (q := 604) zr_dL_law_602.2 rfl
noncomputable def dL_law_603 := zr_dL_law_603.1
noncomputable def zr_dL_law_604 := zo_29 (q := 605) zr_dL_law_603.2 rfl
noncomputable def dL_law_604 := zr_dL_law_604.1
noncomputable def zr_dL_law_605 := zo_5 (q := 606) zr_dL_law_604.2 rfl
noncomputable def dL_law_605 := zr_dL_law_605.1
noncomputable def zr_dL_law_606 := zo_96 (q := 607) zr_dL_law_605.2 rfl
noncomputable def dL_law_606 := zr_dL_law_606.1
noncomputable def zr_dL_law_607 := zo_46 (q := 608) zr_dL_law_606.2 rfl
noncomputable def dL_law_607 := zr_dL_law_607.1
noncomputable def zr_dL_law_608 := zo_42 (q := 609) zr_dL_law_607.2 rfl
noncomputable def dL_law_608 := zr_dL_law_608.1
noncomputable def zr_dL_law_609 := zo_29 (q := 610) zr_dL_law_608.2 rfl
noncomputable def dL_law_609 := zr_dL_law_609.1
noncomputable def zr_dL_law_610 := zo_6 (q := 611) zr_dL_law_609.2 rfl
noncomputable def dL_law_610 := zr_dL_law_610.1
noncomputable def zr_dL_law_611 := zo_96 (q := 612) zr_dL_law_610.2 rfl
noncomputable def dL_law_611 := zr_dL_law_611.1
noncomputable def zr_dL_law_612 := zo_46 (q := 613) zr_dL_law_611.2 rfl
noncomputable def dL_law_612 := zr_dL_law_612.1
noncomputable def zr_dL_law_613 := zo_182 (k := 65)  (q := 616) zr_dL_law_612.2 rfl rfl
noncomputable def dL_law_613 := zr_dL_law_613.1
noncomputable def zr_dL_law_616 := zo_87 (q := 617) zr_dL_law_613.2 rfl
noncomputable def dL_law_616 := zr_dL_law_616.1
noncomputable def zr_dL_law_617 := zo_167 (k := 997)  (q := 620) zr_dL_law_616.2 (by decide +kernel) rfl
noncomputable def dL_law_617 := zr_dL_law_617.1
noncomputable def zr_dL_law_620 := zo_43 (q := 621) zr_dL_law_617.2 rfl
noncomputable def dL_law_620 := zr_dL_law_620.1
noncomputable def zr_dL_law_621 := zo_42 (q := 622) zr_dL_law_620.2 rfl
noncomputable def dL_law_621 := zr_dL_law_621.1
noncomputable def zr_dL_law_622 := zo_29 (q := 623) zr_dL_law_621.2 rfl
noncomputable def dL_law_622 := zr_dL_law_622.1
noncomputable def zr_dL_law_623 := zo_4 (q := 624) zr_dL_law_622.2 rfl
noncomputable def dL_law_623 := zr_dL_law_623.1
noncomputable def zr_dL_law_624 := zo_96 (q := 625) zr_dL_law_623.2 rfl
noncomputable def dL_law_624 := zr_dL_law_624.1
noncomputable def zr_dL_law_625 := zo_46 (q := 626) zr_dL_law_624.2 rfl
noncomputable def dL_law_625 := zr_dL_law_625.1
noncomputable def zr_dL_law_626 := zo_42 (q := 627) zr_dL_law_625.2 rfl
noncomputable def dL_law_626 := zr_dL_law_626.1
noncomputable def zr_dL_law_627 := zo_29 (q := 628) zr_dL_law_626.2 rfl
noncomputable def dL_law_627 := zr_dL_law_627.1
noncomputable def zr_dL_law_628 := zo_5 (q := 629) zr_dL_law_627.2 rfl
noncomputable def dL_law_628 := zr_dL_law_628.1
noncomputable def zr_dL_law_629 := zo_96 (q := 630) zr_dL_law_628.2 rfl
noncomputable def dL_law_629 := zr_dL_law_629.1
noncomputable def zr_dL_law_630 := zo_46 (q := 631) zr_dL_law_629.2 rfl
noncomputable def dL_law_630 := zr_dL_law_630.1
noncomputable def zr_dL_law_631 := zo_42 (q := 632) zr_dL_law_630.2 rfl
noncomputable def dL_law_631 := zr_dL_law_631.1
noncomputable def zr_dL_law_632 := zo_29 (q := 633) zr_dL_law_631.2 rfl
noncomputable def dL_law_632 := zr_dL_law_632.1
noncomputable def zr_dL_law_633 := zo_6 (q := 634) zr_dL_law_632.2 rfl
noncomputable def dL_law_633 := zr_dL_law_633.1
noncomputable def zr_dL_law_634 := zo_96 (q := 635) zr_dL_law_633.2 rfl
noncomputable def dL_law_634 := zr_dL_law_634.1
noncomputable def zr_dL_law_635 := zo_46 (q := 636) zr_dL_law_634.2 rfl
noncomputable def dL_law_635 := zr_dL_law_635.1
noncomputable def zr_dL_law_636 := zo_42 (q := 637) zr_dL_law_635.2 rfl
noncomputable def dL_law_636 := zr_dL_law_636.1
noncomputable def zr_dL_law_637 := zo_29 (q := 638) zr_dL_law_636.2 rfl
noncomputable def dL_law_637 := zr_dL_law_637.1
noncomputable def zr_dL_law_638 := zo_7 (q := 639) zr_dL_law_637.2 rfl
noncomputable def dL_law_638 := zr_dL_law_638.1
noncomputable def zr_dL_law_639 := zo_96 (q := 640) zr_dL_law_638.2 rfl
noncomputable def dL_law_639 := zr_dL_law_639.1
noncomputable def zr_dL_law_640 := zo_46 (q := 641) zr_dL_law_639.2 rfl
noncomputable def dL_law_640 := zr_dL_law_640.1
noncomputable def zr_dL_law_641 := zo_182 (k := 66)  (q := 644) zr_dL_law_640.2 rfl rfl
noncomputable def dL_law_641 := zr_dL_law_641.1
noncomputable def zr_dL_law_644 := zo_87 (q := 645) zr_dL_law_641.2 rfl
noncomputable def dL_law_644 := zr_dL_law_644.1
noncomputable def zr_dL_law_645 := zo_44 (q := 646) zr_dL_law_644.2 rfl
noncomputable def dL_law_645 := zr_dL_law_645.1
noncomputable def zr_dL_law_646 := zo_42 (q := 647) zr_dL_law_645.2 rfl
noncomputable def dL_law_646 := zr_dL_law_646.1
noncomputable def zr_dL_law_647 := zo_29 (q := 648) zr_dL_law_646.2 rfl
noncomputable def dL_law_647 := zr_dL_law_647.1
noncomputable def zr_dL_law_648 := zo_4 (q := 649) zr_dL_law_647.2 rfl
noncomputable def dL_law_648 := zr_dL_law_648.1
noncomputable def zr_dL_law_649 := zo_96 (q := 650) zr_dL_law_648.2 rfl
noncomputable def dL_law_649 := zr_dL_law_649.1
noncomputable def zr_dL_law_650 := zo_46 (q := 651) zr_dL_law_649.2 rfl
noncomputable def dL_law_650 := zr_dL_law_650.1
noncomputable def zr_dL_law_651 := zo_42 (q := 652) zr_dL_law_650.2 rfl
noncomputable def dL_law_651 := zr_dL_law_651.1
noncomputable def zr_dL_law_652 := zo_29 (q := 653) zr_dL_law_651.2 rfl
noncomputable def dL_law_652 := zr_dL_law_652.1
noncomputable def zr_dL_law_653 := zo_5 (q := 654) zr_dL_law_652.2 rfl
noncomputable def dL_law_653 := zr_dL_law_653.1
noncomputable def zr_dL_law_654 := zo_96 (q := 655) zr_dL_law_653.2 rfl
noncomputable def dL_law_654 := zr_dL_law_654.1
noncomputable def zr_dL_law_655 := zo_46 (q := 656) zr_dL_law_654.2 rfl
noncomputable def dL_law_655 := zr_dL_law_655.1
noncomputable def zr_dL_law_656 := zo_42 (q := 657) zr_dL_law_655.2 rfl
noncomputable def dL_law_656 := zr_dL_law_656.1
noncomputable def zr_dL_law_657 := zo_29 (q := 658) zr_dL_law_656.2 rfl
noncomputable def dL_law_657 := zr_dL_law_657.1
noncomputable def zr_dL_law_658 := zo_6 (q := 659) zr_dL_law_657.2 rfl
noncomputable def dL_law_658 := zr_dL_law_658.1
noncomputable def zr_dL_law_659 := zo_96 (q := 660) zr_dL_law_658.2 rfl
noncomputable def dL_law_659 := zr_dL_law_659.1
noncomputable def zr_dL_law_660 := zo_46 (q := 661) zr_dL_law_659.2 rfl
noncomputable def dL_law_660 := zr_dL_law_660.1
noncomputable def zr_dL_law_661 := zo_42 (q := 662) zr_dL_law_660.2 rfl
noncomputable def dL_law_661 := zr_dL_law_661.1
noncomputable def zr_dL_law_662 := zo_29 (q := 663) zr_dL_law_661.2 rfl
noncomputable def dL_law_662 := zr_dL_law_662.1
noncomputable def zr_dL_law_663 := zo_7 (q := 664) zr_dL_law_662.2 rfl
noncomputable def dL_law_663 := zr_dL_law_663.1
noncomputable def zr_dL_law_664 := zo_96 (q := 665) zr_dL_law_663.2 rfl
noncomputable def dL_law_664 := zr_dL_law_664.1
noncomputable def zr_dL_law_665 := zo_46 (q := 666) zr_dL_law_664.2 rfl
noncomputable def dL_law_665 := zr_dL_law_665.1
noncomputable def zr_dL_law_666 := zo_182 (k := 70)  (q := 669) zr_dL_law_665.2 rfl rfl
noncomputable def dL_law_666 := zr_dL_law_666.1
noncomputable def zr_dL_law_669 := zo_87 (q := 670) zr_dL_law_666.2 rfl
noncomputable def dL_law_669 := zr_dL_law_669.1
noncomputable def zr_dL_law_670 := zo_167 (k := 944)  (q := 673) zr_dL_law_669.2 (by decide +kernel) rfl
noncomputable def dL_law_670 := zr_dL_law_670.1
noncomputable def zr_dL_law_673 := zo_43 (q := 674) zr_dL_law_670.2 rfl
noncomputable def dL_law_673 := zr_dL_law_673.1
noncomputable def zr_dL_law_674 := zo_42 (q := 675) zr_dL_law_673.2 rfl
noncomputable def dL_law_674 := zr_dL_law_674.1
noncomputable def zr_dL_law_675 := zo_29 (q := 676) zr_dL_law_674.2 rfl
noncomputable def dL_law_675 := zr_dL_law_675.1
noncomputable def zr_dL_law_676 := zo_4 (q := 677) zr_dL_law_675.2 rfl
noncomputable def dL_law_676 := zr_dL_law_676.1
noncomputable def zr_dL_law_677 := zo_96 (q := 678) zr_dL_law_676.2 rfl
noncomputable def dL_law_677 := zr_dL_law_677.1
noncomputable def zr_dL_law_678 := zo_46 (q := 679) zr_dL_law_677.2 rfl
noncomputable def dL_law_678 := zr_dL_law_678.1
noncomputable def zr_dL_law_679 := zo_42 (q := 680) zr_dL_law_678.2 rfl
noncomputable def dL_law_679 := zr_dL_law_679.1
noncomputable def zr_dL_law_680 := zo_29 (q := 681) zr_dL_law_679.2 rfl
noncomputable def dL_law_680 := zr_dL_law_680.1
noncomputable def zr_dL_law_681 := zo_5 (q := 682) zr_dL_law_680.2 rfl
noncomputable def dL_law_681 := zr_dL_law_681.1
noncomputable def zr_dL_law_682 := zo_96 (q := 683) zr_dL_law_681.2 rfl
noncomputable def dL_law_682 := zr_dL_law_682.1
noncomputable def zr_dL_law_683 := zo_46 (q := 684) zr_dL_law_682.2 rfl
noncomputable def dL_law_683 := zr_dL_law_683.1
noncomputable def zr_dL_law_684 := zo_182 (k := 71)  (q := 687) zr_dL_law_683.2 rfl rfl
noncomputable def dL_law_684 := zr_dL_law_684.1
noncomputable def zr_dL_law_687 := zo_87 (q := 688) zr_dL_law_684.2 rfl
noncomputable def dL_law_687 := zr_dL_law_687.1
noncomputable def zr_dL_law_688 := zo_44 (q := 689) zr_dL_law_687.2 rfl
noncomputable def dL_law_688 := zr_dL_law_688.1
noncomputable def zr_dL_law_689 := zo_42 (q := 690) zr_dL_law_688.2 rfl
noncomputable def dL_law_689 := zr_dL_law_689.1
noncomputable def zr_dL_law_690 := zo_29 (q := 691) zr_dL_law_689.2 rfl
noncomputable def dL_law_690 := zr_dL_law_690.1
noncomputable def zr_dL_law_691 := zo_4 (q := 692) zr_dL_law_690.2 rfl
noncomputable def dL_law_691 := zr_dL_law_691.1
noncomputable def zr_dL_law_692 := zo_96 (q := 693) zr_dL_law_691.2 rfl
noncomputable def dL_law_692 := zr_dL_law_692.1
noncomputable def zr_dL_law_693 := zo_46 (q := 694) zr_dL_law_692.2 rfl
noncomputable def dL_law_693 := zr_dL_law_693.1
noncomputable def zr_dL_law_694 := zo_42 (q := 695) zr_dL_law_693.2 rfl
noncomputable def dL_law_694 := zr_dL_law_694.1
noncomputable def zr_dL_law_695 := zo_29 (q := 696) zr_dL_law_694.2 rfl
noncomputable def dL_law_695 := zr_dL_law_695.1
noncomputable def zr_dL_law_696 := zo_5 (q := 697) zr_dL_law_695.2 rfl
noncomputable def dL_law_696 := zr_dL_law_696.1
noncomputable def zr_dL_law_697 := zo_96 (q := 698) zr_dL_law_696.2 rfl
noncomputable def dL_law_697 := zr_dL_law_697.1
noncomputable def zr_dL_law_698 := zo_46 (q := 699) zr_dL_law_697.2 rfl
noncomputable def dL_law_698 := zr_dL_law_698.1
noncomputable def zr_dL_law_699 := zo_182 (k := 74)  (q := 702) zr_dL_law_698.2 rfl rfl
noncomputable def dL_law_699 := zr_dL_law_699.1
noncomputable def zr_dL_law_702 := zo_87 (q := 703) zr_dL_law_699.2 rfl
noncomputable def dL_law_702 := zr_dL_law_702.1
noncomputable def zr_dL_law_703 := zo_167 (k := 911)  (q := 706) zr_dL_law_702.2 (by decide +kernel) rfl
noncomputable def dL_law_703 := zr_dL_law_703.1
noncomputable def zr_dL_law_706 := zo_43 (q := 707) zr_dL_law_703.2 rfl
noncomputable def dL_law_706 := zr_dL_law_706.1
noncomputable def zr_dL_law_707 := zo_42 (q := 708) zr_dL_law_706.2 rfl
noncomputable def dL_law_707 := zr_dL_law_707.1
noncomputable def zr_dL_law_708 := zo_29 (q := 709) zr_dL_law_707.2 rfl
noncomputable def dL_law_708 := zr_dL_law_708.1
noncomputable def zr_dL_law_709 := zo_4 (q := 710) zr_dL_law_708.2 rfl
noncomputable def dL_law_709 := zr_dL_law_709.1
noncomputable def zr_dL_law_710 := zo_96 (q := 711) zr_dL_law_709.2 rfl
noncomputable def dL_law_710 := zr_dL_law_710.1
noncomputable def zr_dL_law_711 := zo_46 (q := 712) zr_dL_law_710.2 rfl
noncomputable def dL_law_711 := zr_dL_law_711.1
noncomputable def zr_dL_law_712 := zo_42 (q := 713) zr_dL_law_711.2 rfl
noncomputable def dL_law_712 := zr_dL_law_712.1
noncomputable def zr_dL_law_713 := zo_29 (q := 714) zr_dL_law_712.2 rfl
noncomputable def dL_law_713 := zr_dL_law_713.1
noncomputable def zr_dL_law_714 := zo_5 (q := 715) zr_dL_law_713.2 rfl
noncomputable def dL_law_714 := zr_dL_law_714.1
noncomputable def zr_dL_law_715 := zo_96 (q := 716) zr_dL_law_714.2 rfl
noncomputable def dL_law_715 := zr_dL_law_715.1
noncomputable def zr_dL_law_716 := zo_46 (q := 717) zr_dL_law_715.2 rfl
noncomputable def dL_law_716 := zr_dL_law_716.1
noncomputable def zr_dL_law_717 := zo_182 (k := 75)  (q := 720) zr_dL_law_716.2 rfl rfl
noncomputable def dL_law_717 := zr_dL_law_717.1
noncomputable def zr_dL_law_720 := zo_87 (q := 721) zr_dL_law_717.2 rfl
noncomputable def dL_law_720 := zr_dL_law_720.1
noncomputable def zr_dL_law_721 := zo_44 (q := 722) zr_dL_law_720.2 rfl
noncomputable def dL_law_721 := zr_dL_law_721.1
noncomputable def zr_dL_law_722 := zo_42 (q := 723) zr_dL_law_721.2 rfl
noncomputable def dL_law_722 := zr_dL_law_722.1
noncomputable def zr_dL_law_723 := zo_29 (q := 724) zr_dL_law_722.2 rfl
noncomputable def dL_law_723 := zr_dL_law_723.1
noncomputable def zr_dL_law_724 := zo_4 (q := 725) zr_dL_law_723.2 rfl
noncomputable def dL_law_724 := zr_dL_law_724.1
noncomputable def zr_dL_law_725 := zo_96 (q := 726) zr_dL_law_724.2 rfl
noncomputable def dL_law_725 := zr_dL_law_725.1
noncomputable def zr_dL_law_726 := zo_46 (q := 727) zr_dL_law_725.2 rfl
noncomputable def dL_law_726 := zr_dL_law_726.1
noncomputable def zr_dL_law_727 := zo_42 (q := 728) zr_dL_law_726.2 rfl
noncomputable def dL_law_727 := zr_dL_law_727.1
noncomputable def zr_dL_law_728 := zo_29 (q := 729) zr_dL_law_727.2 rfl
noncomputable def dL_law_728 := zr_dL_law_728.1
noncomputable def zr_dL_law_729 := zo_5 (q := 730) zr_dL_law_728.2 rfl
noncomputable def dL_law_729 := zr_dL_law_729.1
noncomputable def zr_dL_law_730 := zo_96 (q := 731) zr_dL_law_729.2 rfl
noncomputable def dL_law_730 := zr_dL_law_730.1
noncomputable def zr_dL_law_731 := zo_46 (q := 732) zr_dL_law_730.2 rfl
noncomputable def dL_law_731 := zr_dL_law_731.1
noncomputable def zr_dL_law_732 := zo_182 (k := 78)  (q := 735) zr_dL_law_731.2 rfl rfl
noncomputable def dL_law_732 := zr_dL_law_732.1
noncomputable def zr_dL_law_735 := zo_87 (q := 736) zr_dL_law_732.2 rfl
noncomputable def dL_law_735 := zr_dL_law_735.1
noncomputable def zr_dL_law_736 := zo_167 (k := 878)  (q := 739) zr_dL_law_735.2 (by decide +kernel) rfl
noncomputable def dL_law_736 := zr_dL_law_736.1
noncomputable def zr_dL_law_739 := zo_43 (q := 740) zr_dL_law_736.2 rfl
noncomputable def dL_law_739 := zr_dL_law_739.1
noncomputable def zr_dL_law_740 := zo_42 (q := 741) zr_dL_law_739.2 rfl
noncomputable def dL_law_740 := zr_dL_law_740.1
noncomputable def zr_dL_law_741 := zo_29 (q := 742) zr_dL_law_740.2 rfl
noncomputable def dL_law_741 := zr_dL_law_741.1
noncomputable def zr_dL_law_742 := zo_4 (q := 743) zr_dL_law_741.2 rfl
noncomputable def dL_law_742 := zr_dL_law_742.1
noncomputable def zr_dL_law_743 := zo_96 (q := 744) zr_dL_law_742.2 rfl
noncomputable def dL_law_743 := zr_dL_law_743.1
noncomputable def zr_dL_law_744 := zo_46 (q := 745) zr_dL_law_743.2 rfl
noncomputable def dL_law_744 := zr_dL_law_744.1
noncomputable def zr_dL_law_745 := zo_42 (q := 746) zr_dL_law_744.2 rfl
noncomputable def dL_law_745 := zr_dL_law_745.1
noncomputable def zr_dL_law_746 := zo_29 (q := 747) zr_dL_law_745.2 rfl
noncomputable def dL_law_746 := zr_dL_law_746.1
noncomputable def zr_dL_law_747 := zo_5 (q := 748) zr_dL_law_746.2 rfl
noncomputable def dL_law_747 := zr_dL_law_747.1
noncomputable def zr_dL_law_748 := zo_96 (q := 749) zr_dL_law_747.2 rfl
noncomputable def dL_law_748 := zr_dL_law_748.1
noncomputable def zr_dL_law_749 := zo_46 (q := 750) zr_dL_law_748.2 rfl
noncomputable def dL_law_749 := zr_dL_law_749.1
noncomputable def zr_dL_law_750 := zo_42 (q := 751) zr_dL_law_749.2 rfl
noncomputable def dL_law_750 := zr_dL_law_750.1
noncomputable def zr_dL_law_751 := zo_29 (q := 752) zr_dL_law_750.2 rfl
noncomputable def dL_law_751 := zr_dL_law_751.1
noncomputable def zr_dL_law_752 := zo_6 (q := 753) zr_dL_law_751.2 rfl
noncomputable def dL_law_752 := zr_dL_law_752.1
noncomputable def zr_dL_law_753 := zo_96 (q := 754) zr_dL_law_752.2 rfl
noncomputable def dL_law_753 := zr_dL_law_753.1
noncomputable def zr_dL_law_754 := zo_46 (q := 755) zr_dL_law_753.2 rfl
noncomputable def dL_law_754 := zr_dL_law_754.1
noncomputable def zr_dL_law_755 := zo_182 (k := 79)  (q := 758) zr_dL_law_754.2 rfl rfl
noncomputable def dL_law_755 := zr_dL_law_755.1
noncomputable def zr_dL_law_758 := zo_87 (q := 759) zr_dL_law_755.2 rfl
noncomputable def dL_law_758 := zr_dL_law_758.1
noncomputable def zr_dL_law_759 := zo_44 (q := 760) zr_dL_law_758.2 rfl
noncomputable def dL_law_759 := zr_dL_law_759.1
noncomputable def zr_dL_law_760 := zo_42 (q := 761) zr_dL_law_759.2 rfl
noncomputable def dL_law_760 := zr_dL_law_760.1
noncomputable def zr_dL_law_761 := zo_29 (q := 762) zr_dL_law_760.2 rfl
noncomputable def dL_law_761 := zr_dL_law_761.1
noncomputable def zr_dL_law_762 := zo_4 (q := 763) zr_dL_law_761.2 rfl
noncomputable def dL_law_762 := zr_dL_law_762.1
noncomputable def zr_dL_law_763 := zo_96 (q := 764) zr_dL_law_762.2 rfl
noncomputable def dL_law_763 := zr_dL_law_763.1
noncomputable def zr_dL_law_764 := zo_46 (q := 765) zr_dL_law_763.2 rfl
noncomputable def dL_law_764 := zr_dL_law_764.1
noncomputable def zr_dL_law_765 := zo_42 (q := 766) zr_dL_law_764.2 rfl
noncomputable def dL_law_765 := zr_dL_law_765.1
noncomputable def zr_dL_law_766 := zo_29 (q := 767) zr_dL_law_765.2 rfl
noncomputable def dL_law_766 := zr_dL_law_766.1
noncomputable def zr_dL_law_767 := zo_5 (q := 768) zr_dL_law_766.2 rfl
noncomputable def dL_law_767 := zr_dL_law_767.1
noncomputable def zr_dL_law_768 := zo_96 (q := 769) zr_dL_law_767.2 rfl
noncomputable def dL_law_768 := zr_dL_law_768.1
noncomputable def zr_dL_law_769 := zo_46 (q := 770) zr_dL_law_768.2 rfl
noncomputable def dL_law_769 := zr_dL_law_769.1
noncomputable def zr_dL_law_770 := zo_42 (q := 771) zr_dL_law_769.2 rfl
noncomputable def dL_law_770 := zr_dL_law_770.1
noncomputable def zr_dL_law_771 := zo_29 (q := 772) zr_dL_law_770.2 rfl
noncomputable def dL_law_771 := zr_dL_law_771.1
noncomputable def zr_dL_law_772 := zo_6 (q := 773) zr_dL_law_771.2 rfl
noncomputable def dL_law_772 := zr_dL_law_772.1
noncomputable def zr_dL_law_773 := zo_96 (q := 774) zr_dL_law_772.2 rfl
noncomputable def dL_law_773 := zr_dL_law_773.1
noncomputable def zr_dL_law_774 := zo_46 (q := 775) zr_dL_law_773.2 rfl
noncomputable def dL_law_774 := zr_dL_law_774.1
noncomputable def zr_dL_law_775 := zo_182 (k := 82)  (q := 778) zr_dL_law_774.2 rfl rfl
noncomputable def dL_law_775 := zr_dL_law_775.1
noncomputable def zr_dL_law_778 := zo_87 (q := 779) zr_dL_law_775.2 rfl
noncomputable def dL_law_778 := zr_dL_law_778.1
noncomputable def zr_dL_law_779 := zo_167 (k := 835)  (q := 782) zr_dL_law_778.2 (by decide +kernel) rfl
noncomputable def dL_law_779 := zr_dL_law_779.1
noncomputable def zr_dL_law_782 := zo_43 (q := 783) zr_dL_law_779.2 rfl
noncomputable def dL_law_782 := zr_dL_law_782.1
noncomputable def zr_dL_law_783 := zo_42 (q := 784) zr_dL_law_782.2 rfl
noncomputable def dL_law_783 := zr_dL_law_783.1
noncomputable def zr_dL_law_784 := zo_29 (q := 785) zr_dL_law_783.2 rfl
noncomputable def dL_law_784 := zr_dL_law_784.1
noncomputable def zr_dL_law_785 := zo_4 (q := 786) zr_dL_law_784.2 rfl
noncomputable def dL_law_785 := zr_dL_law_785.1
noncomputable def zr_dL_law_786 := zo_96 (q := 787) zr_dL_law_785.2 rfl
noncomputable def dL_law_786 := zr_dL_law_786.1
noncomputable def zr_dL_law_787 := zo_46 (q := 788) zr_dL_law_786.2 rfl
noncomputable def dL_law_787 := zr_dL_law_787.1
noncomputable def zr_dL_law_788 := zo_42 (q := 789) zr_dL_law_787.2 rfl
noncomputable def dL_law_788 := zr_dL_law_788.1
noncomputable def zr_dL_law_789 := zo_29 (q := 790) zr_dL_law_788.2 rfl
noncomputable def dL_law_789 := zr_dL_law_789.1
noncomputable def zr_dL_law_790 := zo_5 (q := 791) zr_dL_law_789.2 rfl
noncomputable def dL_law_790 := zr_dL_law_790.1
noncomputable def zr_dL_law_791 := zo_96 (q := 792) zr_dL_law_790.2 rfl
noncomputable def dL_law_791 := zr_dL_law_791.1
noncomputable def zr_dL_law_792 := zo_46 (q := 793) zr_dL_law_791.2 rfl
noncomputable def dL_law_792 := zr_dL_law_792.1
noncomputable def zr_dL_law_793 := zo_182 (k := 83)  (q := 796) zr_dL_law_792.2 rfl rfl
noncomputable def dL_law_793 := zr_dL_law_793.1
noncomputable def zr_dL_law_796 := zo_87 (q := 797) zr_dL_law_793.2 rfl
noncomputable def dL_law_796 := zr_dL_law_796.1
noncomputable def zr_dL_law_797 := zo_44 (q := 798) zr_dL_law_796.2 rfl
noncomputable def dL_law_797 := zr_dL_law_797.1
noncomputable def zr_dL_law_798 := zo_42 (q := 799) zr_dL_law_797.2 rfl
noncomputable def dL_law_798 := zr_dL_law_798.1
noncomputable def zr_dL_law_799 := zo_29 (q := 800) zr_dL_law_798.2 rfl
noncomputable def dL_law_799 := zr_dL_law_799.1
noncomputable def zr_dL_law_800 := zo_4 (q := 801) zr_dL_law_799.2 rfl
noncomputable def dL_law_800 := zr_dL_law_800.1
noncomputable def zr_dL_law_801 := zo_96 (q := 802) zr_dL_law_800.2 rfl
noncomputable def dL_law_801 := zr_dL_law_801.1
noncomputable def zr_dL_law_802 := zo_46 (q := 803) zr_dL_law_801.2 rfl
noncomputable def dL_law_802 := zr_dL_law_802.1
noncomputable def zr_dL_law_803 := zo_42 (q := 804) zr_dL_law_802.2 rfl
noncomputable def dL_law_803 := zr_dL_law_803.1
noncomputable def zr_dL_law_804 := zo_29 (q := 805) zr_dL_law_803.2 rfl
noncomputable def dL_law_804 := zr_dL_law_804.1
noncomputable def zr_dL_law_805 := zo_5 (q := 806) zr_dL_law_804.2 rfl
noncomputable def dL_law_805 := zr_dL_law_805.1
noncomputable def zr_dL_law_806 := zo_96 (q := 807) zr_dL_law_805.2 rfl
noncomputable def dL_law_806 := zr_dL_law_806.1
noncomputable def zr_dL_law_807 := zo_46 (q := 808) zr_dL_law_806.2 rfl
noncomputable def dL_law_807 := zr_dL_law_807.1
noncomputable def zr_dL_law_808 := zo_182 (k := 86)  (q := 811) zr_dL_law_807.2 rfl rfl
noncomputable def dL_law_808 := zr_dL_law_808.1
noncomputable def zr_dL_law_811 := zo_87 (q := 812) zr_dL_law_808.2 rfl
noncomputable def dL_law_811 := zr_dL_law_811.1
noncomputable def zr_dL_law_812 := zo_167 (k := 802)  (q := 815) zr_dL_law_811.2 (by decide +kernel) rfl
noncomputable def dL_law_812 := zr_dL_law_812.1
noncomputable def zr_dL_law_815 := zo_43 (q := 816) zr_dL_law_812.2 rfl
noncomputable def dL_law_815 := zr_dL_law_815.1
noncomputable def zr_dL_law_816 := zo_42 (q := 817) zr_dL_law_815.2 rfl
noncomputable def dL_law_816 := zr_dL_law_816.1
noncomputable def zr_dL_law_817 := zo_29 (q := 818) zr_dL_law_816.2 rfl
noncomputable def dL_law_817 := zr_dL_law_817.1
noncomputable def zr_dL_law_818 := zo_4 (q := 819) zr_dL_law_817.2 rfl
noncomputable def dL_law_818 := zr_dL_law_818.1
noncomputable def zr_dL_law_819 := zo_96 (q := 820) zr_dL_law_818.2 rfl
noncomputable def dL_law_819 := zr_dL_law_819.1
noncomputable def zr_dL_law_820 := zo_46 (q := 821) zr_dL_law_819.2 rfl
noncomputable def dL_law_820 := zr_dL_law_820.1
noncomputable def zr_dL_law_821 := zo_42 (q := 822) zr_dL_law_820.2 rfl
noncomputable def dL_law_821 := zr_dL_law_821.1
noncomputable def zr_dL_law_822 := zo_29 (q := 823) zr_dL_law_821.2 rfl
noncomputable def dL_law_822 := zr_dL_law_822.1
noncomputable def zr_dL_law_823 := zo_5 (q := 824) zr_dL_law_822.2 rfl
noncomputable def dL_law_823 := zr_dL_law_823.1
noncomputable def zr_dL_law_824 := zo_96 (q := 825) zr_dL_law_823.2 rfl
noncomputable def dL_law_824 := zr_dL_law_824.1
noncomputable def zr_dL_law_825 := zo_46 (q := 826) zr_dL_law_824.2 rfl
noncomputable def dL_law_825 := zr_dL_law_825.1
noncomputable def zr_dL_law_826 := zo_42 (q := 827) zr_dL_law_825.2 rfl
noncomputable def dL_law_826 := zr_dL_law_826.1
noncomputable def zr_dL_law_827 := zo_29 (q := 828) zr_dL_law_826.2 rfl
noncomputable def dL_law_827 := zr_dL_law_827.1
noncomputable def zr_dL_law_828 := zo_6 (q := 829) zr_dL_law_827.2 rfl
noncomputable def dL_law_828 := zr_dL_law_828.1
noncomputable def zr_dL_law_829 := zo_96 (q := 830) zr_dL_law_828.2 rfl
noncomputable def dL_law_829 := zr_dL_law_829.1
noncomputable def zr_dL_law_830 := zo_46 (q := 831) zr_dL_law_829.2 rfl
noncomputable def dL_law_830 := zr_dL_law_830.1
noncomputable def zr_dL_law_831 := zo_182 (k := 87)  (q := 834) zr_dL_law_830.2 rfl rfl
noncomputable def dL_law_831 := zr_dL_law_831.1
noncomputable def zr_dL_law_834 := zo_87 (q := 835) zr_dL_law_831.2 rfl
noncomputable def dL_law_834 := zr_dL_law_834.1
noncomputable def zr_dL_law_835 := zo_44 (q := 836) zr_dL_law_834.2 rfl
noncomputable def dL_law_835 := zr_dL_law_835.1
noncomputable def zr_dL_law_836 := zo_42 (q := 837) zr_dL_law_835.2 rfl
noncomputable def dL_law_836 := zr_dL_law_836.1
noncomputable def zr_dL_law_837 := zo_29 (q := 838) zr_dL_law_836.2 rfl
noncomputable def dL_law_837 := zr_dL_law_837.1
noncomputable def zr_dL_law_838 := zo_4 (q := 839) zr_dL_law_837.2 rfl
noncomputable def dL_law_838 := zr_dL_law_838.1
noncomputable def zr_dL_law_839 := zo_96 (q := 840) zr_dL_law_838.2 rfl
noncomputable def dL_law_839 := zr_dL_law_839.1
noncomputable def zr_dL_law_840 := zo_46 (q := 841) zr_dL_law_839.2 rfl
noncomputable def dL_law_840 := zr_dL_law_840.1
noncomputable def zr_dL_law_841 := zo_42 (q := 842) zr_dL_law_840.2 rfl
noncomputable def dL_law_841 := zr_dL_law_841.1
noncomputable def zr_dL_law_842 := zo_29 (q := 843) zr_dL_law_841.2 rfl
noncomputable def dL_law_842 := zr_dL_law_842.1
noncomputable def zr_dL_law_843 := zo_5 (q := 844) zr_dL_law_842.2 rfl
noncomputable def dL_law_843 := zr_dL_law_843.1
noncomputable def zr_dL_law_844 := zo_96 (q := 845) zr_dL_law_843.2 rfl
noncomputable def dL_law_844 := zr_dL_law_844.1
noncomputable def zr_dL_law_845 := zo_46 (q := 846) zr_dL_law_844.2 rfl
noncomputable def dL_law_845 := zr_dL_law_845.1
noncomputable def zr_dL_law_846 := zo_42 (q := 847) zr_dL_law_845.2 rfl
noncomputable def dL_law_846 := zr_dL_law_846.1
noncomputable def zr_dL_law_847 := zo_29 (q := 848) zr_dL_law_846.2 rfl
noncomputable def dL_law_847 := zr_dL_law_847.1
noncomputable def zr_dL_law_848 := zo_6 (q := 849) zr_dL_law_847.2 rfl
noncomputable def dL_law_848 := zr_dL_law_848.1
noncomputable def zr_dL_law_849 := zo_96 (q := 850) zr_dL_law_848.2 rfl
noncomputable def dL_law_849 := zr_dL_law_849.1
noncomputable def zr_dL_law_850 := zo_46 (q := 851) zr_dL_law_849.2 rfl
noncomputable def dL_law_850 := zr_dL_law_850.1
noncomputable def zr_dL_law_851 := zo_182 (k := 90)  (q := 854) zr_dL_law_850.2 rfl rfl
noncomputable def dL_law_851 := zr_dL_law_851.1
noncomputable def zr_dL_law_854 := zo_87 (q := 855) zr_dL_law_851.2 rfl
noncomputable def dL_law_854 := zr_dL_law_854.1
noncomputable def zr_dL_law_855 := zo_167 (k := 759)  (q := 858) zr_dL_law_854.2 (by decide +kernel) rfl
noncomputable def dL_law_855 := zr_dL_law_855.1
noncomputable def zr_dL_law_858 := zo_43 (q := 859) zr_dL_law_855.2 rfl
noncomputable def dL_law_858 := zr_dL_law_858.1
noncomputable def zr_dL_law_859 := zo_42 (q := 860) zr_dL_law_858.2 rfl
noncomputable def dL_law_859 := zr_dL_law_859.1
noncomputable def zr_dL_law_860 := zo_29 (q := 861) zr_dL_law_859.2 rfl
noncomputable def dL_law_860 := zr_dL_law_860.1
noncomputable def zr_dL_law_861 := zo_4 (q := 862) zr_dL_law_860.2 rfl
noncomputable def dL_law_861 := zr_dL_law_861.1
noncomputable def zr_dL_law_862 := zo_96 (q := 863) zr_dL_law_861.2 rfl
noncomputable def dL_law_862 := zr_dL_law_862.1
noncomputable def zr_dL_law_863 := zo_46 (q := 864) zr_dL_law_862.2 rfl
noncomputable def dL_law_863 := zr_dL_law_863.1
noncomputable def zr_dL_law_864 := zo_42 (q := 865) zr_dL_law_863.2 rfl
noncomputable def dL_law_864 := zr_dL_law_864.1
noncomputable def zr_dL_law_865 := zo_29 (q := 866) zr_dL_law_864.2 rfl
noncomputable def dL_law_865 := zr_dL_law_865.1
noncomputable def zr_dL_law_866 := zo_5 (q := 867) zr_dL_law_865.2 rfl
noncomputable def dL_law_866 := zr_dL_law_866.1
noncomputable def zr_dL_law_867 := zo_96 (q := 868) zr_dL_law_866.2 rfl
noncomputable def dL_law_867 := zr_dL_law_867.1
noncomputable def zr_dL_law_868 := zo_46 (q := 869) zr_dL_law_867.2 rfl
noncomputable def dL_law_868 := zr_dL_law_868.1
noncomputable def zr_dL_law_869 := zo_42 (q := 870) zr_dL_law_868.2 rfl
noncomputable def dL_law_869 := zr_dL_law_869.1
noncomputable def zr_dL_law_870 := zo_29 (q := 871) zr_dL_law_869.2 rfl
noncomputable def dL_law_870 := zr_dL_law_870.1
noncomputable def zr_dL_law_871 := zo_6 (q := 872) zr_dL_law_870.2 rfl
noncomputable def dL_law_871 := zr_dL_law_871.1
noncomputable def zr_dL_law_872 := zo_96 (q := 873) zr_dL_law_871.2 rfl
noncomputable def dL_law_872 := zr_dL_law_872.1
noncomputable def zr_dL_law_873 := zo_46 (q := 874) zr_dL_law_872.2 rfl
noncomputable def dL_law_873 := zr_dL_law_873.1
noncomputable def zr_dL_law_874 := zo_182 (k := 91)  (q := 877) zr_dL_law_873.2 rfl rfl
noncomputable def dL_law_874 := zr_dL_law_874.1
noncomputable def zr_dL_law_877 := zo_87 (q := 878) zr_dL_law_874.2 rfl
noncomputable def dL_law_877 := zr_dL_law_877.1
noncomputable def zr_dL_law_878 := zo_44 (q := 879) zr_dL_law_877.2 rfl
noncomputable def dL_law_878 := zr_dL_law_878.1
noncomputable def zr_dL_law_879 := zo_42 (q := 880) zr_dL_law_878.2 rfl
noncomputable def dL_law_879 := zr_dL_law_879.1
noncomputable def zr_dL_law_880 := zo_29 (q := 881) zr_dL_law_879.2 rfl
noncomputable def dL_law_880 := zr_dL_law_880.1
noncomputable def zr_dL_law_881 := zo_4 (q := 882) zr_dL_law_880.2 rfl
noncomputable def dL_law_881 := zr_dL_law_881.1
noncomputable def zr_dL_law_882 := zo_96 (q := 883) zr_dL_law_881.2 rfl
noncomputable def dL_law_882 := zr_dL_law_882.1
noncomputable def zr_dL_law_883 := zo_46 (q := 884) zr_dL_law_882.2 rfl
noncomputable def dL_law_883 := zr_dL_law_883.1
noncomputable def zr_dL_law_884 := zo_42 (q := 885) zr_dL_law_883.2 rfl
noncomputable def dL_law_884 := zr_dL_law_884.1
noncomputable def zr_dL_law_885 := zo_29 (q := 886) zr_dL_law_884.2 rfl
noncomputable def dL_law_885 := zr_dL_law_885.1
noncomputable def zr_dL_law_886 := zo_5 (q := 887) zr_dL_law_885.2 rfl
noncomputable def dL_law_886 := zr_dL_law_886.1
noncomputable def zr_dL_law_887 := zo_96 (q := 888) zr_dL_law_886.2 rfl
noncomputable def dL_law_887 := zr_dL_law_887.1
noncomputable def zr_dL_law_888 := zo_46 (q := 889) zr_dL_law_887.2 rfl
noncomputable def dL_law_888 := zr_dL_law_888.1
noncomputable def zr_dL_law_889 := zo_42 (q := 890) zr_dL_law_888.2 rfl
noncomputable def dL_law_889 := zr_dL_law_889.1
noncomputable def zr_dL_law_890 := zo_29 (q := 891) zr_dL_law_889.2 rfl
noncomputable def dL_law_890 := zr_dL_law_890.1
noncomputable def zr_dL_law_891 := zo_6 (q := 892) zr_dL_law_890.2 rfl
noncomputable def dL_law_891 := zr_dL_law_891.1
noncomputable def zr_dL_law_892 := zo_96 (q := 893) zr_dL_law_891.2 rfl
noncomputable def dL_law_892 := zr_dL_law_892.1
noncomputable def zr_dL_law_893 := zo_46 (q := 894) zr_dL_law_892.2 rfl
noncomputable def dL_law_893 := zr_dL_law_893.1
noncomputable def zr_dL_law_894 := zo_182 (k := 94)  (q := 897) zr_dL_law_893.2 rfl rfl
noncomputable def dL_law_894 := zr_dL_law_894.1
noncomputable def zr_dL_law_897 := zo_87 (q := 898) zr_dL_law_894.2 rfl
noncomputable def dL_law_897 := zr_dL_law_897.1
noncomputable def zr_dL_law_898 := zo_167 (k := 716)  (q := 901) zr_dL_law_897.2 (by decide +kernel) rfl
noncomputable def dL_law_898 := zr_dL_law_898.1
noncomputable def zr_dL_law_901 := zo_43 (q := 902) zr_dL_law_898.2 rfl
noncomputable def dL_law_901 := zr_dL_law_901.1
noncomputable def zr_dL_law_902 := zo_42 (q := 903) zr_dL_law_901.2 rfl
noncomputable def dL_law_902 := zr_dL_law_902.1
noncomputable def zr_dL_law_903 := zo_29 (q := 904) zr_dL_law_902.2 rfl
noncomputable def dL_law_903 := zr_dL_law_903.1
noncomputable def zr_dL_law_904 := zo_4 (q := 905) zr_dL_law_903.2 rfl
noncomputable def dL_law_904 := zr_dL_law_904.1
noncomputable def zr_dL_law_905 := zo_96 (q := 906) zr_dL_law_904.2 rfl
noncomputable def dL_law_905 := zr_dL_law_905.1
noncomputable def zr_dL_law_906 := zo_46 (q := 907) zr_dL_law_905.2 rfl
noncomputable def dL_law_906 := zr_dL_law_906.1
noncomputable def zr_dL_law_907 := zo_42 (q := 908) zr_dL_law_906.2 rfl
noncomputable def dL_law_907 := zr_dL_law_907.1
noncomputable def zr_dL_law_908 := zo_29 (q := 909) zr_dL_law_907.2 rfl
noncomputable def dL_law_908 := zr_dL_law_908.1
noncomputable def zr_dL_law_909 := zo_5 (q := 910) zr_dL_law_908.2 rfl
noncomputable def dL_law_909 := zr_dL_law_909.1
noncomputable def zr_dL_law_910 := zo_96 (q := 911) zr_dL_law_909.2 rfl
noncomputable def dL_law_910 := zr_dL_law_910.1
noncomputable def zr_dL_law_911 := zo_46 (q := 912) zr_dL_law_910.2 rfl
noncomputable def dL_law_911 := zr_dL_law_911.1
noncomputable def zr_dL_law_912 := zo_42 (q := 913) zr_dL_law_911.2 rfl
noncomputable def dL_law_912 := zr_dL_law_912.1
noncomputable def zr_dL_law_913 := zo_29 (q := 914) zr_dL_law_912.2 rfl
noncomputable def dL_law_913 := zr_dL_law_913.1
noncomputable def zr_dL_law_914 := zo_6 (q := 915) zr_dL_law_913.2 rfl
noncomputable def dL_law_914 := zr_dL_law_914.1
noncomputable def zr_dL_law_915 := zo_96 (q := 916) zr_dL_law_914.2 rfl
noncomputable def dL_law_915 := zr_dL_law_915.1
noncomputable def zr_dL_law_916 := zo_46 (q := 917) zr_dL_law_915.2 rfl
noncomputable def dL_law_916 := zr_dL_law_916.1
noncomputable def zr_dL_law_917 := zo_182 (k := 95)  (q := 920) zr_dL_law_916.2 rfl rfl
noncomputable def dL_law_917 := zr_dL_law_917.1
noncomputable def zr_dL_law_920 := zo_87 (q := 921) zr_dL_law_917.2 rfl
noncomputable def dL_law_920 := zr_dL_law_920.1
noncomputable def zr_dL_law_921 := zo_44 (q := 922) zr_dL_law_920.2 rfl
noncomputable def dL_law_921 := zr_dL_law_921.1
noncomputable def zr_dL_law_922 := zo_42 (q := 923) zr_dL_law_921.2 rfl
noncomputable def dL_law_922 := zr_dL_law_922.1
noncomputable def zr_dL_law_923 := zo_29 (q := 924) zr_dL_law_922.2 rfl
noncomputable def dL_law_923 := zr_dL_law_923.1
noncomputable def zr_dL_law_924 := zo_4 (q := 925) zr_dL_law_923.2 rfl
noncomputable def dL_law_924 := zr_dL_law_924.1
noncomputable def zr_dL_law_925 := zo_96 (q := 926) zr_dL_law_924.2 rfl
noncomputable def dL_law_925 := zr_dL_law_925.1
noncomputable def zr_dL_law_926 := zo_46 (q := 927) zr_dL_law_925.2 rfl
noncomputable def dL_law_926 := zr_dL_law_926.1
noncomputable def zr_dL_law_927 := zo_42 (q := 928) zr_dL_law_926.2 rfl
noncomputable def dL_law_927 := zr_dL_law_927.1
noncomputable def zr_dL_law_928 := zo_29 (q := 929) zr_dL_law_927.2 rfl
noncomputable def dL_law_928 := zr_dL_law_928.1
noncomputable def zr_dL_law_929 := zo_5 (q := 930) zr_dL_law_928.2 rfl
noncomputable def dL_law_929 := zr_dL_law_929.1
noncomputable def zr_dL_law_930 := zo_96 (q := 931) zr_dL_law_929.2 rfl
noncomputable def dL_law_930 := zr_dL_law_930.1
noncomputable def zr_dL_law_931 := zo_46 (q := 932) zr_dL_law_930.2 rfl
noncomputable def dL_law_931 := zr_dL_law_931.1
noncomputable def zr_dL_law_932 := zo_42 (q := 933) zr_dL_law_931.2 rfl
noncomputable def dL_law_932 := zr_dL_law_932.1
noncomputable def zr_dL_law_933 := zo_29 (q := 934) zr_dL_law_932.2 rfl
noncomputable def dL_law_933 := zr_dL_law_933.1
noncomputable def zr_dL_law_934 := zo_6 (q := 935) zr_dL_law_933.2 rfl
noncomputable def dL_law_934 := zr_dL_law_934.1
noncomputable def zr_dL_law_935 := zo_96 (q := 936) zr_dL_law_934.2 rfl
noncomputable def dL_law_935 := zr_dL_law_935.1
noncomputable def zr_dL_law_936 := zo_46 (q := 937) zr_dL_law_935.2 rfl
noncomputable def dL_law_936 := zr_dL_law_936.1
noncomputable def zr_dL_law_937 := zo_182 (k := 98)  (q := 940) zr_dL_law_936.2 rfl rfl
noncomputable def dL_law_937 := zr_dL_law_937.1
noncomputable def zr_dL_law_940 := zo_87 (q := 941) zr_dL_law_937.2 rfl
noncomputable def dL_law_940 := zr_dL_law_940.1
noncomputable def zr_dL_law_941 := zo_167 (k := 673)  (q := 944) zr_dL_law_940.2 (by decide +kernel) rfl
noncomputable def dL_law_941 := zr_dL_law_941.1
noncomputable def zr_dL_law_944 := zo_43 (q := 945) zr_dL_law_941.2 rfl
noncomputable def dL_law_944 := zr_dL_law_944.1
noncomputable def zr_dL_law_945 := zo_42 (q := 946) zr_dL_law_944.2 rfl
noncomputable def dL_law_945 := zr_dL_law_945.1
noncomputable def zr_dL_law_946 := zo_29 (q := 947) zr_dL_law_945.2 rfl
noncomputable def dL_law_946 := zr_dL_law_946.1
noncomputable def zr_dL_law_947 := zo_4 (q := 948) zr_dL_law_946.2 rfl
noncomputable def dL_law_947 := zr_dL_law_947.1
noncomputable def zr_dL_law_948 := zo_96 (q := 949) zr_dL_law_947.2 rfl
noncomputable def dL_law_948 := zr_dL_law_948.1
noncomputable def zr_dL_law_949 := zo_46 (q := 950) zr_dL_law_948.2 rfl
noncomputable def dL_law_949 := zr_dL_law_949.1
noncomputable def zr_dL_law_950 := zo_42 (q := 951) zr_dL_law_949.2 rfl
noncomputable def dL_law_950 := zr_dL_law_950.1
noncomputable def zr_dL_law_951 := zo_29 (q := 952) zr_dL_law_950.2 rfl
noncomputable def dL_law_951 := zr_dL_law_951.1
noncomputable def zr_dL_law_952 := zo_5 (q := 953) zr_dL_law_951.2 rfl
noncomputable def dL_law_952 := zr_dL_law_952.1
noncomputable def zr_dL_law_953 := zo_96 (q := 954) zr_dL_law_952.2 rfl
noncomputable def dL_law_953 := zr_dL_law_953.1
noncomputable def zr_dL_law_954 := zo_46 (q := 955) zr_dL_law_953.2 rfl
noncomputable def dL_law_954 := zr_dL_law_954.1
noncomputable def zr_dL_law_955 := zo_182 (k := 99)  (q := 958) zr_dL_law_954.2 rfl rfl
noncomputable def dL_law_955 := zr_dL_law_955.1
noncomputable def zr_dL_law_958 := zo_87 (q := 959) zr_dL_law_955.2 rfl
noncomputable def dL_law_958 := zr_dL_law_958.1
noncomputable def zr_dL_law_959 := zo_44 (q := 960) zr_dL_law_958.2 rfl
noncomputable def dL_law_959 := zr_dL_law_959.1
noncomputable def zr_dL_law_960 := zo_42 (q := 961) zr_dL_law_959.2 rfl
noncomputable def dL_law_960 := zr_dL_law_960.1
noncomputable def zr_dL_law_961 := zo_29 (q := 962) zr_dL_law_960.2 rfl
noncomputable def dL_law_961 := zr_dL_law_961.1
noncomputable def zr_dL_law_962 := zo_4 (q := 963) zr_dL_law_961.2 rfl
noncomputable def dL_law_962 := zr_dL_law_962.1
noncomputable def zr_dL_law_963 := zo_96 (q := 964) zr_dL_law_962.2 rfl
noncomputable def dL_law_963 := zr_dL_law_963.1
noncomputable def zr_dL_law_964 := zo_46 (q := 965) zr_dL_law_963.2 rfl
noncomputable def dL_law_964 := zr_dL_law_964.1
noncomputable def zr_dL_law_965 := zo_42 (q := 966) zr_dL_law_964.2 rfl
noncomputable def dL_law_965 := zr_dL_law_965.1
noncomputable def zr_dL_law_966 := zo_29 (q := 967) zr_dL_law_965.2 rfl
noncomputable def dL_law_966 := zr_dL_law_966.1
noncomputable def zr_dL_law_967 := zo_5 (q := 968) zr_dL_law_966.2 rfl
noncomputable def dL_law_967 := zr_dL_law_967.1
noncomputable def zr_dL_law_968 := zo_96 (q := 969) zr_dL_law_967.2 rfl
noncomputable def dL_law_968 := zr_dL_law_968.1
noncomputable def zr_dL_law_969 := zo_46 (q := 970) zr_dL_law_968.2 rfl
noncomputable def dL_law_969 := zr_dL_law_969.1
noncomputable def zr_dL_law_970 := zo_182 (k := 102)  (q := 973) zr_dL_law_969.2 rfl rfl
noncomputable def dL_law_970 := zr_dL_law_970.1
noncomputable def zr_dL_law_973 := zo_87 (q := 974) zr_dL_law_970.2 rfl
noncomputable def dL_law_973 := zr_dL_law_973.1
noncomputable def zr_dL_law_974 := zo_167 (k := 640)  (q := 977) zr_dL_law_973.2 (by decide +kernel) rfl
noncomputable def dL_law_974 := zr_dL_law_974.1
noncomputable def zr_dL_law_977 := zo_43 (q := 978) zr_dL_law_974.2 rfl
noncomputable def dL_law_977 := zr_dL_law_977.1
noncomputable def zr_dL_law_978 := zo_42 (q := 979) zr_dL_law_977.2 rfl
noncomputable def dL_law_978 := zr_dL_law_978.1
noncomputable def zr_dL_law_979 := zo_29 (q := 980) zr_dL_law_978.2 rfl
noncomputable def dL_law_979 := zr_dL_law_979.1
noncomputable def zr_dL_law_980 := zo_4 (q := 981) zr_dL_law_979.2 rfl
noncomputable def dL_law_980 := zr_dL_law_980.1
noncomputable def zr_dL_law_981 := zo_96 (q := 982) zr_dL_law_980.2 rfl
noncomputable def dL_law_981 := zr_dL_law_981.1
noncomputable def zr_dL_law_982 := zo_46 (q := 983) zr_dL_law_981.2 rfl
noncomputable def dL_law_982 := zr_dL_law_982.1
noncomputable def zr_dL_law_983 := zo_42 (q := 984) zr_dL_law_982.2 rfl
noncomputable def dL_law_983 := zr_dL_law_983.1
noncomputable def zr_dL_law_984 := zo_29 (q := 985) zr_dL_law_983.2 rfl
noncomputable def dL_law_984 := zr_dL_law_984.1
noncomputable def zr_dL_law_985 := zo_5 (q := 986) zr_dL_law_984.2 rfl
noncomputable def dL_law_985 := zr_dL_law_985.1
noncomputable def zr_dL_law_986 := zo_96 (q := 987) zr_dL_law_985.2 rfl
noncomputable def dL_law_986 := zr_dL_law_986.1
noncomputable def zr_dL_law_987 := zo_46 (q := 988) zr_dL_law_986.2 rfl
noncomputable def dL_law_987 := zr_dL_law_987.1
noncomputable def zr_dL_law_988 := zo_42 (q := 989) zr_dL_law_987.2 rfl
noncomputable def dL_law_988 := zr_dL_law_988.1
noncomputable def zr_dL_law_989 := zo_29 (q := 990) zr_dL_law_988.2 rfl
noncomputable def dL_law_989 := zr_dL_law_989.1
noncomputable def zr_dL_law_990 := zo_6 (q := 991) zr_dL_law_989.2 rfl
noncomputable def dL_law_990 := zr_dL_law_990.1
noncomputable def zr_dL_law_991 := zo_96 (q := 992) zr_dL_law_990.2 rfl
noncomputable def dL_law_991 := zr_dL_law_991.1
noncomputable def zr_dL_law_992 := zo_46 (q := 993) zr_dL_law_991.2 rfl
noncomputable def dL_law_992 := zr_dL_law_992.1
noncomputable def zr_dL_law_993 := zo_42 (q := 994) zr_dL_law_992.2 rfl
noncomputable def dL_law_993 := zr_dL_law_993.1
noncomputable def zr_dL_law_994 := zo_29 (q := 995) zr_dL_law_993.2 rfl
noncomputable def dL_law_994 := zr_dL_law_994.1
noncomputable def zr_dL_law_995 := zo_7 (q := 996) zr_dL_law_994.2 rfl
noncomputable def dL_law_995 := zr_dL_law_995.1
noncomputable def zr_dL_law_996 := zo_96 (q := 997) zr_dL_law_995.2 rfl
noncomputable def dL_law_996 := zr_dL_law_996.1
noncomputable def zr_dL_law_997 := zo_46 (q := 998) zr_dL_law_996.2 rfl
noncomputable def dL_law_997 := zr_dL_law_997.1
noncomputable def zr_dL_law_998 := zo_182 (k := 103)  (q := 1001) zr_dL_law_997.2 rfl rfl
noncomputable def dL_law_998 := zr_dL_law_998.1
noncomputable def zr_dL_law_1001 := zo_87 (q := 1002) zr_dL_law_998.2 rfl
noncomputable def dL_law_1001 := zr_dL_law_1001.1
noncomputable def zr_dL_law_1002 := zo_44 (q := 1003) zr_dL_law_1001.2 rfl
noncomputable def dL_law_1002 := zr_dL_law_1002.1
noncomputable def zr_dL_law_1003 := zo_42 (q := 1004) zr_dL_law_1002.2 rfl
noncomputable def dL_law_1003 := zr_dL_law_1003.1
noncomputable def zr_dL_law_1004 := zo_29 (q := 1005) zr_dL_law_1003.2 rfl
noncomputable def dL_law_1004 := zr_dL_law_1004.1
noncomputable def zr_dL_law_1005 := zo_4 (q := 1006) zr_dL_law_1004.2 rfl
noncomputable def dL_law_1005 := zr_dL_law_1005.1
noncomputable def zr_dL_law_1006 := zo_96 (q := 1007) zr_dL_law_1005.2 rfl
noncomputable def dL_law_1006 := zr_dL_law_1006.1
noncomputable def zr_dL_law_1007 := zo_46 (q := 1008) zr_dL_law_1006.2 rfl
noncomputable def dL_law_1007 := zr_dL_law_1007.1
noncomputable def zr_dL_law_1008 := zo_42 (q := 1009) zr_dL_law_1007.2 rfl
noncomputable def dL_law_1008 := zr_dL_law_1008.1
noncomputable def zr_dL_law_1009 := zo_29 (q := 1010) zr_dL_law_1008.2 rfl
noncomputable def dL_law_1009 := zr_dL_law_1009.1
noncomputable def zr_dL_law_1010 := zo_5 (q := 1011) zr_dL_law_1009.2 rfl
noncomputable def dL_law_1010 := zr_dL_law_1010.1
noncomputable def zr_dL_law_1011 := zo_96 (q := 1012) zr_dL_law_1010.2 rfl
noncomputable def dL_law_1011 := zr_dL_law_1011.1
noncomputable def zr_dL_law_1012 := zo_46 (q := 1013) zr_dL_law_1011.2 rfl
noncomputable def dL_law_1012 := zr_dL_law_1012.1
noncomputable def zr_dL_law_1013 := zo_42 (q := 1014) zr_dL_law_1012.2 rfl
noncomputable def dL_law_1013 := zr_dL_law_1013.1
noncomputable def zr_dL_law_1014 := zo_29 (q := 1015) zr_dL_law_1013.2 rfl
noncomputable def dL_law_1014 := zr_dL_law_1014.1
noncomputable def zr_dL_law_1015 := zo_6 (q := 1016) zr_dL_law_1014.2 rfl
noncomputable def dL_law_1015 := zr_dL_law_1015.1
noncomputable def zr_dL_law_1016 := zo_96 (q := 1017) zr_dL_law_1015.2 rfl
noncomputable def dL_law_1016 := zr_dL_law_1016.1
noncomputable def zr_dL_law_1017 := zo_46 (q := 1018) zr_dL_law_1016.2 rfl
noncomputable def dL_law_1017 := zr_dL_law_1017.1
noncomputable def zr_dL_law_1018 := zo_42 (q := 1019) zr_dL_law_1017.2 rfl
noncomputable def dL_law_1018 := zr_dL_law_1018.1
noncomputable def zr_dL_law_1019 := zo_29 (q := 1020) zr_dL_law_1018.2 rfl
noncomputable def dL_law_1019 := zr_dL_law_1019.1
noncomputable def zr_dL_law_1020 := zo_7 (q := 1021) zr_dL_law_1019.2 rfl
noncomputable def dL_law_1020 := zr_dL_law_1020.1
noncomputable def zr_dL_law_1021 := zo_96 (q := 1022) zr_dL_law_1020.2 rfl
noncomputable def dL_law_1021 := zr_dL_law_1021.1
noncomputable def zr_dL_law_1022 := zo_46 (q := 1023) zr_dL_law_1021.2 rfl
noncomputable def dL_law_1022 := zr_dL_law_1022.1
noncomputable def zr_dL_law_1023 := zo_182 (k := 106)  (q := 1026) zr_dL_law_1022.2 rfl rfl
noncomputable def dL_law_1023 := zr_dL_law_1023.1
noncomputable def zr_dL_law_1026 := zo_87 (q := 1027) zr_dL_law_1023.2 rfl
noncomputable def dL_law_1026 := zr_dL_law_1026.1
noncomputable def zr_dL_law_1027 := zo_167 (k := 587)  (q := 1030) zr_dL_law_1026.2 (by decide +kernel) rfl
noncomputable def dL_law_1027 := zr_dL_law_1027.1
noncomputable def zr_dL_law_1030 := zo_43 (q := 1031) zr_dL_law_1027.2 rfl
noncomputable def dL_law_1030 := zr_dL_law_1030.1
noncomputable def zr_dL_law_1031 := zo_42 (q := 1032) zr_dL_law_1030.2 rfl
noncomputable def dL_law_1031 := zr_dL_law_1031.1
noncomputable def zr_dL_law_1032 := zo_29 (q := 1033) zr_dL_law_1031.2 rfl
noncomputable def dL_law_1032 := zr_dL_law_1032.1
noncomputable def zr_dL_law_1033 := zo_4 (q := 1034) zr_dL_law_1032.2 rfl
noncomputable def dL_law_1033 := zr_dL_law_1033.1
noncomputable def zr_dL_law_1034 := zo_96 (q := 1035) zr_dL_law_1033.2 rfl
noncomputable def dL_law_1034 := zr_dL_law_1034.1
noncomputable def zr_dL_law_1035 := zo_46 (q := 1036) zr_dL_law_1034.2 rfl
noncomputable def dL_law_1035 := zr_dL_law_1035.1
noncomputable def zr_dL_law_1036 := zo_42 (q := 1037) zr_dL_law_1035.2 rfl
noncomputable def dL_law_1036 := zr_dL_law_1036.1
noncomputable def zr_dL_law_1037 := zo_29 (q := 1038) zr_dL_law_1036.2 rfl
noncomputable def dL_law_1037 := zr_dL_law_1037.1
noncomputable def zr_dL_law_1038 := zo_5 (q := 1039) zr_dL_law_1037.2 rfl
noncomputable def dL_law_1038 := zr_dL_law_1038.1
noncomputable def zr_dL_law_1039 := zo_96 (q := 1040) zr_dL_law_1038.2 rfl
noncomputable def dL_law_1039 := zr_dL_law_1039.1
noncomputable def zr_dL_law_1040 := zo_46 (q := 1041) zr_dL_law_1039.2 rfl
noncomputable def dL_law_1040 := zr_dL_law_1040.1
noncomputable def zr_dL_law_1041 := zo_182 (k := 107)  (q := 1044) zr_dL_law_1040.2 rfl rfl
noncomputable def dL_law_1041 := zr_dL_law_1041.1
noncomputable def zr_dL_law_1044 := zo_87 (q := 1045) zr_dL_law_1041.2 rfl
noncomputable def dL_law_1044 := zr_dL_law_1044.1
noncomputable def zr_dL_law_1045 := zo_44 (q := 1046) zr_dL_law_1044.2 rfl
noncomputable def dL_law_1045 := zr_dL_law_1045.1
noncomputable def zr_dL_law_1046 := zo_42 (q := 1047) zr_dL_law_1045.2 rfl
noncomputable def dL_law_1046 := zr_dL_law_1046.1
noncomputable def zr_dL_law_1047 := zo_29 (q := 1048) zr_dL_law_1046.2 rfl
noncomputable def dL_law_1047 := zr_dL_law_1047.1
noncomputable def zr_dL_law_1048 := zo_4 (q := 1049) zr_dL_law_1047.2 rfl
noncomputable def dL_law_1048 := zr_dL_law_1048.1
noncomputable def zr_dL_law_1049 := zo_96 (q := 1050) zr_dL_law_1048.2 rfl
noncomputable def dL_law_1049 := zr_dL_law_1049.1
noncomputable def zr_dL_law_1050 := zo_46 (q := 1051) zr_dL_law_1049.2 rfl
noncomputable def dL_law_1050 := zr_dL_law_1050.1
noncomputable def zr_dL_law_1051 := zo_42 (q := 1052) zr_dL_law_1050.2 rfl
noncomputable def dL_law_1051 := zr_dL_law_1051.1
noncomputable def zr_dL_law_1052 := zo_29 (q := 1053) zr_dL_law_1051.2 rfl
noncomputable def dL_law_1052 := zr_dL_law_1052.1
noncomputable def zr_dL_law_1053 := zo_5 (q := 1054) zr_dL_law_1052.2 rfl
noncomputable def dL_law_1053 := zr_dL_law_1053.1
noncomputable def zr_dL_law_1054 := zo_96 (q := 1055) zr_dL_law_1053.2 rfl
noncomputable def dL_law_1054 := zr_dL_law_1054.1
noncomputable def zr_dL_law_1055 := zo_46 (q := 1056) zr_dL_law_1054.2 rfl
noncomputable def dL_law_1055 := zr_dL_law_1055.1
noncomputable def zr_dL_law_1056 := zo_182 (k := 110)  (q := 1059) zr_dL_law_1055.2 rfl rfl
noncomputable def dL_law_1056 := zr_dL_law_1056.1
noncomputable def zr_dL_law_1059 := zo_87 (q := 1060) zr_dL_law_1056.2 rfl
noncomputable def dL_law_1059 := zr_dL_law_1059.1
noncomputable def zr_dL_law_1060 := zo_167 (k := 554)  (q := 1063) zr_dL_law_1059.2 (by decide +kernel) rfl
noncomputable def dL_law_1060 := zr_dL_law_1060.1
noncomputable def zr_dL_law_1063 := zo_43 (q := 1064) zr_dL_law_1060.2 rfl
noncomputable def dL_law_1063 := zr_dL_law_1063.1
noncomputable def zr_dL_law_1064 := zo_42 (q := 1065) zr_dL_law_1063.2 rfl
noncomputable def dL_law_1064 := zr_dL_law_1064.1
noncomputable def zr_dL_law_1065 := zo_29 (q := 1066) zr_dL_law_1064.2 rfl
noncomputable def dL_law_1065 := zr_dL_law_1065.1
noncomputable def zr_dL_law_1066 := zo_4 (q := 1067) zr_dL_law_1065.2 rfl
noncomputable def dL_law_1066 := zr_dL_law_1066.1
noncomputable def zr_dL_law_1067 := zo_96 (q := 1068) zr_dL_law_1066.2 rfl
noncomputable def dL_law_1067 := zr_dL_law_1067.1
noncomputable def zr_dL_law_1068 := zo_46 (q := 1069) zr_dL_law_1067.2 rfl
noncomputable def dL_law_1068 := zr_dL_law_1068.1
noncomputable def zr_dL_law_1069 := zo_42 (q := 1070) zr_dL_law_1068.2 rfl
noncomputable def dL_law_1069 := zr_dL_law_1069.1
noncomputable def zr_dL_law_1070 := zo_29 (q := 1071) zr_dL_law_1069.2 rfl
noncomputable def dL_law_1070 := zr_dL_law_1070.1
noncomputable def zr_dL_law_1071 := zo_5 (q := 1072) zr_dL_law_1070.2 rfl
noncomputable def dL_law_1071 := zr_dL_law_1071.1
noncomputable def zr_dL_law_1072 := zo_96 (q := 1073) zr_dL_law_1071.2 rfl
noncomputable def dL_law_1072 := zr_dL_law_1072.1
noncomputable def zr_dL_law_1073 := zo_46 (q := 1074) zr_dL_law_1072.2 rfl
noncomputable def dL_law_1073 := zr_dL_law_1073.1
noncomputable def zr_dL_law_1074 := zo_42 (q := 1075) zr_dL_law_1073.2 rfl
noncomputable def dL_law_1074 := zr_dL_law_1074.1
noncomputable def zr_dL_law_1075 := zo_29 (q := 1076) zr_dL_law_1074.2 rfl
noncomputable def dL_law_1075 := zr_dL_law_1075.1
noncomputable def zr_dL_law_1076 := zo_6 (q := 1077) zr_dL_law_1075.2 rfl
noncomputable def dL_law_1076 := zr_dL_law_1076.1
noncomputable def zr_dL_law_1077 := zo_96 (q := 1078) zr_dL_law_1076.2 rfl
noncomputable def dL_law_1077 := zr_dL_law_1077.1
noncomputable def zr_dL_law_1078 := zo_46 (q := 1079) zr_dL_law_1077.2 rfl
noncomputable def dL_law_1078 := zr_dL_law_1078.1
noncomputable def zr_dL_law_1079 := zo_42 (q := 1080) zr_dL_law_1078.2 rfl
noncomputable def dL_law_1079 := zr_dL_law_1079.1
noncomputable def zr_dL_law_1080 := zo_29 (q := 1081) zr_dL_law_1079.2 rfl
noncomputable def dL_law_1080 := zr_dL_law_1080.1
noncomputable def zr_dL_law_1081 := zo_7 (q := 1082) zr_dL_law_1080.2 rfl
noncomputable def dL_law_1081 := zr_dL_law_1081.1
noncomputable def zr_dL_law_1082 := zo_96 (q := 1083) zr_dL_law_1081.2 rfl
noncomputable def dL_law_1082 := zr_dL_law_1082.1
noncomputable def zr_dL_law_1083 := zo_46 (q := 1084) zr_dL_law_1082.2 rfl
noncomputable def dL_law_1083 := zr_dL_law_1083.1
noncomputable def zr_dL_law_1084 := zo_182 (k := 111)  (q := 1087) zr_dL_law_1083.2 rfl rfl
noncomputable def dL_law_1084 := zr_dL_law_1084.1
noncomputable def zr_dL_law_1087 := zo_87 (q := 1088) zr_dL_law_1084.2 rfl
noncomputable def dL_law_1087 := zr_dL_law_1087.1
noncomputable def zr_dL_law_1088 := zo_44 (q := 1089) zr_dL_law_1087.2 rfl
noncomputable def dL_law_1088 := zr_dL_law_1088.1
noncomputable def zr_dL_law_1089 := zo_42 (q := 1090) zr_dL_law_1088.2 rfl
noncomputable def dL_law_1089 := zr_dL_law_1089.1
noncomputable def zr_dL_law_1090 := zo_29 (q := 1091) zr_dL_law_1089.2 rfl
noncomputable def dL_law_1090 := zr_dL_law_1090.1
noncomputable def zr_dL_law_1091 := zo_4 (q := 1092) zr_dL_law_1090.2 rfl
noncomputable def dL_law_1091 := zr_dL_law_1091.1
noncomputable def zr_dL_law_1092 := zo_96 (q := 1093) zr_dL_law_1091.2 rfl
noncomputable def dL_law_1092 := zr_dL_law_1092.1
noncomputable def zr_dL_law_1093 := zo_46 (q := 1094) zr_dL_law_1092.2 rfl
noncomputable def dL_law_1093 := zr_dL_law_1093.1
noncomputable def zr_dL_law_1094 := zo_42 (q := 1095) zr_dL_law_1093.2 rfl
noncomputable def dL_law_1094 := zr_dL_law_1094.1
noncomputable def zr_dL_law_1095 := zo_29 (q := 1096) zr_dL_law_1094.2 rfl
noncomputable def dL_law_1095 := zr_dL_law_1095.1
noncomputable def zr_dL_law_1096 := zo_5 (q := 1097) zr_dL_law_1095.2 rfl
noncomputable def dL_law_1096 := zr_dL_law_1096.1
noncomputable def zr_dL_law_1097 := zo_96 (q := 1098) zr_dL_law_1096.2 rfl
noncomputable def dL_law_1097 := zr_dL_law_1097.1
noncomputable def zr_dL_law_1098 := zo_46 (q := 1099) zr_dL_law_1097.2 rfl
noncomputable def dL_law_1098 := zr_dL_law_1098.1
noncomputable def zr_dL_law_1099 := zo_42 (q := 1100) zr_dL_law_1098.2 rfl
noncomputable def dL_law_1099 := zr_dL_law_1099.1
noncomputable def zr_dL_law_1100 := zo_29 (q := 1101) zr_dL_law_1099.2 rfl
noncomputable def dL_law_1100 := zr_dL_law_1100.1
noncomputable def zr_dL_law_1101 := zo_6 (q := 1102) zr_dL_law_1100.2 rfl
noncomputable def dL_law_1101 := zr_dL_law_1101.1
noncomputable def zr_dL_law_1102 := zo_96 (q := 1103) zr_dL_law_1101.2 rfl
noncomputable def dL_law_1102 := zr_dL_law_1102.1
noncomputable def zr_dL_law_1103 := zo_46 (q := 1104) zr_dL_law_1102.2 rfl
noncomputable def dL_law_1103 := zr_dL_law_1103.1
noncomputable def zr_dL_law_1104 := zo_42 (q := 1105) zr_dL_law_1103.2 rfl
noncomputable def dL_law_1104 := zr_dL_law_1104.1
noncomputable def zr_dL_law_1105 := zo_29 (q := 1106) zr_dL_law_1104.2 rfl
noncomputable def dL_law_1105 := zr_dL_law_1105.1
noncomputable def zr_dL_law_1106 := zo_7 (q := 1107) zr_dL_law_1105.2 rfl
noncomputable def dL_law_1106 := zr_dL_law_1106.1
noncomputable def zr_dL_law_1107 := zo_96 (q := 1108) zr_dL_law_1106.2 rfl
noncomputable def dL_law_1107 := zr_dL_law_1107.1
noncomputable def zr_dL_law_1108 := zo_46 (q := 1109) zr_dL_law_1107.2 rfl
noncomputable def dL_law_1108 := zr_dL_law_1108.1
noncomputable def zr_dL_law_1109 := zo_182 (k := 114)  (q := 1112) zr_dL_law_1108.2 rfl rfl
noncomputable def dL_law_1109 := zr_dL_law_1109.1
noncomputable def zr_dL_law_1112 := zo_87 (q := 1113) zr_dL_law_1109.2 rfl
noncomputable def dL_law_1112 := zr_dL_law_1112.1
noncomputable def zr_dL_law_1113 := zo_167 (k := 501)  (q := 1116) zr_dL_law_1112.2 (by decide +kernel) rfl
noncomputable def dL_law_1113 := zr_dL_law_1113.1
noncomputable def zr_dL_law_1116 := zo_43 (q := 1117) zr_dL_law_1113.2 rfl
noncomputable def dL_law_1116 := zr_dL_law_1116.1
noncomputable def zr_dL_law_1117 := zo_42 (q := 1118) zr_dL_law_1116.2 rfl
noncomputable def dL_law_1117 := zr_dL_law_1117.1
noncomputable def zr_dL_law_1118 := zo_29 (q := 1119) zr_dL_law_1117.2 rfl
noncomputable def dL_law_1118 := zr_dL_law_1118.1
noncomputable def zr_dL_law_1119 := zo_4 (q := 1120) zr_dL_law_1118.2 rfl
noncomputable def dL_law_1119 := zr_dL_law_1119.1
noncomputable def zr_dL_law_1120 := zo_96 (q := 1121) zr_dL_law_1119.2 rfl
noncomputable def dL_law_1120 := zr_dL_law_1120.1
noncomputable def zr_dL_law_1121 := zo_46 (q := 1122) zr_dL_law_1120.2 rfl
noncomputable def dL_law_1121 := zr_dL_law_1121.1
noncomputable def zr_dL_law_1122 := zo_182 (k := 115)  (q := 1125) zr_dL_law_1121.2 rfl rfl
noncomputable def dL_law_1122 := zr_dL_law_1122.1
noncomputable def zr_dL_law_1125 := zo_87 (q := 1126) zr_dL_law_1122.2 rfl
noncomputable def dL_law_1125 := zr_dL_law_1125.1
noncomputable def zr_dL_law_1126 := zo_44 (q := 1127) zr_dL_law_1125.2 rfl
noncomputable def dL_law_1126 := zr_dL_law_1126.1
noncomputable def zr_dL_law_1127 := zo_42 (q := 1128) zr_dL_law_1126.2 rfl
noncomputable def dL_law_1127 := zr_dL_law_1127.1
noncomputable def zr_dL_law_1128 := zo_29 (q := 1129) zr_dL_law_1127.2 rfl
noncomputable def dL_law_1128 := zr_dL_law_1128.1
noncomputable def zr_dL_law_1129 := zo_4 (q := 1130) zr_dL_law_1128.2 rfl
noncomputable def dL_law_1129 := zr_dL_law_1129.1
noncomputable def zr_dL_law_1130 := zo_96 (q := 1131) zr_dL_law_1129.2 rfl
noncomputable def dL_law_1130 := zr_dL_law_1130.1
noncomputable def zr_dL_law_1131 := zo_46 (q := 1132) zr_dL_law_1130.2 rfl
noncomputable def dL_law_1131 := zr_dL_law_1131.1
noncomputable def zr_dL_law_1132 := zo_182 (k := 118)  (q := 1135) zr_dL_law_1131.2 rfl rfl
noncomputable def dL_law_1132 := zr_dL_law_1132.1
noncomputable def zr_dL_law_1135 := zo_87 (q := 1136) zr_dL_law_1132.2 rfl
noncomputable def dL_law_1135 := zr_dL_law_1135.1
noncomputable def zr_dL_law_1136 := zo_167 (k := 478)  (q := 1139) zr_dL_law_1135.2 (by decide +kernel) rfl
noncomputable def dL_law_1136 := zr_dL_law_1136.1
noncomputable def zr_dL_law_1139 := zo_43 (q := 1140) zr_dL_law_1136.2 rfl
noncomputable def dL_law_1139 := zr_dL_law_1139.1
noncomputable def zr_dL_law_1140 := zo_42 (q := 1141) zr_dL_law_1139.2 rfl
noncomputable def dL_law_1140 := zr_dL_law_1140.1
noncomputable def zr_dL_law_1141 := zo_29 (q := 1142) zr_dL_law_1140.2 rfl
noncomputable def dL_law_1141 := zr_dL_law_1141.1
noncomputable def zr_dL_law_1142 := zo_4 (q := 1143) zr_dL_law_1141.2 rfl
noncomputable def dL_law_1142 := zr_dL_law_1142.1
noncomputable def zr_dL_law_1143 := zo_96 (q := 1144) zr_dL_law_1142.2 rfl
noncomputable def dL_law_1143 := zr_dL_law_1143.1
noncomputable def zr_dL_law_1144 := zo_46 (q := 1145) zr_dL_law_1143.2 rfl
noncomputable def dL_law_1144 := zr_dL_law_1144.1
noncomputable def zr_dL_law_1145 := zo_42 (q := 1146) zr_dL_law_1144.2 rfl
noncomputable def dL_law_1145 := zr_dL_law_1145.1
noncomputable def zr_dL_law_1146 := zo_29 (q := 1147) zr_dL_law_1145.2 rfl
noncomputable def dL_law_1146 := zr_dL_law_1146.1
noncomputable def zr_dL_law_1147 := zo_5 (q := 1148) zr_dL_law_1146.2 rfl
noncomputable def dL_law_1147 := zr_dL_law_1147.1
noncomputable def zr_dL_law_1148 := zo_96 (q := 1149) zr_dL_law_1147.2 rfl
noncomputable def dL_law_1148 := zr_dL_law_1148.1
noncomputable def zr_dL_law_1149 := zo_46 (q := 1150) zr_dL_law_1148.2 rfl
noncomputable def dL_law_1149 := zr_dL_law_1149.1
noncomputable def zr_dL_law_1150 := zo_182 (k := 119)  (q := 1153) zr_dL_law_1149.2 rfl rfl
noncomputable def dL_law_1150 := zr_dL_law_1150.1
noncomputable def zr_dL_law_1153 := zo_44 (q := 1154) zr_dL_law_1150.2 rfl
noncomputable def dL_law_1153 := zr_dL_law_1153.1
noncomputable def zr_dL_law_1154 := zo_42 (q := 1155) zr_dL_law_1153.2 rfl
noncomputable def dL_law_1154 := zr_dL_law_1154.1
noncomputable def zr_dL_law_1155 := zo_29 (q := 1156) zr_dL_law_1154.2 rfl
noncomputable def dL_law_1155 := zr_dL_law_1155.1
noncomputable def zr_dL_law_1156 := zo_4 (q := 1157) zr_dL_law_1155.2 rfl
noncomputable def dL_law_1156 := zr_dL_law_1156.1
noncomputable def zr_dL_law_1157 := zo_96 (q := 1158) zr_dL_law_1156.2 rfl
noncomputable def dL_law_1157 := zr_dL_law_1157.1
noncomputable def zr_dL_law_1158 := zo_46 (q := 1159) zr_dL_law_1157.2 rfl
noncomputable def dL_law_1158 := zr_dL_law_1158.1
noncomputable def zr_dL_law_1159 := zo_42 (q := 1160) zr_dL_law_1158.2 rfl
noncomputable def dL_law_1159 := zr_dL_law_1159.1
noncomputable def zr_dL_law_1160 := zo_29 (q := 1161) zr_dL_law_1159.2 rfl
noncomputable def dL_law_1160 := zr_dL_law_1160.1
noncomputable def zr_dL_law_1161 := zo_5 (q := 1162) zr_dL_law_1160.2 rfl
noncomputable def dL_law_1161 := zr_dL_law_1161.1
noncomputable def zr_dL_law_1162 := zo_96 (q := 1163) zr_dL_law_1161.2 rfl
noncomputable def dL_law_1162 := zr_dL_law_1162.1
noncomputable def zr_dL_law_1163 := zo_46 (q := 1164) zr_dL_law_1162.2 rfl
noncomputable def dL_law_1163 := zr_dL_law_1163.1
noncomputable def zr_dL_law_1164 := zo_182 (k := 122)  (q := 1167) zr_dL_law_1163.2 rfl rfl
noncomputable def dL_law_1164 := zr_dL_law_1164.1
noncomputable def zr_dL_law_1167 := zo_159 (k := 447)  (q := 1170) zr_dL_law_1164.2 (by decide +kernel) rfl
noncomputable def dL_law_1167 := zr_dL_law_1167.1
noncomputable def zr_dL_law_1170 := zo_3 (q := 1171) zr_dL_law_1167.2 rfl
noncomputable def dL_law_1170 := zr_dL_law_1170.1
noncomputable def zr_dL_law_1171 := zo_172 (q := 1172) zr_dL_law_1170.2 rfl
noncomputable def dL_law_1171 := zr_dL_law_1171.1
noncomputable def zr_dL_law_1172 := zo_43 (q := 1173) zr_dL_law_1171.2 rfl
noncomputable def dL_law_1172 := zr_dL_law_1172.1
noncomputable def zr_dL_law_1173 := zo_42 (q := 1174) zr_dL_law_1172.2 rfl
noncomputable def dL_law_1173 := zr_dL_law_1173.1
noncomputable def zr_dL_law_1174 := zo_29 (q := 1175) zr_dL_law_1173.2 rfl
noncomputable def dL_law_1174 := zr_dL_law_1174.1
noncomputable def zr_dL_law_1175 := zo_4 (q := 1176) zr_dL_law_1174.2 rfl
noncomputable def dL_law_1175 := zr_dL_law_1175.1
noncomputable def zr_dL_law_1176 := zo_96 (q := 1177) zr_dL_law_1175.2 rfl
noncomputable def dL_law_1176 := zr_dL_law_1176.1
noncomputable def zr_dL_law_1177 := zo_46 (q := 1178) zr_dL_law_1176.2 rfl
noncomputable def dL_law_1177 := zr_dL_law_1177.1
noncomputable def zr_dL_law_1178 := zo_42 (q := 1179) zr_dL_law_1177.2 rfl
noncomputable def dL_law_1178 := zr_dL_law_1178.1
noncomputable def zr_dL_law_1179 := zo_29 (q := 1180) zr_dL_law_1178.2 rfl
noncomputable def dL_law_1179 := zr_dL_law_1179.1
noncomputable def zr_dL_law_1180 := zo_5 (q := 1181) zr_dL_law_1179.2 rfl
noncomputable def dL_law_1180 := zr_dL_law_1180.1
noncomputable def zr_dL_law_1181 := zo_96 (q := 1182) zr_dL_law_1180.2 rfl
noncomputable def dL_law_1181 := zr_dL_law_1181.1
noncomputable def zr_dL_law_1182 := zo_46 (q := 1183) zr_dL_law_1181.2 rfl
noncomputable def dL_law_1182 := zr_dL_law_1182.1
noncomputable def zr_dL_law_1183 := zo_42 (q := 1184) zr_dL_law_1182.2 rfl
noncomputable def dL_law_1183 := zr_dL_law_1183.1
noncomputable def zr_dL_law_1184 := zo_29 (q := 1185) zr_dL_law_1183.2 rfl
noncomputable def dL_law_1184 := zr_dL_law_1184.1
noncomputable def zr_dL_law_1185 := zo_6 (q := 1186) zr_dL_law_1184.2 rfl
noncomputable def dL_law_1185 := zr_dL_law_1185.1
noncomputable def zr_dL_law_1186 := zo_96 (q := 1187) zr_dL_law_1185.2 rfl
noncomputable def dL_law_1186 := zr_dL_law_1186.1
noncomputable def zr_dL_law_1187 := zo_46 (q := 1188) zr_dL_law_1186.2 rfl
noncomputable def dL_law_1187 := zr_dL_law_1187.1
noncomputable def zr_dL_law_1188 := zo_182 (k := 123)  (q := 1191) zr_dL_law_1187.2 rfl rfl
noncomputable def dL_law_1188 := zr_dL_law_1188.1
noncomputable def zr_dL_law_1191 := zo_87 (q := 1192) zr_dL_law_1188.2 rfl
noncomputable def dL_law_1191 := zr_dL_law_1191.1
noncomputable def zr_dL_law_1192 := zo_44 (q := 1193) zr_dL_law_1191.2 rfl
noncomputable def dL_law_1192 := zr_dL_law_1192.1
noncomputable def zr_dL_law_1193 := zo_42 (q := 1194) zr_dL_law_1192.2 rfl
noncomputable def dL_law_1193 := zr_dL_law_1193.1
noncomputable def zr_dL_law_1194 := zo_29 (q := 1195) zr_dL_law_1193.2 rfl
noncomputable def dL_law_1194 := zr_dL_law_1194.1
noncomputable def zr_dL_law_1195 := zo_4 (q := 1196) zr_dL_law_1194.2 rfl
noncomputable def dL_law_1195 := zr_dL_law_1195.1
noncomputable def zr_dL_law_1196 := zo_96 (q := 1197) zr_dL_law_1195.2 rfl
noncomputable def dL_law_1196 := zr_dL_law_1196.1
noncomputable def zr_dL_law_1197 := zo_46 (q := 1198) zr_dL_law_1196.2 rfl
noncomputable def dL_law_1197 := zr_dL_law_1197.1
noncomputable def zr_dL_law_1198 := zo_42 (q := 1199) zr_dL_law_1197.2 rfl
noncomputable def dL_law_1198 := zr_dL_law_1198.1
noncomputable def zr_dL_law_1199 := zo_29 (q := 1200) zr_dL_law_1198.2 rfl
noncomputable def dL_law_1199 := zr_dL_law_1199.1
noncomputable def zr_dL_law_1200 := zo_5 (q := 1201) zr_dL_law_1199.2 rfl
noncomputable def dL_law_1200 := zr_dL_law_1200.1
noncomputable def zr_dL_law_1201 := zo_96 (q := 1202) zr_dL_law_1200.2 rfl
noncomputable def dL_law_1201 := zr_dL_law_1201.1
noncomputable def zr_dL_law_1202 := zo_46 (q := 1203) zr_dL_law_1201.2 rfl
noncomputable def dL_law_1202 := zr_dL_law_1202.1
noncomputable def zr_dL_law_1203 := zo_42 (q := 1204) zr_dL_law_1202.2 rfl
noncomputable def dL_law_1203 := zr_dL_law_1203.1
noncomputable def zr_dL_law_1204 := zo_29 (q := 1205) zr_dL_law_1203.2 rfl
noncomputable def dL_law_1204 := zr_dL_law_1204.1
noncomputable def zr_dL_law_1205 := zo_6 (q := 1206) zr_dL_law_1204.2 rfl
noncomputable def dL_law_1205 := zr_dL_law_1205.1
noncomputable def zr_dL_law_1206 := zo_96 (q := 1207) zr_dL_law_1205.2 rfl
noncomputable def dL_law_1206 := zr_dL_law_1206.1
noncomputable def zr_dL_law_1207 := zo_46 (q := 1208) zr_dL_law_1206.2 rfl
noncomputable def dL_law_1207 := zr_dL_law_1207.1
noncomputable def zr_dL_law_1208 := zo_182 (k := 126)  (q := 1211) zr_dL_law_1207.2 rfl rfl
noncomputable def dL_law_1208 := zr_dL_law_1208.1
noncomputable def zr_dL_law_1211 := zo_87 (q := 1212) zr_dL_law_1208.2 rfl
noncomputable def dL_law_1211 := zr_dL_law_1211.1
noncomputable def zr_dL_law_1212 := zo_167 (k := 402)  (q := 1215) zr_dL_law_1211.2 (by decide +kernel) rfl
noncomputable def dL_law_1212 := zr_dL_law_1212.1
noncomputable def zr_dL_law_1215 := zo_43 (q := 1216) zr_dL_law_1212.2 rfl
noncomputable def dL_law_1215 := zr_dL_law_1215.1
noncomputable def zr_dL_law_1216 := zo_42 (q := 1217) zr_dL_law_1215.2 rfl
noncomputable def dL_law_1216 := zr_dL_law_1216.1
noncomputable def zr_dL_law_1217 := zo_29 (q := 1218) zr_dL_law_1216.2 rfl
noncomputable def dL_law_1217 := zr_dL_law_1217.1
noncomputable def zr_dL_law_1218 := zo_4 (q := 1219) zr_dL_law_1217.2 rfl
noncomputable def dL_law_1218 := zr_dL_law_1218.1
noncomputable def zr_dL_law_1219 := zo_96 (q := 1220) zr_dL_law_1218.2 rfl
noncomputable def dL_law_1219 := zr_dL_law_1219.1
noncomputable def zr_dL_law_1220 := zo_46 (q := 1221) zr_dL_law_1219.2 rfl
noncomputable def dL_law_1220 := zr_dL_law_1220.1
noncomputable def zr_dL_law_1221 := zo_42 (q := 1222) zr_dL_law_1220.2 rfl
noncomputable def dL_law_1221 := zr_dL_law_1221.1
noncomputable def zr_dL_law_1222 := zo_29 (q := 1223) zr_dL_law_1221.2 rfl
noncomputable def dL_law_1222 := zr_dL_law_1222.1
noncomputable def zr_dL_law_1223 := zo_5 (q := 1224) zr_dL_law_1222.2 rfl
noncomputable def dL_law_1223 := zr_dL_law_1223.1
noncomputable def zr_dL_law_1224 := zo_96 (q := 1225) zr_dL_law_1223.2 rfl
noncomputable def dL_law_1224 := zr_dL_law_1224.1
noncomputable def zr_dL_law_1225 := zo_46 (q := 1226) zr_dL_law_1224.2 rfl
noncomputable def dL_law_1225 := zr_dL_law_1225.1
noncomputable def zr_dL_law_1226 := zo_42 (q := 1227) zr_dL_law_1225.2 rfl
noncomputable def dL_law_1226 := zr_dL_law_1226.1
noncomputable def zr_dL_law_1227 := zo_29 (q := 1228) zr_dL_law_1226.2 rfl
noncomputable def dL_law_1227 := zr_dL_law_1227.1
noncomputable def zr_dL_law_1228 := zo_6 (q := 1229) zr_dL_law_1227.2 rfl
noncomputable def dL_law_1228 := zr_dL_law_1228.1
noncomputable def zr_dL_law_1229 := zo_96 (q := 1230) zr_dL_law_1228.2 rfl
noncomputable def dL_law_1229 := zr_dL_law_1229.1
noncomputable def zr_dL_law_1230 := zo_46 (q := 1231) zr_dL_law_1229.2 rfl
noncomputable def dL_law_1230 := zr_dL_law_1230.1
noncomputable def zr_dL_law_1231 := zo_42 (q := 1232) zr_dL_law_1230.2 rfl
noncomputable def dL_law_1231 := zr_dL_law_1231.1
noncomputable def zr_dL_law_1232 := zo_29 (q := 1233) zr_dL_law_1231.2 rfl
noncomputable def dL_law_1232 := zr_dL_law_1232.1
noncomputable def zr_dL_law_1233 := zo_7 (q := 1234) zr_dL_law_1232.2 rfl
noncomputable def dL_law_1233 := zr_dL_law_1233.1
noncomputable def zr_dL_law_1234 := zo_96 (q := 1235) zr_dL_law_1233.2 rfl
noncomputable def dL_law_1234 := zr_dL_law_1234.1
noncomputable def zr_dL_law_1235 := zo_46 (q := 1236) zr_dL_law_1234.2 rfl
noncomputable def dL_law_1235 := zr_dL_law_1235.1
noncomputable def zr_dL_law_1236 := zo_42 (q := 1237) zr_dL_law_1235.2 rfl
noncomputable def dL_law_1236 := zr_dL_law_1236.1
noncomputable def zr_dL_law_1237 := zo_29 (q := 1238) zr_dL_law_1236.2 rfl
noncomputable def dL_law_1237 := zr_dL_law_1237.1
noncomputable def zr_dL_law_1238 := zo_8 (q := 1239) zr_dL_law_1237.2 rfl
noncomputable def dL_law_1238 := zr_dL_law_1238.1
noncomputable def zr_dL_law_1239 := zo_96 (q := 1240) zr_dL_law_1238.2 rfl
noncomputable def dL_law_1239 := zr_dL_law_1239.1
noncomputable def zr_dL_law_1240 := zo_46 (q := 1241) zr_dL_law_1239.2 rfl
noncomputable def dL_law_1240 := zr_dL_law_1240.1
noncomputable def zr_dL_law_1241 := zo_182 (k := 127)  (q := 1244) zr_dL_law_1240.2 rfl rfl
noncomputable def dL_law_1241 := zr_dL_law_1241.1
noncomputable def zr_dL_law_1244 := zo_87 (q := 1245) zr_dL_law_1241.2 rfl
noncomputable def dL_law_1244 := zr_dL_law_1244.1
noncomputable def zr_dL_law_1245 := zo_44 (q := 1246) zr_dL_law_1244.2 rfl
noncomputable def dL_law_1245 := zr_dL_law_1245.1
noncomputable def zr_dL_law_1246 := zo_42 (q := 1247) zr_dL_law_1245.2 rfl
noncomputable def dL_law_1246 := zr_dL_law_1246.1
noncomputable def zr_dL_law_1247 := zo_29 (q := 1248) zr_dL_law_1246.2 rfl
noncomputable def dL_law_1247 := zr_dL_law_1247.1
noncomputable def zr_dL_law_1248 := zo_4 (q := 1249) zr_dL_law_1247.2 rfl
noncomputable def dL_law_1248 := zr_dL_law_1248.1
noncomputable def zr_dL_law_1249 := zo_96 (q := 1250) zr_dL_law_1248.2 rfl
noncomputable def dL_law_1249 := zr_dL_law_1249.1
noncomputable def zr_dL_law_1250 := zo_46 (q := 1251) zr_dL_law_1249.2 rfl
noncomputable def dL_law_1250 := zr_dL_law_1250.1
noncomputable def zr_dL_law_1251 := zo_42 (q := 1252) zr_dL_law_1250.2 rfl
noncomputable def dL_law_1251 := zr_dL_law_1251.1
noncomputable def zr_dL_law_1252 := zo_29 (q := 1253) zr_dL_law_1251.2 rfl
noncomputable def dL_law_1252 := zr_dL_law_1252.1
noncomputable def zr_dL_law_1253 := zo_5 (q := 1254) zr_dL_law_1252.2 rfl
noncomputable def dL_law_1253 := zr_dL_law_1253.1
noncomputable def zr_dL_law_1254 := zo_96 (q := 1255) zr_dL_law_1253.2 rfl
noncomputable def dL_law_1254 := zr_dL_law_1254.1
noncomputable def zr_dL_law_1255 := zo_46 (q := 1256) zr_dL_law_1254.2 rfl
noncomputable def dL_law_1255 := zr_dL_law_1255.1
noncomputable def zr_dL_law_1256 := zo_42 (q := 1257) zr_dL_law_1255.2 rfl
noncomputable def dL_law_1256 := zr_dL_law_1256.1
noncomputable def zr_dL_law_1257 := zo_29 (q := 1258) zr_dL_law_1256.2 rfl
noncomputable def dL_law_1257 := zr_dL_law_1257.1
noncomputable def zr_dL_law_1258 := zo_6 (q := 1259) zr_dL_law_1257.2 rfl
noncomputable def dL_law_1258 := zr_dL_law_1258.1
noncomputable def zr_dL_law_1259 := zo_96 (q := 1260) zr_dL_law_1258.2 rfl
noncomputable def dL_law_1259 := zr_dL_law_1259.1
noncomputable def zr_dL_law_1260 := zo_46 (q := 1261) zr_dL_law_1259.2 rfl
noncomputable def dL_law_1260 := zr_dL_law_1260.1
noncomputable def zr_dL_law_1261 := zo_42 (q := 1262) zr_dL_law_1260.2 rfl
noncomputable def dL_law_1261 := zr_dL_law_1261.1
noncomputable def zr_dL_law_1262 := zo_29 (q := 1263) zr_dL_law_1261.2 rfl
noncomputable def dL_law_1262 := zr_dL_law_1262.1
noncomputable def zr_dL_law_1263 := zo_7 (q := 1264) zr_dL_law_1262.2 rfl
noncomputable def dL_law_1263 := zr_dL_law_1263.1
noncomputable def zr_dL_law_1264 := zo_96 (q := 1265) zr_dL_law_1263.2 rfl
noncomputable def dL_law_1264 := zr_dL_law_1264.1
noncomputable def zr_dL_law_1265 := zo_46 (q := 1266) zr_dL_law_1264.2 rfl
noncomputable def dL_law_1265 := zr_dL_law_1265.1
noncomputable def zr_dL_law_1266 := zo_42 (q := 1267) zr_dL_law_1265.2 rfl
noncomputable def dL_law_1266 := zr_dL_law_1266.1
noncomputable def zr_dL_law_1267 := zo_29 (q := 1268) zr_dL_law_1266.2 rfl
noncomputable def dL_law_1267 := zr_dL_law_1267.1
noncomputable def zr_dL_law_1268 := zo_8 (q := 1269) zr_dL_law_1267.2 rfl
noncomputable def dL_law_1268 := zr_dL_law_1268.1
noncomputable def zr_dL_law_1269 := zo_96 (q := 1270) zr_dL_law_1268.2 rfl
noncomputable def dL_law_1269 := zr_dL_law_1269.1
noncomputable def zr_dL_law_1270 := zo_46 (q := 1271) zr_dL_law_1269.2 rfl
noncomputable def dL_law_1270 := zr_dL_law_1270.1
noncomputable def zr_dL_law_1271 := zo_182 (k := 131)  (q := 1274) zr_dL_law_1270.2 rfl rfl
noncomputable def dL_law_1271 := zr_dL_law_1271.1
noncomputable def zr_dL_law_1274 := zo_87 (q := 1275) zr_dL_law_1271.2 rfl
noncomputable def dL_law_1274 := zr_dL_law_1274.1
noncomputable def zr_dL_law_1275 := zo_167 (k := 339)  (q := 1278) zr_dL_law_1274.2 (by decide +kernel) rfl
noncomputable def dL_law_1275 := zr_dL_law_1275.1
noncomputable def zr_dL_law_1278 := zo_43 (q := 1279) zr_dL_law_1275.2 rfl
noncomputable def dL_law_1278 := zr_dL_law_1278.1
noncomputable def zr_dL_law_1279 := zo_42 (q := 1280) zr_dL_law_1278.2 rfl
noncomputable def dL_law_1279 := zr_dL_law_1279.1
noncomputable def zr_dL_law_1280 := zo_29 (q := 1281) zr_dL_law_1279.2 rfl
noncomputable def dL_law_1280 := zr_dL_law_1280.1
noncomputable def zr_dL_law_1281 := zo_4 (q := 1282) zr_dL_law_1280.2 rfl
noncomputable def dL_law_1281 := zr_dL_law_1281.1
noncomputable def zr_dL_law_1282 := zo_96 (q := 1283) zr_dL_law_1281.2 rfl
noncomputable def dL_law_1282 := zr_dL_law_1282.1
noncomputable def zr_dL_law_1283 := zo_46 (q := 1284) zr_dL_law_1282.2 rfl
noncomputable def dL_law_1283 := zr_dL_law_1283.1
noncomputable def zr_dL_law_1284 := zo_42 (q := 1285) zr_dL_law_1283.2 rfl
noncomputable def dL_law_1284 := zr_dL_law_1284.1
noncomputable def zr_dL_law_1285 := zo_29 (q := 1286) zr_dL_law_1284.2 rfl
noncomputable def dL_law_1285 := zr_dL_law_1285.1
noncomputable def zr_dL_law_1286 := zo_5 (q := 1287) zr_dL_law_1285.2 rfl
noncomputable def dL_law_1286 := zr_dL_law_1286.1
noncomputable def zr_dL_law_1287 := zo_96 (q := 1288) zr_dL_law_1286.2 rfl
noncomputable def dL_law_1287 := zr_dL_law_1287.1
noncomputable def zr_dL_law_1288 := zo_46 (q := 1289) zr_dL_law_1287.2 rfl
noncomputable def dL_law_1288 := zr_dL_law_1288.1
noncomputable def zr_dL_law_1289 := zo_42 (q := 1290) zr_dL_law_1288.2 rfl
noncomputable def dL_law_1289 := zr_dL_law_1289.1
noncomputable def zr_dL_law_1290 := zo_29 (q := 1291) zr_dL_law_1289.2 rfl
noncomputable def dL_law_1290 := zr_dL_law_1290.1
noncomputable def zr_dL_law_1291 := zo_6 (q := 1292) zr_dL_law_1290.2 rfl
noncomputable def dL_law_1291 := zr_dL_law_1291.1
noncomputable def zr_dL_law_1292 := zo_96 (q := 1293) zr_dL_law_1291.2 rfl
noncomputable def dL_law_1292 := zr_dL_law_1292.1
noncomputable def zr_dL_law_1293 := zo_46 (q := 1294) zr_dL_law_1292.2 rfl
noncomputable def dL_law_1293 := zr_dL_law_1293.1
noncomputable def zr_dL_law_1294 := zo_42 (q := 1295) zr_dL_law_1293.2 rfl
noncomputable def dL_law_1294 := zr_dL_law_1294.1
noncomputable def zr_dL_law_1295 := zo_29 (q := 1296) zr_dL_law_1294.2 rfl
noncomputable def dL_law_1295 := zr_dL_law_1295.1
noncomputable def zr_dL_law_1296 := zo_7 (q := 1297) zr_dL_law_1295.2 rfl
noncomputable def dL_law_1296 := zr_dL_law_1296.1
noncomputable def zr_dL_law_1297 := zo_96 (q := 1298) zr_dL_law_1296.2 rfl
noncomputable def dL_law_1297 := zr_dL_law_1297.1
noncomputable def zr_dL_law_1298 := zo_46 (q := 1299) zr_dL_law_1297.2 rfl
noncomputable def dL_law_1298 := zr_dL_law_1298.1
noncomputable def zr_dL_law_1299 := zo_42 (q := 1300) zr_dL_law_1298.2 rfl
noncomputable def dL_law_1299 := zr_dL_law_1299.1
noncomputable def zr_dL_law_1300 := zo_29 (q := 1301) zr_dL_law_1299.2 rfl
noncomputable def dL_law_1300 := zr_dL_law_1300.1
noncomputable def zr_dL_law_1301 := zo_8 (q := 1302) zr_dL_law_1300.2 rfl
noncomputable def dL_law_1301 := zr_dL_law_1301.1
noncomputable def zr_dL_law_1302 := zo_96 (q := 1303) zr_dL_law_1301.2 rfl
noncomputable def dL_law_1302 := zr_dL_law_1302.1
noncomputable def zr_dL_law_1303 := zo_46 (q := 1304) zr_dL_law_1302.2 rfl
noncomputable def dL_law_1303 := zr_dL_law_1303.1
noncomputable def zr_dL_law_1304 := zo_42 (q := 1305) zr_dL_law_1303.2 rfl
noncomputable def dL_law_1304 := zr_dL_law_1304.1
noncomputable def zr_dL_law_1305 := zo_29 (q := 1306) zr_dL_law_1304.2 rfl
noncomputable def dL_law_1305 := zr_dL_law_1305.1
noncomputable def zr_dL_law_1306 := zo_16 (k := 6)  (q := 1308) zr_dL_law_1305.2 (by decide +kernel) rfl
noncomputable def dL_law_1306 := zr_dL_law_1306.1
noncomputable def zr_dL_law_1308 := zo_96 (q := 1309) zr_dL_law_1306.2 rfl
noncomputable def dL_law_1308 := zr_dL_law_1308.1
noncomputable def zr_dL_law_1309 := zo_46 (q := 1310) zr_dL_law_1308.2 rfl
noncomputable def dL_law_1309 := zr_dL_law_1309.1
noncomputable def zr_dL_law_1310 := zo_182 (k := 132)  (q := 1313) zr_dL_law_1309.2 rfl rfl
noncomputable def dL_law_1310 := zr_dL_law_1310.1
theorem zo_88 {c : ByteArray} {p q : Nat} {L : List UInt8} (h : zsuf c p (88 :: L)) (hq : p + 1 = q) : zD c p .pop2 1 ∧ zsuf c q L := zfin hq (Eq.trans (zbd (zu1 (v := 88) h rfl)) rfl) (zsuf_tl h)
noncomputable def zr_dL_law_1313 := zo_88 (q := 1314) zr_dL_law_1310.2 rfl
noncomputable def dL_law_1313 := zr_dL_law_1313.1
noncomputable def zr_dL_law_1314 := zo_44 (q := 1315) zr_dL_law_1313.2 rfl
noncomputable def dL_law_1314 := zr_dL_law_1314.1
noncomputable def zr_dL_law_1315 := zo_42 (q := 1316) zr_dL_law_1314.2 rfl
noncomputable def dL_law_1315 := zr_dL_law_1315.1
noncomputable def zr_dL_law_1316 := zo_29 (q := 1317) zr_dL_law_1315.2 rfl
noncomputable def dL_law_1316 := zr_dL_law_1316.1
noncomputable def zr_dL_law_1317 := zo_4 (q := 1318) zr_dL_law_1316.2 rfl
noncomputable def dL_law_1317 := zr_dL_law_1317.1
noncomputable def zr_dL_law_1318 := zo_96 (q := 1319) zr_dL_law_1317.2 rfl
noncomputable def dL_law_1318 := zr_dL_law_1318.1
noncomputable def zr_dL_law_1319 := zo_46 (q := 1320) zr_dL_law_1318.2 rfl
noncomputable def dL_law_1319 := zr_dL_law_1319.1
noncomputable def zr_dL_law_1320 := zo_42 (q := 1321) zr_dL_law_1319.2 rfl
noncomputable def dL_law_1320 := zr_dL_law_1320.1
noncomputable def zr_dL_law_1321 := zo_29 (q := 1322) zr_dL_law_1320.2 rfl
noncomputable def dL_law_1321 := zr_dL_law_1321.1
noncomputable def zr_dL_law_1322 := zo_5 (q := 1323) zr_dL_law_1321.2 rfl
noncomputable def dL_law_1322 := zr_dL_law_1322.1
noncomputable def zr_dL_law_1323 := zo_96 (q := 1324) zr_dL_law_1322.2 rfl
noncomputable def dL_law_1323 := zr_dL_law_1323.1
noncomputable def zr_dL_law_1324 := zo_46 (q := 1325) zr_dL_law_1323.2 rfl
noncomputable def dL_law_1324 := zr_dL_law_1324.1
noncomputable def zr_dL_law_1325 := zo_42 (q := 1326) zr_dL_law_1324.2 rfl
noncomputable def dL_law_1325 := zr_dL_law_1325.1
noncomputable def zr_dL_law_1326 := zo_29 (q := 1327) zr_dL_law_1325.2 rfl
noncomputable def dL_law_1326 := zr_dL_law_1326.1
noncomputable def zr_dL_law_1327 := zo_6 (q := 1328) zr_dL_law_1326.2 rfl
noncomputable def dL_law_1327 := zr_dL_law_1327.1
noncomputable def zr_dL_law_1328 := zo_96 (q := 1329) zr_dL_law_1327.2 rfl
noncomputable def dL_law_1328 := zr_dL_law_1328.1
noncomputable def zr_dL_law_1329 := zo_46 (q := 1330) zr_dL_law_1328.2 rfl
noncomputable def dL_law_1329 := zr_dL_law_1329.1
noncomputable def zr_dL_law_1330 := zo_42 (q := 1331) zr_dL_law_1329.2 rfl
noncomputable def dL_law_1330 := zr_dL_law_1330.1
noncomputable def zr_dL_law_1331 := zo_29 (q := 1332) zr_dL_law_1330.2 rfl
noncomputable def dL_law_1331 := zr_dL_law_1331.1
noncomputable def zr_dL_law_1332 := zo_7 (q := 1333) zr_dL_law_1331.2 rfl
noncomputable def dL_law_1332 := zr_dL_law_1332.1
noncomputable def zr_dL_law_1333 := zo_96 (q := 1334) zr_dL_law_1332.2 rfl
noncomputable def dL_law_1333 := zr_dL_law_1333.1
noncomputable def zr_dL_law_1334 := zo_46 (q := 1335) zr_dL_law_1333.2 rfl
noncomputable def dL_law_1334 := zr_dL_law_1334.1
noncomputable def zr_dL_law_1335 := zo_42 (q := 1336) zr_dL_law_1334.2 rfl
noncomputable def dL_law_1335 := zr_dL_law_1335.1
noncomputable def zr_dL_law_1336 := zo_29 (q := 1337) zr_dL_law_1335.2 rfl
noncomputable def dL_law_1336 := zr_dL_law_1336.1
noncomputable def zr_dL_law_1337 := zo_8 (q := 1338) zr_dL_law_1336.2 rfl
noncomputable def dL_law_1337 := zr_dL_law_1337.1
noncomputable def zr_dL_law_1338 := zo_96 (q := 1339) zr_dL_law_1337.2 rfl
noncomputable def dL_law_1338 := zr_dL_law_1338.1
noncomputable def zr_dL_law_1339 := zo_46 (q := 1340) zr_dL_law_1338.2 rfl
noncomputable def dL_law_1339 := zr_dL_law_1339.1
noncomputable def zr_dL_law_1340 := zo_42 (q := 1341) zr_dL_law_1339.2 rfl
noncomputable def dL_law_1340 := zr_dL_law_1340.1
noncomputable def zr_dL_law_1341 := zo_29 (q := 1342) zr_dL_law_1340.2 rfl
noncomputable def dL_law_1341 := zr_dL_law_1341.1
noncomputable def zr_dL_law_1342 := zo_16 (k := 6)  (q := 1344) zr_dL_law_1341.2 (by decide +kernel) rfl
noncomputable def dL_law_1342 := zr_dL_law_1342.1
noncomputable def zr_dL_law_1344 := zo_96 (q := 1345) zr_dL_law_1342.2 rfl
noncomputable def dL_law_1344 := zr_dL_law_1344.1
noncomputable def zr_dL_law_1345 := zo_46 (q := 1346) zr_dL_law_1344.2 rfl
noncomputable def dL_law_1345 := zr_dL_law_1345.1
noncomputable def zr_dL_law_1346 := zo_182 (k := 136)  (q := 1349) zr_dL_law_1345.2 rfl rfl
noncomputable def dL_law_1346 := zr_dL_law_1346.1
noncomputable def zr_dL_law_1349 := zo_88 (q := 1350) zr_dL_law_1346.2 rfl
noncomputable def dL_law_1349 := zr_dL_law_1349.1
noncomputable def zr_dL_law_1350 := zo_167 (k := 264)  (q := 1353) zr_dL_law_1349.2 (by decide +kernel) rfl
noncomputable def dL_law_1350 := zr_dL_law_1350.1
noncomputable def zr_dL_law_1353 := zo_43 (q := 1354) zr_dL_law_1350.2 rfl
noncomputable def dL_law_1353 := zr_dL_law_1353.1
noncomputable def zr_dL_law_1354 := zo_182 (k := 137)  (q := 1357) zr_dL_law_1353.2 rfl rfl
noncomputable def dL_law_1354 := zr_dL_law_1354.1
noncomputable def zr_dL_law_1357 := zo_87 (q := 1358) zr_dL_law_1354.2 rfl
noncomputable def dL_law_1357 := zr_dL_law_1357.1
noncomputable def zr_dL_law_1358 := zo_44 (q := 1359) zr_dL_law_1357.2 rfl
noncomputable def dL_law_1358 := zr_dL_law_1358.1
noncomputable def zr_dL_law_1359 := zo_182 (k := 140)  (q := 1362) zr_dL_law_1358.2 rfl rfl
noncomputable def dL_law_1359 := zr_dL_law_1359.1
noncomputable def zr_dL_law_1362 := zo_87 (q := 1363) zr_dL_law_1359.2 rfl
noncomputable def dL_law_1362 := zr_dL_law_1362.1
noncomputable def zr_dL_law_1363 := zo_167 (k := 251)  (q := 1366) zr_dL_law_1362.2 (by decide +kernel) rfl
noncomputable def dL_law_1363 := zr_dL_law_1363.1
noncomputable def zr_dL_law_1366 := zo_43 (q := 1367) zr_dL_law_1363.2 rfl
noncomputable def dL_law_1366 := zr_dL_law_1366.1
noncomputable def zr_dL_law_1367 := zo_182 (k := 141)  (q := 1370) zr_dL_law_1366.2 rfl rfl
noncomputable def dL_law_1367 := zr_dL_law_1367.1
noncomputable def zr_dL_law_1370 := zo_87 (q := 1371) zr_dL_law_1367.2 rfl
noncomputable def dL_law_1370 := zr_dL_law_1370.1
noncomputable def zr_dL_law_1371 := zo_44 (q := 1372) zr_dL_law_1370.2 rfl
noncomputable def dL_law_1371 := zr_dL_law_1371.1
noncomputable def zr_dL_law_1372 := zo_182 (k := 144)  (q := 1375) zr_dL_law_1371.2 rfl rfl
noncomputable def dL_law_1372 := zr_dL_law_1372.1
noncomputable def zr_dL_law_1375 := zo_87 (q := 1376) zr_dL_law_1372.2 rfl
noncomputable def dL_law_1375 := zr_dL_law_1375.1
noncomputable def zr_dL_law_1376 := zo_167 (k := 238)  (q := 1379) zr_dL_law_1375.2 (by decide +kernel) rfl
noncomputable def dL_law_1376 := zr_dL_law_1376.1
noncomputable def zr_dL_law_1379 := zo_43 (q := 1380) zr_dL_law_1376.2 rfl
noncomputable def dL_law_1379 := zr_dL_law_1379.1
noncomputable def zr_dL_law_1380 := zo_42 (q := 1381) zr_dL_law_1379.2 rfl
noncomputable def dL_law_1380 := zr_dL_law_1380.1
noncomputable def zr_dL_law_1381 := zo_29 (q := 1382) zr_dL_law_1380.2 rfl
noncomputable def dL_law_1381 := zr_dL_law_1381.1
noncomputable def zr_dL_law_1382 := zo_4 (q := 1383) zr_dL_law_1381.2 rfl
noncomputable def dL_law_1382 := zr_dL_law_1382.1
noncomputable def zr_dL_law_1383 := zo_96 (q := 1384) zr_dL_law_1382.2 rfl
noncomputable def dL_law_1383 := zr_dL_law_1383.1
noncomputable def zr_dL_law_1384 := zo_46 (q := 1385) zr_dL_law_1383.2 rfl
noncomputable def dL_law_1384 := zr_dL_law_1384.1
noncomputable def zr_dL_law_1385 := zo_42 (q := 1386) zr_dL_law_1384.2 rfl
noncomputable def dL_law_1385 := zr_dL_law_1385.1
noncomputable def zr_dL_law_1386 := zo_29 (q := 1387) zr_dL_law_1385.2 rfl
noncomputable def dL_law_1386 := zr_dL_law_1386.1
noncomputable def zr_dL_law_1387 := zo_5 (q := 1388) zr_dL_law_1386.2 rfl
noncomputable def dL_law_1387 := zr_dL_law_1387.1
noncomputable def zr_dL_law_1388 := zo_96 (q := 1389) zr_dL_law_1387.2 rfl
noncomputable def dL_law_1388 := zr_dL_law_1388.1
noncomputable def zr_dL_law_1389 := zo_46 (q := 1390) zr_dL_law_1388.2 rfl
noncomputable def dL_law_1389 := zr_dL_law_1389.1
noncomputable def zr_dL_law_1390 := zo_42 (q := 1391) zr_dL_law_1389.2 rfl
noncomputable def dL_law_1390 := zr_dL_law_1390.1
noncomputable def zr_dL_law_1391 := zo_29 (q := 1392) zr_dL_law_1390.2 rfl
noncomputable def dL_law_1391 := zr_dL_law_1391.1
noncomputable def zr_dL_law_1392 := zo_6 (q := 1393) zr_dL_law_1391.2 rfl
noncomputable def dL_law_1392 := zr_dL_law_1392.1
noncomputable def zr_dL_law_1393 := zo_96 (q := 1394) zr_dL_law_1392.2 rfl
noncomputable def dL_law_1393 := zr_dL_law_1393.1
noncomputable def zr_dL_law_1394 := zo_46 (q := 1395) zr_dL_law_1393.2 rfl
noncomputable def dL_law_1394 := zr_dL_law_1394.1
noncomputable def zr_dL_law_1395 := zo_182 (k := 145)  (q := 1398) zr_dL_law_1394.2 rfl rfl
noncomputable def dL_law_1395 := zr_dL_law_1395.1
noncomputable def zr_dL_law_1398 := zo_87 (q := 1399) zr_dL_law_1395.2 rfl
noncomputable def dL_law_1398 := zr_dL_law_1398.1
noncomputable def zr_dL_law_1399 := zo_44 (q := 1400) zr_dL_law_1398.2 rfl
noncomputable def dL_law_1399 := zr_dL_law_1399.1
noncomputable def zr_dL_law_1400 := zo_42 (q := 1401) zr_dL_law_1399.2 rfl
noncomputable def dL_law_1400 := zr_dL_law_1400.1
noncomputable def zr_dL_law_1401 := zo_29 (q := 1402) zr_dL_law_1400.2 rfl
noncomputable def dL_law_1401 := zr_dL_law_1401.1
noncomputable def zr_dL_law_1402 := zo_4 (q := 1403) zr_dL_law_1401.2 rfl
noncomputable def dL_law_1402 := zr_dL_law_1402.1
noncomputable def zr_dL_law_1403 := zo_96 (q := 1404) zr_dL_law_1402.2 rfl
noncomputable def dL_law_1403 := zr_dL_law_1403.1
noncomputable def zr_dL_law_1404 := zo_46 (q := 1405) zr_dL_law_1403.2 rfl
noncomputable def dL_law_1404 := zr_dL_law_1404.1
noncomputable def zr_dL_law_1405 := zo_42 (q := 1406) zr_dL_law_1404.2 rfl
noncomputable def dL_law_1405 := zr_dL_law_1405.1
noncomputable def zr_dL_law_1406 := zo_29 (q := 1407) zr_dL_law_1405.2 rfl
noncomputable def dL_law_1406 := zr_dL_law_1406.1
noncomputable def zr_dL_law_1407 := zo_5 (q := 1408) zr_dL_law_1406.2 rfl
noncomputable def dL_law_1407 := zr_dL_law_1407.1
noncomputable def zr_dL_law_1408 := zo_96 (q := 1409) zr_dL_law_1407.2 rfl
noncomputable def dL_law_1408 := zr_dL_law_1408.1
noncomputable def zr_dL_law_1409 := zo_46 (q := 1410) zr_dL_law_1408.2 rfl
noncomputable def dL_law_1409 := zr_dL_law_1409.1
noncomputable def zr_dL_law_1410 := zo_42 (q := 1411) zr_dL_law_1409.2 rfl
noncomputable def dL_law_1410 := zr_dL_law_1410.1
noncomputable def zr_dL_law_1411 := zo_29 (q := 1412) zr_dL_law_1410.2 rfl
noncomputable def dL_law_1411 := zr_dL_law_1411.1
noncomputable def zr_dL_law_1412 := zo_6 (q := 1413) zr_dL_law_1411.2 rfl
noncomputable def dL_law_1412 := zr_dL_law_1412.1
noncomputable def zr_dL_law_1413 := zo_96 (q := 1414) zr_dL_law_1412.2 rfl
noncomputable def dL_law_1413 := zr_dL_law_1413.1
noncomputable def zr_dL_law_1414 := zo_46 (q := 1415) zr_dL_law_1413.2 rfl
noncomputable def dL_law_1414 := zr_dL_law_1414.1
noncomputable def zr_dL_law_1415 := zo_182 (k := 148)  (q := 1418) zr_dL_law_1414.2 rfl rfl
noncomputable def dL_law_1415 := zr_dL_law_1415.1
noncomputable def zr_dL_law_1418 := zo_87 (q := 1419) zr_dL_law_1415.2 rfl
noncomputable def dL_law_1418 := zr_dL_law_1418.1
noncomputable def zr_dL_law_1419 := zo_167 (k := 195)  (q := 1422) zr_dL_law_1418.2 (by decide +kernel) rfl
noncomputable def dL_law_1419 := zr_dL_law_1419.1
noncomputable def zr_dL_law_1422 := zo_43 (q := 1423) zr_dL_law_1419.2 rfl
noncomputable def dL_law_1422 := zr_dL_law_1422.1
noncomputable def zr_dL_law_1423 := zo_42 (q := 1424) zr_dL_law_1422.2 rfl
noncomputable def dL_law_1423 := zr_dL_law_1423.1
noncomputable def zr_dL_law_1424 := zo_29 (q := 1425) zr_dL_law_1423.2 rfl
noncomputable def dL_law_1424 := zr_dL_law_1424.1
noncomputable def zr_dL_law_1425 := zo_4 (q := 1426) zr_dL_law_1424.2 rfl
noncomputable def dL_law_1425 := zr_dL_law_1425.1
noncomputable def zr_dL_law_1426 := zo_96 (q := 1427) zr_dL_law_1425.2 rfl
noncomputable def dL_law_1426 := zr_dL_law_1426.1
noncomputable def zr_dL_law_1427 := zo_46 (q := 1428) zr_dL_law_1426.2 rfl
noncomputable def dL_law_1427 := zr_dL_law_1427.1
noncomputable def zr_dL_law_1428 := zo_42 (q := 1429) zr_dL_law_1427.2 rfl
noncomputable def dL_law_1428 := zr_dL_law_1428.1
noncomputable def zr_dL_law_1429 := zo_29 (q := 1430) zr_dL_law_1428.2 rfl
noncomputable def dL_law_1429 := zr_dL_law_1429.1
noncomputable def zr_dL_law_1430 := zo_5 (q := 1431) zr_dL_law_1429.2 rfl
noncomputable def dL_law_1430 := zr_dL_law_1430.1
noncomputable def zr_dL_law_1431 := zo_96 (q := 1432) zr_dL_law_1430.2 rfl
noncomputable def dL_law_1431 := zr_dL_law_1431.1
noncomputable def zr_dL_law_1432 := zo_46 (q := 1433) zr_dL_law_1431.2 rfl
noncomputable def dL_law_1432 := zr_dL_law_1432.1
noncomputable def zr_dL_law_1433 := zo_42 (q := 1434) zr_dL_law_1432.2 rfl
noncomputable def dL_law_1433 := zr_dL_law_1433.1
noncomputable def zr_dL_law_1434 := zo_29 (q := 1435) zr_dL_law_1433.2 rfl
noncomputable def dL_law_1434 := zr_dL_law_1434.1
noncomputable def zr_dL_law_1435 := zo_6 (q := 1436) zr_dL_law_1434.2 rfl
noncomputable def dL_law_1435 := zr_dL_law_1435.1
noncomputable def zr_dL_law_1436 := zo_96 (q := 1437) zr_dL_law_1435.2 rfl
noncomputable def dL_law_1436 := zr_dL_law_1436.1
noncomputable def zr_dL_law_1437 := zo_46 (q := 1438) zr_dL_law_1436.2 rfl
noncomputable def dL_law_1437 := zr_dL_law_1437.1
noncomputable def zr_dL_law_1438 := zo_182 (k := 149)  (q := 1441) zr_dL_law_1437.2 rfl rfl
noncomputable def dL_law_1438 := zr_dL_law_1438.1
noncomputable def zr_dL_law_1441 := zo_87 (q := 1442) zr_dL_law_1438.2 rfl
noncomputable def dL_law_1441 := zr_dL_law_1441.1
noncomputable def zr_dL_law_1442 := zo_44 (q := 1443) zr_dL_law_1441.2 rfl
noncomputable def dL_law_1442 := zr_dL_law_1442.1
noncomputable def zr_dL_law_1443 := zo_42 (q := 1444) zr_dL_law_1442.2 rfl
noncomputable def dL_law_1443 := zr_dL_law_1443.1
noncomputable def zr_dL_law_1444 := zo_29 (q := 1445) zr_dL_law_1443.2 rfl
noncomputable def dL_law_1444 := zr_dL_law_1444.1
noncomputable def zr_dL_law_1445 := zo_4 (q := 1446) zr_dL_law_1444.2 rfl
noncomputable def dL_law_1445 := zr_dL_law_1445.1
noncomputable def zr_dL_law_1446 := zo_96 (q := 1447) zr_dL_law_1445.2 rfl
noncomputable def dL_law_1446 := zr_dL_law_1446.1
noncomputable def zr_dL_law_1447 := zo_46 (q := 1448) zr_dL_law_1446.2 rfl
noncomputable def dL_law_1447 := zr_dL_law_1447.1
noncomputable def zr_dL_law_1448 := zo_42 (q := 1449) zr_dL_law_1447.2 rfl
noncomputable def dL_law_1448 := zr_dL_law_1448.1
noncomputable def zr_dL_law_1449 := zo_29 (q := 1450) zr_dL_law_1448.2 rfl
noncomputable def dL_law_1449 := zr_dL_law_1449.1
noncomputable def zr_dL_law_1450 := zo_5 (q := 1451) zr_dL_law_1449.2 rfl
noncomputable def dL_law_1450 := zr_dL_law_1450.1
noncomputable def zr_dL_law_1451 := zo_96 (q := 1452) zr_dL_law_1450.2 rfl
noncomputable def dL_law_1451 := zr_dL_law_1451.1
noncomputable def zr_dL_law_1452 := zo_46 (q := 1453) zr_dL_law_1451.2 rfl
noncomputable def dL_law_1452 := zr_dL_law_1452.1
noncomputable def zr_dL_law_1453 := zo_42 (q := 1454) zr_dL_law_1452.2 rfl
noncomputable def dL_law_1453 := zr_dL_law_1453.1
noncomputable def zr_dL_law_1454 := zo_29 (q := 1455) zr_dL_law_1453.2 rfl
noncomputable def dL_law_1454 := zr_dL_law_1454.1
noncomputable def zr_dL_law_1455 := zo_6 (q := 1456) zr_dL_law_1454.2 rfl
noncomputable def dL_law_1455 := zr_dL_law_1455.1
noncomputable def zr_dL_law_1456 := zo_96 (q := 1457) zr_dL_law_1455.2 rfl
noncomputable def dL_law_1456 := zr_dL_law_1456.1
noncomputable def zr_dL_law_1457 := zo_46 (q := 1458) zr_dL_law_1456.2 rfl
noncomputable def dL_law_1457 := zr_dL_law_1457.1
noncomputable def zr_dL_law_1458 := zo_182 (k := 152)  (q := 1461) zr_dL_law_1457.2 rfl rfl
noncomputable def dL_law_1458 := zr_dL_law_1458.1
noncomputable def zr_dL_law_1461 := zo_87 (q := 1462) zr_dL_law_1458.2 rfl
noncomputable def dL_law_1461 := zr_dL_law_1461.1
noncomputable def zr_dL_law_1462 := zo_167 (k := 152)  (q := 1465) zr_dL_law_1461.2 (by decide +kernel) rfl
noncomputable def dL_law_1462 := zr_dL_law_1462.1
noncomputable def zr_dL_law_1465 := zo_43 (q := 1466) zr_dL_law_1462.2 rfl
noncomputable def dL_law_1465 := zr_dL_law_1465.1
noncomputable def zr_dL_law_1466 := zo_42 (q := 1467) zr_dL_law_1465.2 rfl
noncomputable def dL_law_1466 := zr_dL_law_1466.1
noncomputable def zr_dL_law_1467 := zo_29 (q := 1468) zr_dL_law_1466.2 rfl
noncomputable def dL_law_1467 := zr_dL_law_1467.1
noncomputable def zr_dL_law_1468 := zo_4 (q := 1469) zr_dL_law_1467.2 rfl
noncomputable def dL_law_1468 := zr_dL_law_1468.1
noncomputable def zr_dL_law_1469 := zo_96 (q := 1470) zr_dL_law_1468.2 rfl
noncomputable def dL_law_1469 := zr_dL_law_1469.1
noncomputable def zr_dL_law_1470 := zo_46 (q := 1471) zr_dL_law_1469.2 rfl
noncomputable def dL_law_1470 := zr_dL_law_1470.1
noncomputable def zr_dL_law_1471 := zo_42 (q := 1472) zr_dL_law_1470.2 rfl
noncomputable def dL_law_1471 := zr_dL_law_1471.1
noncomputable def zr_dL_law_1472 := zo_29 (q := 1473) zr_dL_law_1471.2 rfl
noncomputable def dL_law_1472 := zr_dL_law_1472.1
noncomputable def zr_dL_law_1473 := zo_5 (q := 1474) zr_dL_law_1472.2 rfl
noncomputable def dL_law_1473 := zr_dL_law_1473.1
noncomputable def zr_dL_law_1474 := zo_96 (q := 1475) zr_dL_law_1473.2 rfl
noncomputable def dL_law_1474 := zr_dL_law_1474.1
noncomputable def zr_dL_law_1475 := zo_46 (q := 1476) zr_dL_law_1474.2 rfl
noncomputable def dL_law_1475 := zr_dL_law_1475.1
noncomputable def zr_dL_law_1476 := zo_42 (q := 1477) zr_dL_law_1475.2 rfl
noncomputable def dL_law_1476 := zr_dL_law_1476.1
noncomputable def zr_dL_law_1477 := zo_29 (q := 1478) zr_dL_law_1476.2 rfl
noncomputable def dL_law_1477 := zr_dL_law_1477.1
noncomputable def zr_dL_law_1478 := zo_6 (q := 1479) zr_dL_law_1477.2 rfl
noncomputable def dL_law_1478 := zr_dL_law_1478.1
noncomputable def zr_dL_law_1479 := zo_96 (q := 1480) zr_dL_law_1478.2 rfl
noncomputable def dL_law_1479 := zr_dL_law_1479.1
noncomputable def zr_dL_law_1480 := zo_46 (q := 1481) zr_dL_law_1479.2 rfl
noncomputable def dL_law_1480 := zr_dL_law_1480.1
noncomputable def zr_dL_law_1481 := zo_42 (q := 1482) zr_dL_law_1480.2 rfl
noncomputable def dL_law_1481 := zr_dL_law_1481.1
noncomputable def zr_dL_law_1482 := zo_29 (q := 1483) zr_dL_law_1481.2 rfl
noncomputable def dL_law_1482 := zr_dL_law_1482.1
noncomputable def zr_dL_law_1483 := zo_7 (q := 1484) zr_dL_law_1482.2 rfl
noncomputable def dL_law_1483 := zr_dL_law_1483.1
noncomputable def zr_dL_law_1484 := zo_96 (q := 1485) zr_dL_law_1483.2 rfl
noncomputable def dL_law_1484 := zr_dL_law_1484.1
noncomputable def zr_dL_law_1485 := zo_46 (q := 1486) zr_dL_law_1484.2 rfl
noncomputable def dL_law_1485 := zr_dL_law_1485.1
noncomputable def zr_dL_law_1486 := zo_42 (q := 1487) zr_dL_law_1485.2 rfl
noncomputable def dL_law_1486 := zr_dL_law_1486.1
noncomputable def zr_dL_law_1487 := zo_29 (q := 1488) zr_dL_law_1486.2 rfl
noncomputable def dL_law_1487 := zr_dL_law_1487.1
noncomputable def zr_dL_law_1488 := zo_8 (q := 1489) zr_dL_law_1487.2 rfl
noncomputable def dL_law_1488 := zr_dL_law_1488.1
noncomputable def zr_dL_law_1489 := zo_96 (q := 1490) zr_dL_law_1488.2 rfl
noncomputable def dL_law_1489 := zr_dL_law_1489.1
noncomputable def zr_dL_law_1490 := zo_46 (q := 1491) zr_dL_law_1489.2 rfl
noncomputable def dL_law_1490 := zr_dL_law_1490.1
noncomputable def zr_dL_law_1491 := zo_182 (k := 153)  (q := 1494) zr_dL_law_1490.2 rfl rfl
noncomputable def dL_law_1491 := zr_dL_law_1491.1
noncomputable def zr_dL_law_1494 := zo_87 (q := 1495) zr_dL_law_1491.2 rfl
noncomputable def dL_law_1494 := zr_dL_law_1494.1
noncomputable def zr_dL_law_1495 := zo_44 (q := 1496) zr_dL_law_1494.2 rfl
noncomputable def dL_law_1495 := zr_dL_law_1495.1
noncomputable def zr_dL_law_1496 := zo_42 (q := 1497) zr_dL_law_1495.2 rfl
noncomputable def dL_law_1496 := zr_dL_law_1496.1
noncomputable def zr_dL_law_1497 := zo_29 (q := 1498) zr_dL_law_1496.2 rfl
noncomputable def dL_law_1497 := zr_dL_law_1497.1
noncomputable def zr_dL_law_1498 := zo_4 (q := 1499) zr_dL_law_1497.2 rfl
noncomputable def dL_law_1498 := zr_dL_law_1498.1
noncomputable def zr_dL_law_1499 := zo_96 (q := 1500) zr_dL_law_1498.2 rfl
noncomputable def dL_law_1499 := zr_dL_law_1499.1
noncomputable def zr_dL_law_1500 := zo_46 (q := 1501) zr_dL_law_1499.2 rfl
noncomputable def dL_law_1500 := zr_dL_law_1500.1
noncomputable def zr_dL_law_1501 := zo_42 (q := 1502) zr_dL_law_1500.2 rfl
noncomputable def dL_law_1501 := zr_dL_law_1501.1
noncomputable def zr_dL_law_1502 := zo_29 (q := 1503) zr_dL_law_1501.2 rfl
noncomputable def dL_law_1502 := zr_dL_law_1502.1
noncomputable def zr_dL_law_1503 := zo_5 (q := 1504) zr_dL_law_1502.2 rfl
noncomputable def dL_law_1503 := zr_dL_law_1503.1
noncomputable def zr_dL_law_1504 := zo_96 (q := 1505) zr_dL_law_1503.2 rfl
noncomputable def dL_law_1504 := zr_dL_law_1504.1
noncomputable def zr_dL_law_1505 := zo_46 (q := 1506) zr_dL_law_1504.2 rfl
noncomputable def dL_law_1505 := zr_dL_law_1505.1
noncomputable def zr_dL_law_1506 := zo_42 (q := 1507) zr_dL_law_1505.2 rfl
noncomputable def dL_law_1506 := zr_dL_law_1506.1
noncomputable def zr_dL_law_1507 := zo_29 (q := 1508) zr_dL_law_1506.2 rfl
noncomputable def dL_law_1507 := zr_dL_law_1507.1
noncomputable def zr_dL_law_1508 := zo_6 (q := 1509) zr_dL_law_1507.2 rfl
noncomputable def dL_law_1508 := zr_dL_law_1508.1
noncomputable def zr_dL_law_1509 := zo_96 (q := 1510) zr_dL_law_1508.2 rfl
noncomputable def dL_law_1509 := zr_dL_law_1509.1
noncomputable def zr_dL_law_1510 := zo_46 (q := 1511) zr_dL_law_1509.2 rfl
noncomputable def dL_law_1510 := zr_dL_law_1510.1
noncomputable def zr_dL_law_1511 := zo_42 (q := 1512) zr_dL_law_1510.2 rfl
noncomputable def dL_law_1511 := zr_dL_law_1511.1
noncomputable def zr_dL_law_1512 := zo_29 (q := 1513) zr_dL_law_1511.2 rfl
noncomputable def dL_law_1512 := zr_dL_law_1512.1
noncomputable def zr_dL_law_1513 := zo_7 (q := 1514) zr_dL_law_1512.2 rfl
noncomputable def dL_law_1513 := zr_dL_law_1513.1
noncomputable def zr_dL_law_1514 := zo_96 (q := 1515) zr_dL_law_1513.2 rfl
noncomputable def dL_law_1514 := zr_dL_law_1514.1
noncomputable def zr_dL_law_1515 := zo_46 (q := 1516) zr_dL_law_1514.2 rfl
noncomputable def dL_law_1515 := zr_dL_law_1515.1
noncomputable def zr_dL_law_1516 := zo_42 (q := 1517) zr_dL_law_1515.2 rfl
noncomputable def dL_law_1516 := zr_dL_law_1516.1
noncomputable def zr_dL_law_1517 := zo_29 (q := 1518) zr_dL_law_1516.2 rfl
noncomputable def dL_law_1517 := zr_dL_law_1517.1
noncomputable def zr_dL_law_1518 := zo_8 (q := 1519) zr_dL_law_1517.2 rfl
noncomputable def dL_law_1518 := zr_dL_law_1518.1
noncomputable def zr_dL_law_1519 := zo_96 (q := 1520) zr_dL_law_1518.2 rfl
noncomputable def dL_law_1519 := zr_dL_law_1519.1
noncomputable def zr_dL_law_1520 := zo_46 (q := 1521) zr_dL_law_1519.2 rfl
noncomputable def dL_law_1520 := zr_dL_law_1520.1
noncomputable def zr_dL_law_1521 := zo_182 (k := 156)  (q := 1524) zr_dL_law_1520.2 rfl rfl
noncomputable def dL_law_1521 := zr_dL_law_1521.1
noncomputable def zr_dL_law_1524 := zo_87 (q := 1525) zr_dL_law_1521.2 rfl
noncomputable def dL_law_1524 := zr_dL_law_1524.1
noncomputable def zr_dL_law_1525 := zo_167 (k := 89)  (q := 1528) zr_dL_law_1524.2 (by decide +kernel) rfl
noncomputable def dL_law_1525 := zr_dL_law_1525.1
noncomputable def zr_dL_law_1528 := zo_43 (q := 1529) zr_dL_law_1525.2 rfl
noncomputable def dL_law_1528 := zr_dL_law_1528.1
noncomputable def zr_dL_law_1529 := zo_42 (q := 1530) zr_dL_law_1528.2 rfl
noncomputable def dL_law_1529 := zr_dL_law_1529.1
noncomputable def zr_dL_law_1530 := zo_29 (q := 1531) zr_dL_law_1529.2 rfl
noncomputable def dL_law_1530 := zr_dL_law_1530.1
noncomputable def zr_dL_law_1531 := zo_4 (q := 1532) zr_dL_law_1530.2 rfl
noncomputable def dL_law_1531 := zr_dL_law_1531.1
noncomputable def zr_dL_law_1532 := zo_96 (q := 1533) zr_dL_law_1531.2 rfl
noncomputable def dL_law_1532 := zr_dL_law_1532.1
noncomputable def zr_dL_law_1533 := zo_46 (q := 1534) zr_dL_law_1532.2 rfl
noncomputable def dL_law_1533 := zr_dL_law_1533.1
noncomputable def zr_dL_law_1534 := zo_42 (q := 1535) zr_dL_law_1533.2 rfl
noncomputable def dL_law_1534 := zr_dL_law_1534.1
noncomputable def zr_dL_law_1535 := zo_29 (q := 1536) zr_dL_law_1534.2 rfl
noncomputable def dL_law_1535 := zr_dL_law_1535.1
noncomputable def zr_dL_law_1536 := zo_5 (q := 1537) zr_dL_law_1535.2 rfl
noncomputable def dL_law_1536 := zr_dL_law_1536.1
noncomputable def zr_dL_law_1537 := zo_96 (q := 1538) zr_dL_law_1536.2 rfl
noncomputable def dL_law_1537 := zr_dL_law_1537.1
noncomputable def zr_dL_law_1538 := zo_46 (q := 1539) zr_dL_law_1537.2 rfl
noncomputable def dL_law_1538 := zr_dL_law_1538.1
noncomputable def zr_dL_law_1539 := zo_42 (q := 1540) zr_dL_law_1538.2 rfl
noncomputable def dL_law_1539 := zr_dL_law_1539.1
noncomputable def zr_dL_law_1540 := zo_29 (q := 1541) zr_dL_law_1539.2 rfl
noncomputable def dL_law_1540 := zr_dL_law_1540.1
noncomputable def zr_dL_law_1541 := zo_6 (q := 1542) zr_dL_law_1540.2 rfl
noncomputable def dL_law_1541 := zr_dL_law_1541.1
noncomputable def zr_dL_law_1542 := zo_96 (q := 1543) zr_dL_law_1541.2 rfl
noncomputable def dL_law_1542 := zr_dL_law_1542.1
noncomputable def zr_dL_law_1543 := zo_46 (q := 1544) zr_dL_law_1542.2 rfl
noncomputable def dL_law_1543 := zr_dL_law_1543.1
noncomputable def zr_dL_law_1544 := zo_42 (q := 1545) zr_dL_law_1543.2 rfl
noncomputable def dL_law_1544 := zr_dL_law_1544.1
noncomputable def zr_dL_law_1545 := zo_29 (q := 1546) zr_dL_law_1544.2 rfl
noncomputable def dL_law_1545 := zr_dL_law_1545.1
noncomputable def zr_dL_law_1546 := zo_7 (q := 1547) zr_dL_law_1545.2 rfl
noncomputable def dL_law_1546 := zr_dL_law_1546.1
noncomputable def zr_dL_law_1547 := zo_96 (q := 1548) zr_dL_law_1546.2 rfl
noncomputable def dL_law_1547 := zr_dL_law_1547.1
noncomputable def zr_dL_law_1548 := zo_46 (q := 1549) zr_dL_law_1547.2 rfl
noncomputable def dL_law_1548 := zr_dL_law_1548.1
noncomputable def zr_dL_law_1549 := zo_182 (k := 157)  (q := 1552) zr_dL_law_1548.2 rfl rfl
noncomputable def dL_law_1549 := zr_dL_law_1549.1
noncomputable def zr_dL_law_1552 := zo_87 (q := 1553) zr_dL_law_1549.2 rfl
noncomputable def dL_law_1552 := zr_dL_law_1552.1
noncomputable def zr_dL_law_1553 := zo_44 (q := 1554) zr_dL_law_1552.2 rfl
noncomputable def dL_law_1553 := zr_dL_law_1553.1
noncomputable def zr_dL_law_1554 := zo_42 (q := 1555) zr_dL_law_1553.2 rfl
noncomputable def dL_law_1554 := zr_dL_law_1554.1
noncomputable def zr_dL_law_1555 := zo_29 (q := 1556) zr_dL_law_1554.2 rfl
noncomputable def dL_law_1555 := zr_dL_law_1555.1
noncomputable def zr_dL_law_1556 := zo_4 (q := 1557) zr_dL_law_1555.2 rfl
noncomputable def dL_law_1556 := zr_dL_law_1556.1
noncomputable def zr_dL_law_1557 := zo_96 (q := 1558) zr_dL_law_1556.2 rfl
noncomputable def dL_law_1557 := zr_dL_law_1557.1
noncomputable def zr_dL_law_1558 := zo_46 (q := 1559) zr_dL_law_1557.2 rfl
noncomputable def dL_law_1558 := zr_dL_law_1558.1
noncomputable def zr_dL_law_1559 := zo_42 (q := 1560) zr_dL_law_1558.2 rfl
noncomputable def dL_law_1559 := zr_dL_law_1559.1
noncomputable def zr_dL_law_1560 := zo_29 (q := 1561) zr_dL_law_1559.2 rfl
noncomputable def dL_law_1560 := zr_dL_law_1560.1
noncomputable def zr_dL_law_1561 := zo_5 (q := 1562) zr_dL_law_1560.2 rfl
noncomputable def dL_law_1561 := zr_dL_law_1561.1
noncomputable def zr_dL_law_1562 := zo_96 (q := 1563) zr_dL_law_1561.2 rfl
noncomputable def dL_law_1562 := zr_dL_law_1562.1
noncomputable def zr_dL_law_1563 := zo_46 (q := 1564) zr_dL_law_1562.2 rfl
noncomputable def dL_law_1563 := zr_dL_law_1563.1
noncomputable def zr_dL_law_1564 := zo_42 (q := 1565) zr_dL_law_1563.2 rfl
noncomputable def dL_law_1564 := zr_dL_law_1564.1
noncomputable def zr_dL_law_1565 := zo_29 (q := 1566) zr_dL_law_1564.2 rfl
noncomputable def dL_law_1565 := zr_dL_law_1565.1
noncomputable def zr_dL_law_1566 := zo_6 (q := 1567) zr_dL_law_1565.2 rfl
noncomputable def dL_law_1566 := zr_dL_law_1566.1
noncomputable def zr_dL_law_1567 := zo_96 (q := 1568) zr_dL_law_1566.2 rfl
noncomputable def dL_law_1567 := zr_dL_law_1567.1
noncomputable def zr_dL_law_1568 := zo_46 (q := 1569) zr_dL_law_1567.2 rfl
noncomputable def dL_law_1568 := zr_dL_law_1568.1
noncomputable def zr_dL_law_1569 := zo_42 (q := 1570) zr_dL_law_1568.2 rfl
noncomputable def dL_law_1569 := zr_dL_law_1569.1
noncomputable def zr_dL_law_1570 := zo_29 (q := 1571) zr_dL_law_1569.2 rfl
noncomputable def dL_law_1570 := zr_dL_law_1570.1
noncomputable def zr_dL_law_1571 := zo_7 (q := 1572) zr_dL_law_1570.2 rfl
noncomputable def dL_law_1571 := zr_dL_law_1571.1
noncomputable def zr_dL_law_1572 := zo_96 (q := 1573) zr_dL_law_1571.2 rfl
noncomputable def dL_law_1572 := zr_dL_law_1572.1
noncomputable def zr_dL_law_1573 := zo_46 (q := 1574) zr_dL_law_1572.2 rfl
noncomputable def dL_law_1573 := zr_dL_law_1573.1
noncomputable def zr_dL_law_1574 := zo_182 (k := 160)  (q := 1577) zr_dL_law_1573.2 rfl rfl
noncomputable def dL_law_1574 := zr_dL_law_1574.1
noncomputable def zr_dL_law_1577 := zo_87 (q := 1578) zr_dL_law_1574.2 rfl
noncomputable def dL_law_1577 := zr_dL_law_1577.1
noncomputable def zr_dL_law_1578 := zo_167 (k := 36)  (q := 1581) zr_dL_law_1577.2 (by decide +kernel) rfl
noncomputable def dL_law_1578 := zr_dL_law_1578.1
noncomputable def zr_dL_law_1581 := zo_43 (q := 1582) zr_dL_law_1578.2 rfl
noncomputable def dL_law_1581 := zr_dL_law_1581.1
noncomputable def zr_dL_law_1582 := zo_42 (q := 1583) zr_dL_law_1581.2 rfl
noncomputable def dL_law_1582 := zr_dL_law_1582.1
noncomputable def zr_dL_law_1583 := zo_29 (q := 1584) zr_dL_law_1582.2 rfl
noncomputable def dL_law_1583 := zr_dL_law_1583.1
noncomputable def zr_dL_law_1584 := zo_4 (q := 1585) zr_dL_law_1583.2 rfl
noncomputable def dL_law_1584 := zr_dL_law_1584.1
noncomputable def zr_dL_law_1585 := zo_96 (q := 1586) zr_dL_law_1584.2 rfl
noncomputable def dL_law_1585 := zr_dL_law_1585.1
noncomputable def zr_dL_law_1586 := zo_46 (q := 1587) zr_dL_law_1585.2 rfl
noncomputable def dL_law_1586 := zr_dL_law_1586.1
noncomputable def zr_dL_law_1587 := zo_42 (q := 1588) zr_dL_law_1586.2 rfl
noncomputable def dL_law_1587 := zr_dL_law_1587.1
noncomputable def zr_dL_law_1588 := zo_29 (q := 1589) zr_dL_law_1587.2 rfl
noncomputable def dL_law_1588 := zr_dL_law_1588.1
noncomputable def zr_dL_law_1589 := zo_5 (q := 1590) zr_dL_law_1588.2 rfl
noncomputable def dL_law_1589 := zr_dL_law_1589.1
noncomputable def zr_dL_law_1590 := zo_96 (q := 1591) zr_dL_law_1589.2 rfl
noncomputable def dL_law_1590 := zr_dL_law_1590.1
noncomputable def zr_dL_law_1591 := zo_46 (q := 1592) zr_dL_law_1590.2 rfl
noncomputable def dL_law_1591 := zr_dL_law_1591.1
noncomputable def zr_dL_law_1592 := zo_182 (k := 161)  (q := 1595) zr_dL_law_1591.2 rfl rfl
noncomputable def dL_law_1592 := zr_dL_law_1592.1
noncomputable def zr_dL_law_1595 := zo_88 (q := 1596) zr_dL_law_1592.2 rfl
noncomputable def dL_law_1595 := zr_dL_law_1595.1
noncomputable def zr_dL_law_1596 := zo_44 (q := 1597) zr_dL_law_1595.2 rfl
noncomputable def dL_law_1596 := zr_dL_law_1596.1
noncomputable def zr_dL_law_1597 := zo_42 (q := 1598) zr_dL_law_1596.2 rfl
noncomputable def dL_law_1597 := zr_dL_law_1597.1
noncomputable def zr_dL_law_1598 := zo_29 (q := 1599) zr_dL_law_1597.2 rfl
noncomputable def dL_law_1598 := zr_dL_law_1598.1
noncomputable def zr_dL_law_1599 := zo_4 (q := 1600) zr_dL_law_1598.2 rfl
noncomputable def dL_law_1599 := zr_dL_law_1599.1
noncomputable def zr_dL_law_1600 := zo_96 (q := 1601) zr_dL_law_1599.2 rfl
noncomputable def dL_law_1600 := zr_dL_law_1600.1
noncomputable def zr_dL_law_1601 := zo_46 (q := 1602) zr_dL_law_1600.2 rfl
noncomputable def dL_law_1601 := zr_dL_law_1601.1
noncomputable def zr_dL_law_1602 := zo_42 (q := 1603) zr_dL_law_1601.2 rfl
noncomputable def dL_law_1602 := zr_dL_law_1602.1
noncomputable def zr_dL_law_1603 := zo_29 (q := 1604) zr_dL_law_1602.2 rfl
noncomputable def dL_law_1603 := zr_dL_law_1603.1
noncomputable def zr_dL_law_1604 := zo_5 (q := 1605) zr_dL_law_1603.2 rfl
noncomputable def dL_law_1604 := zr_dL_law_1604.1
noncomputable def zr_dL_law_1605 := zo_96 (q := 1606) zr_dL_law_1604.2 rfl
noncomputable def dL_law_1605 := zr_dL_law_1605.1
noncomputable def zr_dL_law_1606 := zo_46 (q := 1607) zr_dL_law_1605.2 rfl
noncomputable def dL_law_1606 := zr_dL_law_1606.1
noncomputable def zr_dL_law_1607 := zo_182 (k := 165)  (q := 1610) zr_dL_law_1606.2 rfl rfl
noncomputable def dL_law_1607 := zr_dL_law_1607.1
noncomputable def zr_dL_law_1610 := zo_88 (q := 1611) zr_dL_law_1607.2 rfl
noncomputable def dL_law_1610 := zr_dL_law_1610.1
noncomputable def zr_dL_law_1611 := zo_167 (k := 3)  (q := 1614) zr_dL_law_1610.2 (by decide +kernel) rfl
noncomputable def dL_law_1611 := zr_dL_law_1611.1
noncomputable def zr_dL_law_1614 := zo_132 (k := 3) (o := 7)  (q := 1617) zr_dL_law_1611.2 rfl (by decide +kernel) rfl
noncomputable def dL_law_1614 := zr_dL_law_1614.1
noncomputable def zr_dL_law_1617 := zo_167 (k := -1599)  (q := 1620) zr_dL_law_1614.2 (by decide +kernel) rfl
noncomputable def dL_law_1617 := zr_dL_law_1617.1
noncomputable def zr_dL_law_1620 := zo_4 (q := 1621) zr_dL_law_1617.2 rfl
noncomputable def dL_law_1620 := zr_dL_law_1620.1
noncomputable def zr_dL_law_1621 := zo_172 (q := 1622) zr_dL_law_1620.2 rfl
noncomputable def dL_law_1621 := zr_dL_law_1621.1
