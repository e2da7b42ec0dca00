theorem zd90dec_0 : decode cL_law 0 = .ok (.new 7, 3) ∧ decode cL_law 3 = .ok (.dup, 1) ∧ decode cL_law 4 = .ok (.invokespecial 9, 3) ∧ decode cL_law 7 = .ok (.astore_n 1, 1) ∧ decode cL_law 8 = .ok (.new 10, 3) ∧ decode cL_law 11 = .ok (.dup, 1) ∧ decode cL_law 12 = .ok (.invokespecial 12, 3) ∧ decode cL_law 15 = .ok (.astore_n 2, 1) ∧ decode cL_law 16 = .ok (.iconst 0, 1) ∧ decode cL_law 17 = .ok (.istore_n 3, 1) ∧ decode cL_law 18 = .ok (.iload_n 3, 1) ∧ decode cL_law 19 = .ok (.aload_n 0, 1) := by decide +kernel
theorem dL_law_0 : decode cL_law 0 = .ok (.new 7, 3) := zd90dec_0.1
theorem dL_law_3 : decode cL_law 3 = .ok (.dup, 1) := zd90dec_0.2.1
theorem dL_law_4 : decode cL_law 4 = .ok (.invokespecial 9, 3) := zd90dec_0.2.2.1
theorem dL_law_7 : decode cL_law 7 = .ok (.astore_n 1, 1) := zd90dec_0.2.2.2.1
theorem dL_law_8 : decode cL_law 8 = .ok (.new 10, 3) := zd90dec_0.2.2.2.2.1
theorem dL_law_11 : decode cL_law 11 = .ok (.dup, 1) := zd90dec_0.2.2.2.2.2.1
theorem dL_law_12 : decode cL_law 12 = .ok (.invokespecial 12, 3) := zd90dec_0.2.2.2.2.2.2.1
theorem dL_law_15 : decode cL_law 15 = .ok (.astore_n 2, 1) := zd90dec_0.2.2.2.2.2.2.2.1
theorem dL_law_16 : decode cL_law 16 = .ok (.iconst 0, 1) := zd90dec_0.2.2.2.2.2.2.2.2.1
theorem dL_law_17 : decode cL_law 17 = .ok (.istore_n 3, 1) := zd90dec_0.2.2.2.2.2.2.2.2.2.1
theorem dL_law_18 : decode cL_law 18 = .ok (.iload_n 3, 1) := zd90dec_0.2.2.2.2.2.2.2.2.2.2.1
theorem dL_law_19 : decode cL_law 19 = .ok (.aload_n 0, 1) := zd90dec_0.2.2.2.2.2.2.2.2.2.2.2
theorem zd90dec_1 : decode cL_law 20 = .ok (.arraylength, 1) ∧ decode cL_law 21 = .ok (.bipush 7, 2) ∧ decode cL_law 23 = .ok (.isub, 1) ∧ decode cL_law 24 = .ok (.if_icmp .gt 1596, 3) ∧ decode cL_law 27 = .ok (.aload_n 0, 1) ∧ decode cL_law 28 = .ok (.iload_n 3, 1) ∧ decode cL_law 29 = .ok (.iaload, 1) ∧ decode cL_law 30 = .ok (.bipush 63, 2) ∧ decode cL_law 32 = .ok (.iand, 1) ∧ decode cL_law 33 = .ok (.tableswitch 1581 0 35 #[159, 182, 205, 248, 281, 356, 369, 392, 435, 468, 511, 544, 587, 640, 673, 706, 749, 782, 825, 868, 911, 944, 997, 1030, 1083, 1106, 1139, 1182, 1245, 1320, 1333, 1346, 1389, 1432, 1495, 1548], 159) ∧ decode cL_law 192 = .ok (.aload_n 1, 1) ∧ decode cL_law 193 = .ok (.aload_n 0, 1) := by decide +kernel
theorem dL_law_20 : decode cL_law 20 = .ok (.arraylength, 1) := zd90dec_1.1
theorem dL_law_21 : decode cL_law 21 = .ok (.bipush 7, 2) := zd90dec_1.2.1
theorem dL_law_23 : decode cL_law 23 = .ok (.isub, 1) := zd90dec_1.2.2.1
theorem dL_law_24 : decode cL_law 24 = .ok (.if_icmp .gt 1596, 3) := zd90dec_1.2.2.2.1
theorem dL_law_27 : decode cL_law 27 = .ok (.aload_n 0, 1) := zd90dec_1.2.2.2.2.1
theorem dL_law_28 : decode cL_law 28 = .ok (.iload_n 3, 1) := zd90dec_1.2.2.2.2.2.1
theorem dL_law_29 : decode cL_law 29 = .ok (.iaload, 1) := zd90dec_1.2.2.2.2.2.2.1
theorem dL_law_30 : decode cL_law 30 = .ok (.bipush 63, 2) := zd90dec_1.2.2.2.2.2.2.2.1
theorem dL_law_32 : decode cL_law 32 = .ok (.iand, 1) := zd90dec_1.2.2.2.2.2.2.2.2.1
theorem dL_law_33 : decode cL_law 33 = .ok (.tableswitch 1581 0 35 #[159, 182, 205, 248, 281, 356, 369, 392, 435, 468, 511, 544, 587, 640, 673, 706, 749, 782, 825, 868, 911, 944, 997, 1030, 1083, 1106, 1139, 1182, 1245, 1320, 1333, 1346, 1389, 1432, 1495, 1548], 159) := zd90dec_1.2.2.2.2.2.2.2.2.2.1
theorem dL_law_192 : decode cL_law 192 = .ok (.aload_n 1, 1) := zd90dec_1.2.2.2.2.2.2.2.2.2.2.1
theorem dL_law_193 : decode cL_law 193 = .ok (.aload_n 0, 1) := zd90dec_1.2.2.2.2.2.2.2.2.2.2.2
theorem zd90dec_2 : decode cL_law 194 = .ok (.iload_n 3, 1) ∧ decode cL_law 195 = .ok (.iconst 1, 1) ∧ decode cL_law 196 = .ok (.iadd, 1) ∧ decode cL_law 197 = .ok (.iaload, 1) ∧ decode cL_law 198 = .ok (.invokevirtual 13, 3) ∧ decode cL_law 201 = .ok (.pop, 1) ∧ decode cL_law 202 = .ok (.aload_n 2, 1) ∧ decode cL_law 203 = .ok (.aload_n 0, 1) ∧ decode cL_law 204 = .ok (.iload_n 3, 1) ∧ decode cL_law 205 = .ok (.iconst 1, 1) ∧ decode cL_law 206 = .ok (.iadd, 1) ∧ decode cL_law 207 = .ok (.iaload, 1) := by decide +kernel
theorem dL_law_194 : decode cL_law 194 = .ok (.iload_n 3, 1) := zd90dec_2.1
theorem dL_law_195 : decode cL_law 195 = .ok (.iconst 1, 1) := zd90dec_2.2.1
theorem dL_law_196 : decode cL_law 196 = .ok (.iadd, 1) := zd90dec_2.2.2.1
theorem dL_law_197 : decode cL_law 197 = .ok (.iaload, 1) := zd90dec_2.2.2.2.1
theorem dL_law_198 : decode cL_law 198 = .ok (.invokevirtual 13, 3) := zd90dec_2.2.2.2.2.1
theorem dL_law_201 : decode cL_law 201 = .ok (.pop, 1) := zd90dec_2.2.2.2.2.2.1
theorem dL_law_202 : decode cL_law 202 = .ok (.aload_n 2, 1) := zd90dec_2.2.2.2.2.2.2.1
theorem dL_law_203 : decode cL_law 203 = .ok (.aload_n 0, 1) := zd90dec_2.2.2.2.2.2.2.2.1
theorem dL_law_204 : decode cL_law 204 = .ok (.iload_n 3, 1) := zd90dec_2.2.2.2.2.2.2.2.2.1
theorem dL_law_205 : decode cL_law 205 = .ok (.iconst 1, 1) := zd90dec_2.2.2.2.2.2.2.2.2.2.1
theorem dL_law_206 : decode cL_law 206 = .ok (.iadd, 1) := zd90dec_2.2.2.2.2.2.2.2.2.2.2.1
theorem dL_law_207 : decode cL_law 207 = .ok (.iaload, 1) := zd90dec_2.2.2.2.2.2.2.2.2.2.2.2
theorem zd90dec_3 : decode cL_law 208 = .ok (.invokevirtual 17, 3) ∧ decode cL_law 211 = .ok (.pop, 1) ∧ decode cL_law 212 = .ok (.goto 1402, 3) ∧ decode cL_law 215 = .ok (.aload_n 1, 1) ∧ decode cL_law 216 = .ok (.aload_n 0, 1) ∧ decode cL_law 217 = .ok (.iload_n 3, 1) ∧ decode cL_law 218 = .ok (.iconst 1, 1) ∧ decode cL_law 219 = .ok (.iadd, 1) ∧ decode cL_law 220 = .ok (.iaload, 1) ∧ decode cL_law 221 = .ok (.invokevirtual 18, 3) ∧ decode cL_law 224 = .ok (.aload_n 2, 1) ∧ decode cL_law 225 = .ok (.aload_n 0, 1) := by decide +kernel
theorem dL_law_208 : decode cL_law 208 = .ok (.invokevirtual 17, 3) := zd90dec_3.1
theorem dL_law_211 : decode cL_law 211 = .ok (.pop, 1) := zd90dec_3.2.1
theorem dL_law_212 : decode cL_law 212 = .ok (.goto 1402, 3) := zd90dec_3.2.2.1
theorem dL_law_215 : decode cL_law 215 = .ok (.aload_n 1, 1) := zd90dec_3.2.2.2.1
theorem dL_law_216 : decode cL_law 216 = .ok (.aload_n 0, 1) := zd90dec_3.2.2.2.2.1
theorem dL_law_217 : decode cL_law 217 = .ok (.iload_n 3, 1) := zd90dec_3.2.2.2.2.2.1
theorem dL_law_218 : decode cL_law 218 = .ok (.iconst 1, 1) := zd90dec_3.2.2.2.2.2.2.1
theorem dL_law_219 : decode cL_law 219 = .ok (.iadd, 1) := zd90dec_3.2.2.2.2.2.2.2.1
theorem dL_law_220 : decode cL_law 220 = .ok (.iaload, 1) := zd90dec_3.2.2.2.2.2.2.2.2.1
theorem dL_law_221 : decode cL_law 221 = .ok (.invokevirtual 18, 3) := zd90dec_3.2.2.2.2.2.2.2.2.2.1
theorem dL_law_224 : decode cL_law 224 = .ok (.aload_n 2, 1) := zd90dec_3.2.2.2.2.2.2.2.2.2.2.1
theorem dL_law_225 : decode cL_law 225 = .ok (.aload_n 0, 1) := zd90dec_3.2.2.2.2.2.2.2.2.2.2.2
theorem zd90dec_4 : decode cL_law 226 = .ok (.iload_n 3, 1) ∧ decode cL_law 227 = .ok (.iconst 1, 1) ∧ decode cL_law 228 = .ok (.iadd, 1) ∧ decode cL_law 229 = .ok (.iaload, 1) ∧ decode cL_law 230 = .ok (.invokevirtual 21, 3) ∧ decode cL_law 233 = .ok (.if_icmp .eq 1381, 3) ∧ decode cL_law 236 = .ok (.iconst 0, 1) ∧ decode cL_law 237 = .ok (.ireturn, 1) ∧ decode cL_law 238 = .ok (.aload_n 1, 1) ∧ decode cL_law 239 = .ok (.aload_n 0, 1) ∧ decode cL_law 240 = .ok (.iload_n 3, 1) ∧ decode cL_law 241 = .ok (.iconst 1, 1) := by decide +kernel
theorem dL_law_226 : decode cL_law 226 = .ok (.iload_n 3, 1) := zd90dec_4.1
theorem dL_law_227 : decode cL_law 227 = .ok (.iconst 1, 1) := zd90dec_4.2.1
theorem dL_law_228 : decode cL_law 228 = .ok (.iadd, 1) := zd90dec_4.2.2.1
theorem dL_law_229 : decode cL_law 229 = .ok (.iaload, 1) := zd90dec_4.2.2.2.1
theorem dL_law_230 : decode cL_law 230 = .ok (.invokevirtual 21, 3) := zd90dec_4.2.2.2.2.1
theorem dL_law_233 : decode cL_law 233 = .ok (.if_icmp .eq 1381, 3) := zd90dec_4.2.2.2.2.2.1
theorem dL_law_236 : decode cL_law 236 = .ok (.iconst 0, 1) := zd90dec_4.2.2.2.2.2.2.1
theorem dL_law_237 : decode cL_law 237 = .ok (.ireturn, 1) := zd90dec_4.2.2.2.2.2.2.2.1
theorem dL_law_238 : decode cL_law 238 = .ok (.aload_n 1, 1) := zd90dec_4.2.2.2.2.2.2.2.2.1
theorem dL_law_239 : decode cL_law 239 = .ok (.aload_n 0, 1) := zd90dec_4.2.2.2.2.2.2.2.2.2.1
theorem dL_law_240 : decode cL_law 240 = .ok (.iload_n 3, 1) := zd90dec_4.2.2.2.2.2.2.2.2.2.2.1
theorem dL_law_241 : decode cL_law 241 = .ok (.iconst 1, 1) := zd90dec_4.2.2.2.2.2.2.2.2.2.2.2
theorem zd90dec_5 : decode cL_law 242 = .ok (.iadd, 1) ∧ decode cL_law 243 = .ok (.iaload, 1) ∧ decode cL_law 244 = .ok (.aload_n 0, 1) ∧ decode cL_law 245 = .ok (.iload_n 3, 1) ∧ decode cL_law 246 = .ok (.iconst 2, 1) ∧ decode cL_law 247 = .ok (.iadd, 1) ∧ decode cL_law 248 = .ok (.iaload, 1) ∧ decode cL_law 249 = .ok (.aload_n 0, 1) ∧ decode cL_law 250 = .ok (.iload_n 3, 1) ∧ decode cL_law 251 = .ok (.iconst 3, 1) ∧ decode cL_law 252 = .ok (.iadd, 1) ∧ decode cL_law 253 = .ok (.iaload, 1) := by decide +kernel
theorem dL_law_242 : decode cL_law 242 = .ok (.iadd, 1) := zd90dec_5.1
theorem dL_law_243 : decode cL_law 243 = .ok (.iaload, 1) := zd90dec_5.2.1
theorem dL_law_244 : decode cL_law 244 = .ok (.aload_n 0, 1) := zd90dec_5.2.2.1
theorem dL_law_245 : decode cL_law 245 = .ok (.iload_n 3, 1) := zd90dec_5.2.2.2.1
theorem dL_law_246 : decode cL_law 246 = .ok (.iconst 2, 1) := zd90dec_5.2.2.2.2.1
theorem dL_law_247 : decode cL_law 247 = .ok (.iadd, 1) := zd90dec_5.2.2.2.2.2.1
theorem dL_law_248 : decode cL_law 248 = .ok (.iaload, 1) := zd90dec_5.2.2.2.2.2.2.1
theorem dL_law_249 : decode cL_law 249 = .ok (.aload_n 0, 1) := zd90dec_5.2.2.2.2.2.2.2.1
theorem dL_law_250 : decode cL_law 250 = .ok (.iload_n 3, 1) := zd90dec_5.2.2.2.2.2.2.2.2.1
theorem dL_law_251 : decode cL_law 251 = .ok (.iconst 3, 1) := zd90dec_5.2.2.2.2.2.2.2.2.2.1
theorem dL_law_252 : decode cL_law 252 = .ok (.iadd, 1) := zd90dec_5.2.2.2.2.2.2.2.2.2.2.1
theorem dL_law_253 : decode cL_law 253 = .ok (.iaload, 1) := zd90dec_5.2.2.2.2.2.2.2.2.2.2.2
theorem zd90dec_6 : decode cL_law 254 = .ok (.invokevirtual 22, 3) ∧ decode cL_law 257 = .ok (.pop, 1) ∧ decode cL_law 258 = .ok (.aload_n 2, 1) ∧ decode cL_law 259 = .ok (.aload_n 0, 1) ∧ decode cL_law 260 = .ok (.iload_n 3, 1) ∧ decode cL_law 261 = .ok (.iconst 1, 1) ∧ decode cL_law 262 = .ok (.iadd, 1) ∧ decode cL_law 263 = .ok (.iaload, 1) ∧ decode cL_law 264 = .ok (.aload_n 0, 1) ∧ decode cL_law 265 = .ok (.iload_n 3, 1) ∧ decode cL_law 266 = .ok (.iconst 2, 1) ∧ decode cL_law 267 = .ok (.iadd, 1) := by decide +kernel
theorem dL_law_254 : decode cL_law 254 = .ok (.invokevirtual 22, 3) := zd90dec_6.1
theorem dL_law_257 : decode cL_law 257 = .ok (.pop, 1) := zd90dec_6.2.1
theorem dL_law_258 : decode cL_law 258 = .ok (.aload_n 2, 1) := zd90dec_6.2.2.1
theorem dL_law_259 : decode cL_law 259 = .ok (.aload_n 0, 1) := zd90dec_6.2.2.2.1
theorem dL_law_260 : decode cL_law 260 = .ok (.iload_n 3, 1) := zd90dec_6.2.2.2.2.1
theorem dL_law_261 : decode cL_law 261 = .ok (.iconst 1, 1) := zd90dec_6.2.2.2.2.2.1
theorem dL_law_262 : decode cL_law 262 = .ok (.iadd, 1) := zd90dec_6.2.2.2.2.2.2.1
theorem dL_law_263 : decode cL_law 263 = .ok (.iaload, 1) := zd90dec_6.2.2.2.2.2.2.2.1
theorem dL_law_264 : decode cL_law 264 = .ok (.aload_n 0, 1) := zd90dec_6.2.2.2.2.2.2.2.2.1
theorem dL_law_265 : decode cL_law 265 = .ok (.iload_n 3, 1) := zd90dec_6.2.2.2.2.2.2.2.2.2.1
theorem dL_law_266 : decode cL_law 266 = .ok (.iconst 2, 1) := zd90dec_6.2.2.2.2.2.2.2.2.2.2.1
theorem dL_law_267 : decode cL_law 267 = .ok (.iadd, 1) := zd90dec_6.2.2.2.2.2.2.2.2.2.2.2
theorem zd90dec_7 : decode cL_law 268 = .ok (.iaload, 1) ∧ decode cL_law 269 = .ok (.aload_n 0, 1) ∧ decode cL_law 270 = .ok (.iload_n 3, 1) ∧ decode cL_law 271 = .ok (.iconst 3, 1) ∧ decode cL_law 272 = .ok (.iadd, 1) ∧ decode cL_law 273 = .ok (.iaload, 1) ∧ decode cL_law 274 = .ok (.invokevirtual 26, 3) ∧ decode cL_law 277 = .ok (.pop, 1) ∧ decode cL_law 278 = .ok (.goto 1336, 3) ∧ decode cL_law 281 = .ok (.aload_n 1, 1) ∧ decode cL_law 282 = .ok (.aload_n 0, 1) ∧ decode cL_law 283 = .ok (.iload_n 3, 1) := by decide +kernel
theorem dL_law_268 : decode cL_law 268 = .ok (.iaload, 1) := zd90dec_7.1
theorem dL_law_269 : decode cL_law 269 = .ok (.aload_n 0, 1) := zd90dec_7.2.1
theorem dL_law_270 : decode cL_law 270 = .ok (.iload_n 3, 1) := zd90dec_7.2.2.1
theorem dL_law_271 : decode cL_law 271 = .ok (.iconst 3, 1) := zd90dec_7.2.2.2.1
theorem dL_law_272 : decode cL_law 272 = .ok (.iadd, 1) := zd90dec_7.2.2.2.2.1
theorem dL_law_273 : decode cL_law 273 = .ok (.iaload, 1) := zd90dec_7.2.2.2.2.2.1
theorem dL_law_274 : decode cL_law 274 = .ok (.invokevirtual 26, 3) := zd90dec_7.2.2.2.2.2.2.1
theorem dL_law_277 : decode cL_law 277 = .ok (.pop, 1) := zd90dec_7.2.2.2.2.2.2.2.1
theorem dL_law_278 : decode cL_law 278 = .ok (.goto 1336, 3) := zd90dec_7.2.2.2.2.2.2.2.2.1
theorem dL_law_281 : decode cL_law 281 = .ok (.aload_n 1, 1) := zd90dec_7.2.2.2.2.2.2.2.2.2.1
theorem dL_law_282 : decode cL_law 282 = .ok (.aload_n 0, 1) := zd90dec_7.2.2.2.2.2.2.2.2.2.2.1
theorem dL_law_283 : decode cL_law 283 = .ok (.iload_n 3, 1) := zd90dec_7.2.2.2.2.2.2.2.2.2.2.2
theorem zd90dec_8 : decode cL_law 284 = .ok (.iconst 1, 1) ∧ decode cL_law 285 = .ok (.iadd, 1) ∧ decode cL_law 286 = .ok (.iaload, 1) ∧ decode cL_law 287 = .ok (.aload_n 0, 1) ∧ decode cL_law 288 = .ok (.iload_n 3, 1) ∧ decode cL_law 289 = .ok (.iconst 2, 1) ∧ decode cL_law 290 = .ok (.iadd, 1) ∧ decode cL_law 291 = .ok (.iaload, 1) ∧ decode cL_law 292 = .ok (.invokevirtual 27, 3) ∧ decode cL_law 295 = .ok (.pop, 1) ∧ decode cL_law 296 = .ok (.aload_n 2, 1) ∧ decode cL_law 297 = .ok (.aload_n 0, 1) := by decide +kernel
theorem dL_law_284 : decode cL_law 284 = .ok (.iconst 1, 1) := zd90dec_8.1
theorem dL_law_285 : decode cL_law 285 = .ok (.iadd, 1) := zd90dec_8.2.1
theorem dL_law_286 : decode cL_law 286 = .ok (.iaload, 1) := zd90dec_8.2.2.1
theorem dL_law_287 : decode cL_law 287 = .ok (.aload_n 0, 1) := zd90dec_8.2.2.2.1
theorem dL_law_288 : decode cL_law 288 = .ok (.iload_n 3, 1) := zd90dec_8.2.2.2.2.1
theorem dL_law_289 : decode cL_law 289 = .ok (.iconst 2, 1) := zd90dec_8.2.2.2.2.2.1
theorem dL_law_290 : decode cL_law 290 = .ok (.iadd, 1) := zd90dec_8.2.2.2.2.2.2.1
theorem dL_law_291 : decode cL_law 291 = .ok (.iaload, 1) := zd90dec_8.2.2.2.2.2.2.2.1
theorem dL_law_292 : decode cL_law 292 = .ok (.invokevirtual 27, 3) := zd90dec_8.2.2.2.2.2.2.2.2.1
theorem dL_law_295 : decode cL_law 295 = .ok (.pop, 1) := zd90dec_8.2.2.2.2.2.2.2.2.2.1
theorem dL_law_296 : decode cL_law 296 = .ok (.aload_n 2, 1) := zd90dec_8.2.2.2.2.2.2.2.2.2.2.1
theorem dL_law_297 : decode cL_law 297 = .ok (.aload_n 0, 1) := zd90dec_8.2.2.2.2.2.2.2.2.2.2.2
theorem zd90dec_9 : decode cL_law 298 = .ok (.iload_n 3, 1) ∧ decode cL_law 299 = .ok (.iconst 1, 1) ∧ decode cL_law 300 = .ok (.iadd, 1) ∧ decode cL_law 301 = .ok (.iaload, 1) ∧ decode cL_law 302 = .ok (.aload_n 0, 1) ∧ decode cL_law 303 = .ok (.iload_n 3, 1) ∧ decode cL_law 304 = .ok (.iconst 2, 1) ∧ decode cL_law 305 = .ok (.iadd, 1) ∧ decode cL_law 306 = .ok (.iaload, 1) ∧ decode cL_law 307 = .ok (.invokevirtual 31, 3) ∧ decode cL_law 310 = .ok (.pop, 1) ∧ decode cL_law 311 = .ok (.goto 1303, 3) := by decide +kernel
theorem dL_law_298 : decode cL_law 298 = .ok (.iload_n 3, 1) := zd90dec_9.1
theorem dL_law_299 : decode cL_law 299 = .ok (.iconst 1, 1) := zd90dec_9.2.1
theorem dL_law_300 : decode cL_law 300 = .ok (.iadd, 1) := zd90dec_9.2.2.1
theorem dL_law_301 : decode cL_law 301 = .ok (.iaload, 1) := zd90dec_9.2.2.2.1
theorem dL_law_302 : decode cL_law 302 = .ok (.aload_n 0, 1) := zd90dec_9.2.2.2.2.1
theorem dL_law_303 : decode cL_law 303 = .ok (.iload_n 3, 1) := zd90dec_9.2.2.2.2.2.1
theorem dL_law_304 : decode cL_law 304 = .ok (.iconst 2, 1) := zd90dec_9.2.2.2.2.2.2.1
theorem dL_law_305 : decode cL_law 305 = .ok (.iadd, 1) := zd90dec_9.2.2.2.2.2.2.2.1
theorem dL_law_306 : decode cL_law 306 = .ok (.iaload, 1) := zd90dec_9.2.2.2.2.2.2.2.2.1
theorem dL_law_307 : decode cL_law 307 = .ok (.invokevirtual 31, 3) := zd90dec_9.2.2.2.2.2.2.2.2.2.1
theorem dL_law_310 : decode cL_law 310 = .ok (.pop, 1) := zd90dec_9.2.2.2.2.2.2.2.2.2.2.1
theorem dL_law_311 : decode cL_law 311 = .ok (.goto 1303, 3) := zd90dec_9.2.2.2.2.2.2.2.2.2.2.2
theorem zd90dec_10 : decode cL_law 314 = .ok (.aload_n 1, 1) ∧ decode cL_law 315 = .ok (.aload_n 0, 1) ∧ decode cL_law 316 = .ok (.iload_n 3, 1) ∧ decode cL_law 317 = .ok (.iconst 1, 1) ∧ decode cL_law 318 = .ok (.iadd, 1) ∧ decode cL_law 319 = .ok (.iaload, 1) ∧ decode cL_law 320 = .ok (.aload_n 0, 1) ∧ decode cL_law 321 = .ok (.iload_n 3, 1) ∧ decode cL_law 322 = .ok (.iconst 2, 1) ∧ decode cL_law 323 = .ok (.iadd, 1) ∧ decode cL_law 324 = .ok (.iaload, 1) ∧ decode cL_law 325 = .ok (.aload_n 0, 1) := by decide +kernel
theorem dL_law_314 : decode cL_law 314 = .ok (.aload_n 1, 1) := zd90dec_10.1
theorem dL_law_315 : decode cL_law 315 = .ok (.aload_n 0, 1) := zd90dec_10.2.1
theorem dL_law_316 : decode cL_law 316 = .ok (.iload_n 3, 1) := zd90dec_10.2.2.1
theorem dL_law_317 : decode cL_law 317 = .ok (.iconst 1, 1) := zd90dec_10.2.2.2.1
theorem dL_law_318 : decode cL_law 318 = .ok (.iadd, 1) := zd90dec_10.2.2.2.2.1
theorem dL_law_319 : decode cL_law 319 = .ok (.iaload, 1) := zd90dec_10.2.2.2.2.2.1
theorem dL_law_320 : decode cL_law 320 = .ok (.aload_n 0, 1) := zd90dec_10.2.2.2.2.2.2.1
theorem dL_law_321 : decode cL_law 321 = .ok (.iload_n 3, 1) := zd90dec_10.2.2.2.2.2.2.2.1
theorem dL_law_322 : decode cL_law 322 = .ok (.iconst 2, 1) := zd90dec_10.2.2.2.2.2.2.2.2.1
theorem dL_law_323 : decode cL_law 323 = .ok (.iadd, 1) := zd90dec_10.2.2.2.2.2.2.2.2.2.1
theorem dL_law_324 : decode cL_law 324 = .ok (.iaload, 1) := zd90dec_10.2.2.2.2.2.2.2.2.2.2.1
theorem dL_law_325 : decode cL_law 325 = .ok (.aload_n 0, 1) := zd90dec_10.2.2.2.2.2.2.2.2.2.2.2
theorem zd90dec_11 : decode cL_law 326 = .ok (.iload_n 3, 1) ∧ decode cL_law 327 = .ok (.iconst 3, 1) ∧ decode cL_law 328 = .ok (.iadd, 1) ∧ decode cL_law 329 = .ok (.iaload, 1) ∧ decode cL_law 330 = .ok (.aload_n 0, 1) ∧ decode cL_law 331 = .ok (.iload_n 3, 1) ∧ decode cL_law 332 = .ok (.iconst 4, 1) ∧ decode cL_law 333 = .ok (.iadd, 1) ∧ decode cL_law 334 = .ok (.iaload, 1) ∧ decode cL_law 335 = .ok (.aload_n 0, 1) ∧ decode cL_law 336 = .ok (.iload_n 3, 1) ∧ decode cL_law 337 = .ok (.iconst 5, 1) := by decide +kernel
theorem dL_law_326 : decode cL_law 326 = .ok (.iload_n 3, 1) := zd90dec_11.1
theorem dL_law_327 : decode cL_law 327 = .ok (.iconst 3, 1) := zd90dec_11.2.1
theorem dL_law_328 : decode cL_law 328 = .ok (.iadd, 1) := zd90dec_11.2.2.1
theorem dL_law_329 : decode cL_law 329 = .ok (.iaload, 1) := zd90dec_11.2.2.2.1
theorem dL_law_330 : decode cL_law 330 = .ok (.aload_n 0, 1) := zd90dec_11.2.2.2.2.1
theorem dL_law_331 : decode cL_law 331 = .ok (.iload_n 3, 1) := zd90dec_11.2.2.2.2.2.1
theorem dL_law_332 : decode cL_law 332 = .ok (.iconst 4, 1) := zd90dec_11.2.2.2.2.2.2.1
theorem dL_law_333 : decode cL_law 333 = .ok (.iadd, 1) := zd90dec_11.2.2.2.2.2.2.2.1
theorem dL_law_334 : decode cL_law 334 = .ok (.iaload, 1) := zd90dec_11.2.2.2.2.2.2.2.2.1
theorem dL_law_335 : decode cL_law 335 = .ok (.aload_n 0, 1) := zd90dec_11.2.2.2.2.2.2.2.2.2.1
theorem dL_law_336 : decode cL_law 336 = .ok (.iload_n 3, 1) := zd90dec_11.2.2.2.2.2.2.2.2.2.2.1
theorem dL_law_337 : decode cL_law 337 = .ok (.iconst 5, 1) := zd90dec_11.2.2.2.2.2.2.2.2.2.2.2
theorem zd90dec_12 : decode cL_law 338 = .ok (.iadd, 1) ∧ decode cL_law 339 = .ok (.iaload, 1) ∧ decode cL_law 340 = .ok (.aload_n 0, 1) ∧ decode cL_law 341 = .ok (.iload_n 3, 1) ∧ decode cL_law 342 = .ok (.bipush 6, 2) ∧ decode cL_law 344 = .ok (.iadd, 1) ∧ decode cL_law 345 = .ok (.iaload, 1) ∧ decode cL_law 346 = .ok (.invokevirtual 32, 3) ∧ decode cL_law 349 = .ok (.pop, 1) ∧ decode cL_law 350 = .ok (.aload_n 2, 1) ∧ decode cL_law 351 = .ok (.aload_n 0, 1) ∧ decode cL_law 352 = .ok (.iload_n 3, 1) := by decide +kernel
theorem dL_law_338 : decode cL_law 338 = .ok (.iadd, 1) := zd90dec_12.1
theorem dL_law_339 : decode cL_law 339 = .ok (.iaload, 1) := zd90dec_12.2.1
theorem dL_law_340 : decode cL_law 340 = .ok (.aload_n 0, 1) := zd90dec_12.2.2.1
theorem dL_law_341 : decode cL_law 341 = .ok (.iload_n 3, 1) := zd90dec_12.2.2.2.1
theorem dL_law_342 : decode cL_law 342 = .ok (.bipush 6, 2) := zd90dec_12.2.2.2.2.1
theorem dL_law_344 : decode cL_law 344 = .ok (.iadd, 1) := zd90dec_12.2.2.2.2.2.1
theorem dL_law_345 : decode cL_law 345 = .ok (.iaload, 1) := zd90dec_12.2.2.2.2.2.2.1
theorem dL_law_346 : decode cL_law 346 = .ok (.invokevirtual 32, 3) := zd90dec_12.2.2.2.2.2.2.2.1
theorem dL_law_349 : decode cL_law 349 = .ok (.pop, 1) := zd90dec_12.2.2.2.2.2.2.2.2.1
theorem dL_law_350 : decode cL_law 350 = .ok (.aload_n 2, 1) := zd90dec_12.2.2.2.2.2.2.2.2.2.1
theorem dL_law_351 : decode cL_law 351 = .ok (.aload_n 0, 1) := zd90dec_12.2.2.2.2.2.2.2.2.2.2.1
theorem dL_law_352 : decode cL_law 352 = .ok (.iload_n 3, 1) := zd90dec_12.2.2.2.2.2.2.2.2.2.2.2
theorem zd90dec_13 : decode cL_law 353 = .ok (.iconst 1, 1) ∧ decode cL_law 354 = .ok (.iadd, 1) ∧ decode cL_law 355 = .ok (.iaload, 1) ∧ decode cL_law 356 = .ok (.aload_n 0, 1) ∧ decode cL_law 357 = .ok (.iload_n 3, 1) ∧ decode cL_law 358 = .ok (.iconst 2, 1) ∧ decode cL_law 359 = .ok (.iadd, 1) ∧ decode cL_law 360 = .ok (.iaload, 1) ∧ decode cL_law 361 = .ok (.aload_n 0, 1) ∧ decode cL_law 362 = .ok (.iload_n 3, 1) ∧ decode cL_law 363 = .ok (.iconst 3, 1) ∧ decode cL_law 364 = .ok (.iadd, 1) := by decide +kernel
theorem dL_law_353 : decode cL_law 353 = .ok (.iconst 1, 1) := zd90dec_13.1
theorem dL_law_354 : decode cL_law 354 = .ok (.iadd, 1) := zd90dec_13.2.1
theorem dL_law_355 : decode cL_law 355 = .ok (.iaload, 1) := zd90dec_13.2.2.1
theorem dL_law_356 : decode cL_law 356 = .ok (.aload_n 0, 1) := zd90dec_13.2.2.2.1
theorem dL_law_357 : decode cL_law 357 = .ok (.iload_n 3, 1) := zd90dec_13.2.2.2.2.1
theorem dL_law_358 : decode cL_law 358 = .ok (.iconst 2, 1) := zd90dec_13.2.2.2.2.2.1
theorem dL_law_359 : decode cL_law 359 = .ok (.iadd, 1) := zd90dec_13.2.2.2.2.2.2.1
theorem dL_law_360 : decode cL_law 360 = .ok (.iaload, 1) := zd90dec_13.2.2.2.2.2.2.2.1
theorem dL_law_361 : decode cL_law 361 = .ok (.aload_n 0, 1) := zd90dec_13.2.2.2.2.2.2.2.2.1
theorem dL_law_362 : decode cL_law 362 = .ok (.iload_n 3, 1) := zd90dec_13.2.2.2.2.2.2.2.2.2.1
theorem dL_law_363 : decode cL_law 363 = .ok (.iconst 3, 1) := zd90dec_13.2.2.2.2.2.2.2.2.2.2.1
theorem dL_law_364 : decode cL_law 364 = .ok (.iadd, 1) := zd90dec_13.2.2.2.2.2.2.2.2.2.2.2
theorem zd90dec_14 : decode cL_law 365 = .ok (.iaload, 1) ∧ decode cL_law 366 = .ok (.aload_n 0, 1) ∧ decode cL_law 367 = .ok (.iload_n 3, 1) ∧ decode cL_law 368 = .ok (.iconst 4, 1) ∧ decode cL_law 369 = .ok (.iadd, 1) ∧ decode cL_law 370 = .ok (.iaload, 1) ∧ decode cL_law 371 = .ok (.aload_n 0, 1) ∧ decode cL_law 372 = .ok (.iload_n 3, 1) ∧ decode cL_law 373 = .ok (.iconst 5, 1) ∧ decode cL_law 374 = .ok (.iadd, 1) ∧ decode cL_law 375 = .ok (.iaload, 1) ∧ decode cL_law 376 = .ok (.aload_n 0, 1) := by decide +kernel
theorem dL_law_365 : decode cL_law 365 = .ok (.iaload, 1) := zd90dec_14.1
theorem dL_law_366 : decode cL_law 366 = .ok (.aload_n 0, 1) := zd90dec_14.2.1
theorem dL_law_367 : decode cL_law 367 = .ok (.iload_n 3, 1) := zd90dec_14.2.2.1
theorem dL_law_368 : decode cL_law 368 = .ok (.iconst 4, 1) := zd90dec_14.2.2.2.1
theorem dL_law_369 : decode cL_law 369 = .ok (.iadd, 1) := zd90dec_14.2.2.2.2.1
theorem dL_law_370 : decode cL_law 370 = .ok (.iaload, 1) := zd90dec_14.2.2.2.2.2.1
theorem dL_law_371 : decode cL_law 371 = .ok (.aload_n 0, 1) := zd90dec_14.2.2.2.2.2.2.1
theorem dL_law_372 : decode cL_law 372 = .ok (.iload_n 3, 1) := zd90dec_14.2.2.2.2.2.2.2.1
theorem dL_law_373 : decode cL_law 373 = .ok (.iconst 5, 1) := zd90dec_14.2.2.2.2.2.2.2.2.1
theorem dL_law_374 : decode cL_law 374 = .ok (.iadd, 1) := zd90dec_14.2.2.2.2.2.2.2.2.2.1
theorem dL_law_375 : decode cL_law 375 = .ok (.iaload, 1) := zd90dec_14.2.2.2.2.2.2.2.2.2.2.1
theorem dL_law_376 : decode cL_law 376 = .ok (.aload_n 0, 1) := zd90dec_14.2.2.2.2.2.2.2.2.2.2.2
theorem zd90dec_15 : decode cL_law 377 = .ok (.iload_n 3, 1) ∧ decode cL_law 378 = .ok (.bipush 6, 2) ∧ decode cL_law 380 = .ok (.iadd, 1) ∧ decode cL_law 381 = .ok (.iaload, 1) ∧ decode cL_law 382 = .ok (.invokevirtual 36, 3) ∧ decode cL_law 385 = .ok (.pop, 1) ∧ decode cL_law 386 = .ok (.goto 1228, 3) ∧ decode cL_law 389 = .ok (.aload_n 1, 1) ∧ decode cL_law 390 = .ok (.invokevirtual 37, 3) ∧ decode cL_law 393 = .ok (.pop, 1) ∧ decode cL_law 394 = .ok (.aload_n 2, 1) ∧ decode cL_law 395 = .ok (.invokevirtual 41, 3) := by decide +kernel
theorem dL_law_377 : decode cL_law 377 = .ok (.iload_n 3, 1) := zd90dec_15.1
theorem dL_law_378 : decode cL_law 378 = .ok (.bipush 6, 2) := zd90dec_15.2.1
theorem dL_law_380 : decode cL_law 380 = .ok (.iadd, 1) := zd90dec_15.2.2.1
theorem dL_law_381 : decode cL_law 381 = .ok (.iaload, 1) := zd90dec_15.2.2.2.1
theorem dL_law_382 : decode cL_law 382 = .ok (.invokevirtual 36, 3) := zd90dec_15.2.2.2.2.1
theorem dL_law_385 : decode cL_law 385 = .ok (.pop, 1) := zd90dec_15.2.2.2.2.2.1
theorem dL_law_386 : decode cL_law 386 = .ok (.goto 1228, 3) := zd90dec_15.2.2.2.2.2.2.1
theorem dL_law_389 : decode cL_law 389 = .ok (.aload_n 1, 1) := zd90dec_15.2.2.2.2.2.2.2.1
theorem dL_law_390 : decode cL_law 390 = .ok (.invokevirtual 37, 3) := zd90dec_15.2.2.2.2.2.2.2.2.1
theorem dL_law_393 : decode cL_law 393 = .ok (.pop, 1) := zd90dec_15.2.2.2.2.2.2.2.2.2.1
theorem dL_law_394 : decode cL_law 394 = .ok (.aload_n 2, 1) := zd90dec_15.2.2.2.2.2.2.2.2.2.2.1
theorem dL_law_395 : decode cL_law 395 = .ok (.invokevirtual 41, 3) := zd90dec_15.2.2.2.2.2.2.2.2.2.2.2
theorem zd90dec_16 : decode cL_law 398 = .ok (.pop, 1) ∧ decode cL_law 399 = .ok (.goto 1215, 3) ∧ decode cL_law 402 = .ok (.aload_n 1, 1) ∧ decode cL_law 403 = .ok (.aload_n 0, 1) ∧ decode cL_law 404 = .ok (.iload_n 3, 1) ∧ decode cL_law 405 = .ok (.iconst 1, 1) ∧ decode cL_law 406 = .ok (.iadd, 1) ∧ decode cL_law 407 = .ok (.iaload, 1) ∧ decode cL_law 408 = .ok (.invokevirtual 42, 3) ∧ decode cL_law 411 = .ok (.pop, 1) ∧ decode cL_law 412 = .ok (.aload_n 2, 1) ∧ decode cL_law 413 = .ok (.aload_n 0, 1) := by decide +kernel
theorem dL_law_398 : decode cL_law 398 = .ok (.pop, 1) := zd90dec_16.1
theorem dL_law_399 : decode cL_law 399 = .ok (.goto 1215, 3) := zd90dec_16.2.1
theorem dL_law_402 : decode cL_law 402 = .ok (.aload_n 1, 1) := zd90dec_16.2.2.1
theorem dL_law_403 : decode cL_law 403 = .ok (.aload_n 0, 1) := zd90dec_16.2.2.2.1
theorem dL_law_404 : decode cL_law 404 = .ok (.iload_n 3, 1) := zd90dec_16.2.2.2.2.1
theorem dL_law_405 : decode cL_law 405 = .ok (.iconst 1, 1) := zd90dec_16.2.2.2.2.2.1
theorem dL_law_406 : decode cL_law 406 = .ok (.iadd, 1) := zd90dec_16.2.2.2.2.2.2.1
theorem dL_law_407 : decode cL_law 407 = .ok (.iaload, 1) := zd90dec_16.2.2.2.2.2.2.2.1
theorem dL_law_408 : decode cL_law 408 = .ok (.invokevirtual 42, 3) := zd90dec_16.2.2.2.2.2.2.2.2.1
theorem dL_law_411 : decode cL_law 411 = .ok (.pop, 1) := zd90dec_16.2.2.2.2.2.2.2.2.2.1
theorem dL_law_412 : decode cL_law 412 = .ok (.aload_n 2, 1) := zd90dec_16.2.2.2.2.2.2.2.2.2.2.1
theorem dL_law_413 : decode cL_law 413 = .ok (.aload_n 0, 1) := zd90dec_16.2.2.2.2.2.2.2.2.2.2.2
theorem zd90dec_17 : decode cL_law 414 = .ok (.iload_n 3, 1) ∧ decode cL_law 415 = .ok (.iconst 1, 1) ∧ decode cL_law 416 = .ok (.iadd, 1) ∧ decode cL_law 417 = .ok (.iaload, 1) ∧ decode cL_law 418 = .ok (.invokevirtual 45, 3) ∧ decode cL_law 421 = .ok (.pop, 1) ∧ decode cL_law 422 = .ok (.goto 1192, 3) ∧ decode cL_law 425 = .ok (.aload_n 1, 1) ∧ decode cL_law 426 = .ok (.aload_n 0, 1) ∧ decode cL_law 427 = .ok (.iload_n 3, 1) ∧ decode cL_law 428 = .ok (.iconst 1, 1) ∧ decode cL_law 429 = .ok (.iadd, 1) := by decide +kernel
theorem dL_law_414 : decode cL_law 414 = .ok (.iload_n 3, 1) := zd90dec_17.1
theorem dL_law_415 : decode cL_law 415 = .ok (.iconst 1, 1) := zd90dec_17.2.1
theorem dL_law_416 : decode cL_law 416 = .ok (.iadd, 1) := zd90dec_17.2.2.1
theorem dL_law_417 : decode cL_law 417 = .ok (.iaload, 1) := zd90dec_17.2.2.2.1
theorem dL_law_418 : decode cL_law 418 = .ok (.invokevirtual 45, 3) := zd90dec_17.2.2.2.2.1
theorem dL_law_421 : decode cL_law 421 = .ok (.pop, 1) := zd90dec_17.2.2.2.2.2.1
theorem dL_law_422 : decode cL_law 422 = .ok (.goto 1192, 3) := zd90dec_17.2.2.2.2.2.2.1
theorem dL_law_425 : decode cL_law 425 = .ok (.aload_n 1, 1) := zd90dec_17.2.2.2.2.2.2.2.1
theorem dL_law_426 : decode cL_law 426 = .ok (.aload_n 0, 1) := zd90dec_17.2.2.2.2.2.2.2.2.1
theorem dL_law_427 : decode cL_law 427 = .ok (.iload_n 3, 1) := zd90dec_17.2.2.2.2.2.2.2.2.2.1
theorem dL_law_428 : decode cL_law 428 = .ok (.iconst 1, 1) := zd90dec_17.2.2.2.2.2.2.2.2.2.2.1
theorem dL_law_429 : decode cL_law 429 = .ok (.iadd, 1) := zd90dec_17.2.2.2.2.2.2.2.2.2.2.2
theorem zd90dec_18 : decode cL_law 430 = .ok (.iaload, 1) ∧ decode cL_law 431 = .ok (.aload_n 0, 1) ∧ decode cL_law 432 = .ok (.iload_n 3, 1) ∧ decode cL_law 433 = .ok (.iconst 2, 1) ∧ decode cL_law 434 = .ok (.iadd, 1) ∧ decode cL_law 435 = .ok (.iaload, 1) ∧ decode cL_law 436 = .ok (.aload_n 0, 1) ∧ decode cL_law 437 = .ok (.iload_n 3, 1) ∧ decode cL_law 438 = .ok (.iconst 3, 1) ∧ decode cL_law 439 = .ok (.iadd, 1) ∧ decode cL_law 440 = .ok (.iaload, 1) ∧ decode cL_law 441 = .ok (.invokevirtual 46, 3) := by decide +kernel
theorem dL_law_430 : decode cL_law 430 = .ok (.iaload, 1) := zd90dec_18.1
theorem dL_law_431 : decode cL_law 431 = .ok (.aload_n 0, 1) := zd90dec_18.2.1
theorem dL_law_432 : decode cL_law 432 = .ok (.iload_n 3, 1) := zd90dec_18.2.2.1
theorem dL_law_433 : decode cL_law 433 = .ok (.iconst 2, 1) := zd90dec_18.2.2.2.1
theorem dL_law_434 : decode cL_law 434 = .ok (.iadd, 1) := zd90dec_18.2.2.2.2.1
theorem dL_law_435 : decode cL_law 435 = .ok (.iaload, 1) := zd90dec_18.2.2.2.2.2.1
theorem dL_law_436 : decode cL_law 436 = .ok (.aload_n 0, 1) := zd90dec_18.2.2.2.2.2.2.1
theorem dL_law_437 : decode cL_law 437 = .ok (.iload_n 3, 1) := zd90dec_18.2.2.2.2.2.2.2.1
theorem dL_law_438 : decode cL_law 438 = .ok (.iconst 3, 1) := zd90dec_18.2.2.2.2.2.2.2.2.1
theorem dL_law_439 : decode cL_law 439 = .ok (.iadd, 1) := zd90dec_18.2.2.2.2.2.2.2.2.2.1
theorem dL_law_440 : decode cL_law 440 = .ok (.iaload, 1) := zd90dec_18.2.2.2.2.2.2.2.2.2.2.1
theorem dL_law_441 : decode cL_law 441 = .ok (.invokevirtual 46, 3) := zd90dec_18.2.2.2.2.2.2.2.2.2.2.2
theorem zd90dec_19 : decode cL_law 444 = .ok (.pop, 1) ∧ decode cL_law 445 = .ok (.aload_n 2, 1) ∧ decode cL_law 446 = .ok (.aload_n 0, 1) ∧ decode cL_law 447 = .ok (.iload_n 3, 1) ∧ decode cL_law 448 = .ok (.iconst 1, 1) ∧ decode cL_law 449 = .ok (.iadd, 1) ∧ decode cL_law 450 = .ok (.iaload, 1) ∧ decode cL_law 451 = .ok (.aload_n 0, 1) ∧ decode cL_law 452 = .ok (.iload_n 3, 1) ∧ decode cL_law 453 = .ok (.iconst 2, 1) ∧ decode cL_law 454 = .ok (.iadd, 1) ∧ decode cL_law 455 = .ok (.iaload, 1) := by decide +kernel
theorem dL_law_444 : decode cL_law 444 = .ok (.pop, 1) := zd90dec_19.1
theorem dL_law_445 : decode cL_law 445 = .ok (.aload_n 2, 1) := zd90dec_19.2.1
theorem dL_law_446 : decode cL_law 446 = .ok (.aload_n 0, 1) := zd90dec_19.2.2.1
theorem dL_law_447 : decode cL_law 447 = .ok (.iload_n 3, 1) := zd90dec_19.2.2.2.1
theorem dL_law_448 : decode cL_law 448 = .ok (.iconst 1, 1) := zd90dec_19.2.2.2.2.1
theorem dL_law_449 : decode cL_law 449 = .ok (.iadd, 1) := zd90dec_19.2.2.2.2.2.1
theorem dL_law_450 : decode cL_law 450 = .ok (.iaload, 1) := zd90dec_19.2.2.2.2.2.2.1
theorem dL_law_451 : decode cL_law 451 = .ok (.aload_n 0, 1) := zd90dec_19.2.2.2.2.2.2.2.1
theorem dL_law_452 : decode cL_law 452 = .ok (.iload_n 3, 1) := zd90dec_19.2.2.2.2.2.2.2.2.1
theorem dL_law_453 : decode cL_law 453 = .ok (.iconst 2, 1) := zd90dec_19.2.2.2.2.2.2.2.2.2.1
theorem dL_law_454 : decode cL_law 454 = .ok (.iadd, 1) := zd90dec_19.2.2.2.2.2.2.2.2.2.2.1
theorem dL_law_455 : decode cL_law 455 = .ok (.iaload, 1) := zd90dec_19.2.2.2.2.2.2.2.2.2.2.2
theorem zd90dec_20 : decode cL_law 456 = .ok (.aload_n 0, 1) ∧ decode cL_law 457 = .ok (.iload_n 3, 1) ∧ decode cL_law 458 = .ok (.iconst 3, 1) ∧ decode cL_law 459 = .ok (.iadd, 1) ∧ decode cL_law 460 = .ok (.iaload, 1) ∧ decode cL_law 461 = .ok (.invokevirtual 49, 3) ∧ decode cL_law 464 = .ok (.pop, 1) ∧ decode cL_law 465 = .ok (.goto 1149, 3) ∧ decode cL_law 468 = .ok (.aload_n 1, 1) ∧ decode cL_law 469 = .ok (.aload_n 0, 1) ∧ decode cL_law 470 = .ok (.iload_n 3, 1) ∧ decode cL_law 471 = .ok (.iconst 1, 1) := by decide +kernel
theorem dL_law_456 : decode cL_law 456 = .ok (.aload_n 0, 1) := zd90dec_20.1
theorem dL_law_457 : decode cL_law 457 = .ok (.iload_n 3, 1) := zd90dec_20.2.1
theorem dL_law_458 : decode cL_law 458 = .ok (.iconst 3, 1) := zd90dec_20.2.2.1
theorem dL_law_459 : decode cL_law 459 = .ok (.iadd, 1) := zd90dec_20.2.2.2.1
theorem dL_law_460 : decode cL_law 460 = .ok (.iaload, 1) := zd90dec_20.2.2.2.2.1
theorem dL_law_461 : decode cL_law 461 = .ok (.invokevirtual 49, 3) := zd90dec_20.2.2.2.2.2.1
theorem dL_law_464 : decode cL_law 464 = .ok (.pop, 1) := zd90dec_20.2.2.2.2.2.2.1
theorem dL_law_465 : decode cL_law 465 = .ok (.goto 1149, 3) := zd90dec_20.2.2.2.2.2.2.2.1
theorem dL_law_468 : decode cL_law 468 = .ok (.aload_n 1, 1) := zd90dec_20.2.2.2.2.2.2.2.2.1
theorem dL_law_469 : decode cL_law 469 = .ok (.aload_n 0, 1) := zd90dec_20.2.2.2.2.2.2.2.2.2.1
theorem dL_law_470 : decode cL_law 470 = .ok (.iload_n 3, 1) := zd90dec_20.2.2.2.2.2.2.2.2.2.2.1
theorem dL_law_471 : decode cL_law 471 = .ok (.iconst 1, 1) := zd90dec_20.2.2.2.2.2.2.2.2.2.2.2
theorem zd90dec_21 : decode cL_law 472 = .ok (.iadd, 1) ∧ decode cL_law 473 = .ok (.iaload, 1) ∧ decode cL_law 474 = .ok (.aload_n 0, 1) ∧ decode cL_law 475 = .ok (.iload_n 3, 1) ∧ decode cL_law 476 = .ok (.iconst 2, 1) ∧ decode cL_law 477 = .ok (.iadd, 1) ∧ decode cL_law 478 = .ok (.iaload, 1) ∧ decode cL_law 479 = .ok (.invokevirtual 50, 3) ∧ decode cL_law 482 = .ok (.pop, 1) ∧ decode cL_law 483 = .ok (.aload_n 2, 1) ∧ decode cL_law 484 = .ok (.aload_n 0, 1) ∧ decode cL_law 485 = .ok (.iload_n 3, 1) := by decide +kernel
theorem dL_law_472 : decode cL_law 472 = .ok (.iadd, 1) := zd90dec_21.1
theorem dL_law_473 : decode cL_law 473 = .ok (.iaload, 1) := zd90dec_21.2.1
theorem dL_law_474 : decode cL_law 474 = .ok (.aload_n 0, 1) := zd90dec_21.2.2.1
theorem dL_law_475 : decode cL_law 475 = .ok (.iload_n 3, 1) := zd90dec_21.2.2.2.1
theorem dL_law_476 : decode cL_law 476 = .ok (.iconst 2, 1) := zd90dec_21.2.2.2.2.1
theorem dL_law_477 : decode cL_law 477 = .ok (.iadd, 1) := zd90dec_21.2.2.2.2.2.1
theorem dL_law_478 : decode cL_law 478 = .ok (.iaload, 1) := zd90dec_21.2.2.2.2.2.2.1
theorem dL_law_479 : decode cL_law 479 = .ok (.invokevirtual 50, 3) := zd90dec_21.2.2.2.2.2.2.2.1
theorem dL_law_482 : decode cL_law 482 = .ok (.pop, 1) := zd90dec_21.2.2.2.2.2.2.2.2.1
theorem dL_law_483 : decode cL_law 483 = .ok (.aload_n 2, 1) := zd90dec_21.2.2.2.2.2.2.2.2.2.1
theorem dL_law_484 : decode cL_law 484 = .ok (.aload_n 0, 1) := zd90dec_21.2.2.2.2.2.2.2.2.2.2.1
theorem dL_law_485 : decode cL_law 485 = .ok (.iload_n 3, 1) := zd90dec_21.2.2.2.2.2.2.2.2.2.2.2
theorem zd90dec_22 : decode cL_law 486 = .ok (.iconst 1, 1) ∧ decode cL_law 487 = .ok (.iadd, 1) ∧ decode cL_law 488 = .ok (.iaload, 1) ∧ decode cL_law 489 = .ok (.aload_n 0, 1) ∧ decode cL_law 490 = .ok (.iload_n 3, 1) ∧ decode cL_law 491 = .ok (.iconst 2, 1) ∧ decode cL_law 492 = .ok (.iadd, 1) ∧ decode cL_law 493 = .ok (.iaload, 1) ∧ decode cL_law 494 = .ok (.invokevirtual 53, 3) ∧ decode cL_law 497 = .ok (.pop, 1) ∧ decode cL_law 498 = .ok (.goto 1116, 3) ∧ decode cL_law 501 = .ok (.aload_n 1, 1) := by decide +kernel
theorem dL_law_486 : decode cL_law 486 = .ok (.iconst 1, 1) := zd90dec_22.1
theorem dL_law_487 : decode cL_law 487 = .ok (.iadd, 1) := zd90dec_22.2.1
theorem dL_law_488 : decode cL_law 488 = .ok (.iaload, 1) := zd90dec_22.2.2.1
theorem dL_law_489 : decode cL_law 489 = .ok (.aload_n 0, 1) := zd90dec_22.2.2.2.1
theorem dL_law_490 : decode cL_law 490 = .ok (.iload_n 3, 1) := zd90dec_22.2.2.2.2.1
theorem dL_law_491 : decode cL_law 491 = .ok (.iconst 2, 1) := zd90dec_22.2.2.2.2.2.1
theorem dL_law_492 : decode cL_law 492 = .ok (.iadd, 1) := zd90dec_22.2.2.2.2.2.2.1
theorem dL_law_493 : decode cL_law 493 = .ok (.iaload, 1) := zd90dec_22.2.2.2.2.2.2.2.1
theorem dL_law_494 : decode cL_law 494 = .ok (.invokevirtual 53, 3) := zd90dec_22.2.2.2.2.2.2.2.2.1
theorem dL_law_497 : decode cL_law 497 = .ok (.pop, 1) := zd90dec_22.2.2.2.2.2.2.2.2.2.1
theorem dL_law_498 : decode cL_law 498 = .ok (.goto 1116, 3) := zd90dec_22.2.2.2.2.2.2.2.2.2.2.1
theorem dL_law_501 : decode cL_law 501 = .ok (.aload_n 1, 1) := zd90dec_22.2.2.2.2.2.2.2.2.2.2.2
theorem zd90dec_23 : decode cL_law 502 = .ok (.aload_n 0, 1) ∧ decode cL_law 503 = .ok (.iload_n 3, 1) ∧ decode cL_law 504 = .ok (.iconst 1, 1) ∧ decode cL_law 505 = .ok (.iadd, 1) ∧ decode cL_law 506 = .ok (.iaload, 1) ∧ decode cL_law 507 = .ok (.aload_n 0, 1) ∧ decode cL_law 508 = .ok (.iload_n 3, 1) ∧ decode cL_law 509 = .ok (.iconst 2, 1) ∧ decode cL_law 510 = .ok (.iadd, 1) ∧ decode cL_law 511 = .ok (.iaload, 1) ∧ decode cL_law 512 = .ok (.aload_n 0, 1) ∧ decode cL_law 513 = .ok (.iload_n 3, 1) := by decide +kernel
theorem dL_law_502 : decode cL_law 502 = .ok (.aload_n 0, 1) := zd90dec_23.1
theorem dL_law_503 : decode cL_law 503 = .ok (.iload_n 3, 1) := zd90dec_23.2.1
theorem dL_law_504 : decode cL_law 504 = .ok (.iconst 1, 1) := zd90dec_23.2.2.1
theorem dL_law_505 : decode cL_law 505 = .ok (.iadd, 1) := zd90dec_23.2.2.2.1
theorem dL_law_506 : decode cL_law 506 = .ok (.iaload, 1) := zd90dec_23.2.2.2.2.1
theorem dL_law_507 : decode cL_law 507 = .ok (.aload_n 0, 1) := zd90dec_23.2.2.2.2.2.1
theorem dL_law_508 : decode cL_law 508 = .ok (.iload_n 3, 1) := zd90dec_23.2.2.2.2.2.2.1
theorem dL_law_509 : decode cL_law 509 = .ok (.iconst 2, 1) := zd90dec_23.2.2.2.2.2.2.2.1
theorem dL_law_510 : decode cL_law 510 = .ok (.iadd, 1) := zd90dec_23.2.2.2.2.2.2.2.2.1
theorem dL_law_511 : decode cL_law 511 = .ok (.iaload, 1) := zd90dec_23.2.2.2.2.2.2.2.2.2.1
theorem dL_law_512 : decode cL_law 512 = .ok (.aload_n 0, 1) := zd90dec_23.2.2.2.2.2.2.2.2.2.2.1
theorem dL_law_513 : decode cL_law 513 = .ok (.iload_n 3, 1) := zd90dec_23.2.2.2.2.2.2.2.2.2.2.2
theorem zd90dec_24 : decode cL_law 514 = .ok (.iconst 3, 1) ∧ decode cL_law 515 = .ok (.iadd, 1) ∧ decode cL_law 516 = .ok (.iaload, 1) ∧ decode cL_law 517 = .ok (.invokevirtual 54, 3) ∧ decode cL_law 520 = .ok (.pop, 1) ∧ decode cL_law 521 = .ok (.aload_n 2, 1) ∧ decode cL_law 522 = .ok (.aload_n 0, 1) ∧ decode cL_law 523 = .ok (.iload_n 3, 1) ∧ decode cL_law 524 = .ok (.iconst 1, 1) ∧ decode cL_law 525 = .ok (.iadd, 1) ∧ decode cL_law 526 = .ok (.iaload, 1) ∧ decode cL_law 527 = .ok (.aload_n 0, 1) := by decide +kernel
theorem dL_law_514 : decode cL_law 514 = .ok (.iconst 3, 1) := zd90dec_24.1
theorem dL_law_515 : decode cL_law 515 = .ok (.iadd, 1) := zd90dec_24.2.1
theorem dL_law_516 : decode cL_law 516 = .ok (.iaload, 1) := zd90dec_24.2.2.1
theorem dL_law_517 : decode cL_law 517 = .ok (.invokevirtual 54, 3) := zd90dec_24.2.2.2.1
theorem dL_law_520 : decode cL_law 520 = .ok (.pop, 1) := zd90dec_24.2.2.2.2.1
theorem dL_law_521 : decode cL_law 521 = .ok (.aload_n 2, 1) := zd90dec_24.2.2.2.2.2.1
theorem dL_law_522 : decode cL_law 522 = .ok (.aload_n 0, 1) := zd90dec_24.2.2.2.2.2.2.1
theorem dL_law_523 : decode cL_law 523 = .ok (.iload_n 3, 1) := zd90dec_24.2.2.2.2.2.2.2.1
theorem dL_law_524 : decode cL_law 524 = .ok (.iconst 1, 1) := zd90dec_24.2.2.2.2.2.2.2.2.1
theorem dL_law_525 : decode cL_law 525 = .ok (.iadd, 1) := zd90dec_24.2.2.2.2.2.2.2.2.2.1
theorem dL_law_526 : decode cL_law 526 = .ok (.iaload, 1) := zd90dec_24.2.2.2.2.2.2.2.2.2.2.1
theorem dL_law_527 : decode cL_law 527 = .ok (.aload_n 0, 1) := zd90dec_24.2.2.2.2.2.2.2.2.2.2.2
theorem zd90dec_25 : decode cL_law 528 = .ok (.iload_n 3, 1) ∧ decode cL_law 529 = .ok (.iconst 2, 1) ∧ decode cL_law 530 = .ok (.iadd, 1) ∧ decode cL_law 531 = .ok (.iaload, 1) ∧ decode cL_law 532 = .ok (.aload_n 0, 1) ∧ decode cL_law 533 = .ok (.iload_n 3, 1) ∧ decode cL_law 534 = .ok (.iconst 3, 1) ∧ decode cL_law 535 = .ok (.iadd, 1) ∧ decode cL_law 536 = .ok (.iaload, 1) ∧ decode cL_law 537 = .ok (.invokevirtual 57, 3) ∧ decode cL_law 540 = .ok (.pop, 1) ∧ decode cL_law 541 = .ok (.goto 1073, 3) := by decide +kernel
theorem dL_law_528 : decode cL_law 528 = .ok (.iload_n 3, 1) := zd90dec_25.1
theorem dL_law_529 : decode cL_law 529 = .ok (.iconst 2, 1) := zd90dec_25.2.1
theorem dL_law_530 : decode cL_law 530 = .ok (.iadd, 1) := zd90dec_25.2.2.1
theorem dL_law_531 : decode cL_law 531 = .ok (.iaload, 1) := zd90dec_25.2.2.2.1
theorem dL_law_532 : decode cL_law 532 = .ok (.aload_n 0, 1) := zd90dec_25.2.2.2.2.1
theorem dL_law_533 : decode cL_law 533 = .ok (.iload_n 3, 1) := zd90dec_25.2.2.2.2.2.1
theorem dL_law_534 : decode cL_law 534 = .ok (.iconst 3, 1) := zd90dec_25.2.2.2.2.2.2.1
theorem dL_law_535 : decode cL_law 535 = .ok (.iadd, 1) := zd90dec_25.2.2.2.2.2.2.2.1
theorem dL_law_536 : decode cL_law 536 = .ok (.iaload, 1) := zd90dec_25.2.2.2.2.2.2.2.2.1
theorem dL_law_537 : decode cL_law 537 = .ok (.invokevirtual 57, 3) := zd90dec_25.2.2.2.2.2.2.2.2.2.1
theorem dL_law_540 : decode cL_law 540 = .ok (.pop, 1) := zd90dec_25.2.2.2.2.2.2.2.2.2.2.1
theorem dL_law_541 : decode cL_law 541 = .ok (.goto 1073, 3) := zd90dec_25.2.2.2.2.2.2.2.2.2.2.2
theorem zd90dec_26 : decode cL_law 544 = .ok (.aload_n 1, 1) ∧ decode cL_law 545 = .ok (.aload_n 0, 1) ∧ decode cL_law 546 = .ok (.iload_n 3, 1) ∧ decode cL_law 547 = .ok (.iconst 1, 1) ∧ decode cL_law 548 = .ok (.iadd, 1) ∧ decode cL_law 549 = .ok (.iaload, 1) ∧ decode cL_law 550 = .ok (.aload_n 0, 1) ∧ decode cL_law 551 = .ok (.iload_n 3, 1) ∧ decode cL_law 552 = .ok (.iconst 2, 1) ∧ decode cL_law 553 = .ok (.iadd, 1) ∧ decode cL_law 554 = .ok (.iaload, 1) ∧ decode cL_law 555 = .ok (.invokevirtual 58, 3) := by decide +kernel
theorem dL_law_544 : decode cL_law 544 = .ok (.aload_n 1, 1) := zd90dec_26.1
theorem dL_law_545 : decode cL_law 545 = .ok (.aload_n 0, 1) := zd90dec_26.2.1
theorem dL_law_546 : decode cL_law 546 = .ok (.iload_n 3, 1) := zd90dec_26.2.2.1
theorem dL_law_547 : decode cL_law 547 = .ok (.iconst 1, 1) := zd90dec_26.2.2.2.1
theorem dL_law_548 : decode cL_law 548 = .ok (.iadd, 1) := zd90dec_26.2.2.2.2.1
theorem dL_law_549 : decode cL_law 549 = .ok (.iaload, 1) := zd90dec_26.2.2.2.2.2.1
theorem dL_law_550 : decode cL_law 550 = .ok (.aload_n 0, 1) := zd90dec_26.2.2.2.2.2.2.1
theorem dL_law_551 : decode cL_law 551 = .ok (.iload_n 3, 1) := zd90dec_26.2.2.2.2.2.2.2.1
theorem dL_law_552 : decode cL_law 552 = .ok (.iconst 2, 1) := zd90dec_26.2.2.2.2.2.2.2.2.1
theorem dL_law_553 : decode cL_law 553 = .ok (.iadd, 1) := zd90dec_26.2.2.2.2.2.2.2.2.2.1
theorem dL_law_554 : decode cL_law 554 = .ok (.iaload, 1) := zd90dec_26.2.2.2.2.2.2.2.2.2.2.1
theorem dL_law_555 : decode cL_law 555 = .ok (.invokevirtual 58, 3) := zd90dec_26.2.2.2.2.2.2.2.2.2.2.2
theorem zd90dec_27 : decode cL_law 558 = .ok (.pop, 1) ∧ decode cL_law 559 = .ok (.aload_n 2, 1) ∧ decode cL_law 560 = .ok (.aload_n 0, 1) ∧ decode cL_law 561 = .ok (.iload_n 3, 1) ∧ decode cL_law 562 = .ok (.iconst 1, 1) ∧ decode cL_law 563 = .ok (.iadd, 1) ∧ decode cL_law 564 = .ok (.iaload, 1) ∧ decode cL_law 565 = .ok (.aload_n 0, 1) ∧ decode cL_law 566 = .ok (.iload_n 3, 1) ∧ decode cL_law 567 = .ok (.iconst 2, 1) ∧ decode cL_law 568 = .ok (.iadd, 1) ∧ decode cL_law 569 = .ok (.iaload, 1) := by decide +kernel
theorem dL_law_558 : decode cL_law 558 = .ok (.pop, 1) := zd90dec_27.1
theorem dL_law_559 : decode cL_law 559 = .ok (.aload_n 2, 1) := zd90dec_27.2.1
theorem dL_law_560 : decode cL_law 560 = .ok (.aload_n 0, 1) := zd90dec_27.2.2.1
theorem dL_law_561 : decode cL_law 561 = .ok (.iload_n 3, 1) := zd90dec_27.2.2.2.1
theorem dL_law_562 : decode cL_law 562 = .ok (.iconst 1, 1) := zd90dec_27.2.2.2.2.1
theorem dL_law_563 : decode cL_law 563 = .ok (.iadd, 1) := zd90dec_27.2.2.2.2.2.1
theorem dL_law_564 : decode cL_law 564 = .ok (.iaload, 1) := zd90dec_27.2.2.2.2.2.2.1
theorem dL_law_565 : decode cL_law 565 = .ok (.aload_n 0, 1) := zd90dec_27.2.2.2.2.2.2.2.1
theorem dL_law_566 : decode cL_law 566 = .ok (.iload_n 3, 1) := zd90dec_27.2.2.2.2.2.2.2.2.1
theorem dL_law_567 : decode cL_law 567 = .ok (.iconst 2, 1) := zd90dec_27.2.2.2.2.2.2.2.2.2.1
theorem dL_law_568 : decode cL_law 568 = .ok (.iadd, 1) := zd90dec_27.2.2.2.2.2.2.2.2.2.2.1
theorem dL_law_569 : decode cL_law 569 = .ok (.iaload, 1) := zd90dec_27.2.2.2.2.2.2.2.2.2.2.2
theorem zd90dec_28 : decode cL_law 570 = .ok (.invokevirtual 61, 3) ∧ decode cL_law 573 = .ok (.pop, 1) ∧ decode cL_law 574 = .ok (.goto 1040, 3) ∧ decode cL_law 577 = .ok (.aload_n 1, 1) ∧ decode cL_law 578 = .ok (.aload_n 0, 1) ∧ decode cL_law 579 = .ok (.iload_n 3, 1) ∧ decode cL_law 580 = .ok (.iconst 1, 1) ∧ decode cL_law 581 = .ok (.iadd, 1) ∧ decode cL_law 582 = .ok (.iaload, 1) ∧ decode cL_law 583 = .ok (.aload_n 0, 1) ∧ decode cL_law 584 = .ok (.iload_n 3, 1) ∧ decode cL_law 585 = .ok (.iconst 2, 1) := by decide +kernel
theorem dL_law_570 : decode cL_law 570 = .ok (.invokevirtual 61, 3) := zd90dec_28.1
theorem dL_law_573 : decode cL_law 573 = .ok (.pop, 1) := zd90dec_28.2.1
theorem dL_law_574 : decode cL_law 574 = .ok (.goto 1040, 3) := zd90dec_28.2.2.1
theorem dL_law_577 : decode cL_law 577 = .ok (.aload_n 1, 1) := zd90dec_28.2.2.2.1
theorem dL_law_578 : decode cL_law 578 = .ok (.aload_n 0, 1) := zd90dec_28.2.2.2.2.1
theorem dL_law_579 : decode cL_law 579 = .ok (.iload_n 3, 1) := zd90dec_28.2.2.2.2.2.1
theorem dL_law_580 : decode cL_law 580 = .ok (.iconst 1, 1) := zd90dec_28.2.2.2.2.2.2.1
theorem dL_law_581 : decode cL_law 581 = .ok (.iadd, 1) := zd90dec_28.2.2.2.2.2.2.2.1
theorem dL_law_582 : decode cL_law 582 = .ok (.iaload, 1) := zd90dec_28.2.2.2.2.2.2.2.2.1
theorem dL_law_583 : decode cL_law 583 = .ok (.aload_n 0, 1) := zd90dec_28.2.2.2.2.2.2.2.2.2.1
theorem dL_law_584 : decode cL_law 584 = .ok (.iload_n 3, 1) := zd90dec_28.2.2.2.2.2.2.2.2.2.2.1
theorem dL_law_585 : decode cL_law 585 = .ok (.iconst 2, 1) := zd90dec_28.2.2.2.2.2.2.2.2.2.2.2
theorem zd90dec_29 : decode cL_law 586 = .ok (.iadd, 1) ∧ decode cL_law 587 = .ok (.iaload, 1) ∧ decode cL_law 588 = .ok (.aload_n 0, 1) ∧ decode cL_law 589 = .ok (.iload_n 3, 1) ∧ decode cL_law 590 = .ok (.iconst 3, 1) ∧ decode cL_law 591 = .ok (.iadd, 1) ∧ decode cL_law 592 = .ok (.iaload, 1) ∧ decode cL_law 593 = .ok (.invokevirtual 62, 3) ∧ decode cL_law 596 = .ok (.pop, 1) ∧ decode cL_law 597 = .ok (.aload_n 2, 1) ∧ decode cL_law 598 = .ok (.aload_n 0, 1) ∧ decode cL_law 599 = .ok (.iload_n 3, 1) := by decide +kernel
theorem dL_law_586 : decode cL_law 586 = .ok (.iadd, 1) := zd90dec_29.1
theorem dL_law_587 : decode cL_law 587 = .ok (.iaload, 1) := zd90dec_29.2.1
theorem dL_law_588 : decode cL_law 588 = .ok (.aload_n 0, 1) := zd90dec_29.2.2.1
theorem dL_law_589 : decode cL_law 589 = .ok (.iload_n 3, 1) := zd90dec_29.2.2.2.1
theorem dL_law_590 : decode cL_law 590 = .ok (.iconst 3, 1) := zd90dec_29.2.2.2.2.1
theorem dL_law_591 : decode cL_law 591 = .ok (.iadd, 1) := zd90dec_29.2.2.2.2.2.1
theorem dL_law_592 : decode cL_law 592 = .ok (.iaload, 1) := zd90dec_29.2.2.2.2.2.2.1
theorem dL_law_593 : decode cL_law 593 = .ok (.invokevirtual 62, 3) := zd90dec_29.2.2.2.2.2.2.2.1
theorem dL_law_596 : decode cL_law 596 = .ok (.pop, 1) := zd90dec_29.2.2.2.2.2.2.2.2.1
theorem dL_law_597 : decode cL_law 597 = .ok (.aload_n 2, 1) := zd90dec_29.2.2.2.2.2.2.2.2.2.1
theorem dL_law_598 : decode cL_law 598 = .ok (.aload_n 0, 1) := zd90dec_29.2.2.2.2.2.2.2.2.2.2.1
theorem dL_law_599 : decode cL_law 599 = .ok (.iload_n 3, 1) := zd90dec_29.2.2.2.2.2.2.2.2.2.2.2
theorem zd90dec_30 : decode cL_law 600 = .ok (.iconst 1, 1) ∧ decode cL_law 601 = .ok (.iadd, 1) ∧ decode cL_law 602 = .ok (.iaload, 1) ∧ decode cL_law 603 = .ok (.aload_n 0, 1) ∧ decode cL_law 604 = .ok (.iload_n 3, 1) ∧ decode cL_law 605 = .ok (.iconst 2, 1) ∧ decode cL_law 606 = .ok (.iadd, 1) ∧ decode cL_law 607 = .ok (.iaload, 1) ∧ decode cL_law 608 = .ok (.aload_n 0, 1) ∧ decode cL_law 609 = .ok (.iload_n 3, 1) ∧ decode cL_law 610 = .ok (.iconst 3, 1) ∧ decode cL_law 611 = .ok (.iadd, 1) := by decide +kernel
theorem dL_law_600 : decode cL_law 600 = .ok (.iconst 1, 1) := zd90dec_30.1
theorem dL_law_601 : decode cL_law 601 = .ok (.iadd, 1) := zd90dec_30.2.1
theorem dL_law_602 : decode cL_law 602 = .ok (.iaload, 1) := zd90dec_30.2.2.1
theorem dL_law_603 : decode cL_law 603 = .ok (.aload_n 0, 1) := zd90dec_30.2.2.2.1
theorem dL_law_604 : decode cL_law 604 = .ok (.iload_n 3, 1) := zd90dec_30.2.2.2.2.1
theorem dL_law_605 : decode cL_law 605 = .ok (.iconst 2, 1) := zd90dec_30.2.2.2.2.2.1
theorem dL_law_606 : decode cL_law 606 = .ok (.iadd, 1) := zd90dec_30.2.2.2.2.2.2.1
theorem dL_law_607 : decode cL_law 607 = .ok (.iaload, 1) := zd90dec_30.2.2.2.2.2.2.2.1
theorem dL_law_608 : decode cL_law 608 = .ok (.aload_n 0, 1) := zd90dec_30.2.2.2.2.2.2.2.2.1
theorem dL_law_609 : decode cL_law 609 = .ok (.iload_n 3, 1) := zd90dec_30.2.2.2.2.2.2.2.2.2.1
theorem dL_law_610 : decode cL_law 610 = .ok (.iconst 3, 1) := zd90dec_30.2.2.2.2.2.2.2.2.2.2.1
theorem dL_law_611 : decode cL_law 611 = .ok (.iadd, 1) := zd90dec_30.2.2.2.2.2.2.2.2.2.2.2
theorem zd90dec_31 : decode cL_law 612 = .ok (.iaload, 1) ∧ decode cL_law 613 = .ok (.invokevirtual 65, 3) ∧ decode cL_law 616 = .ok (.pop, 1) ∧ decode cL_law 617 = .ok (.goto 997, 3) ∧ decode cL_law 620 = .ok (.aload_n 1, 1) ∧ decode cL_law 621 = .ok (.aload_n 0, 1) ∧ decode cL_law 622 = .ok (.iload_n 3, 1) ∧ decode cL_law 623 = .ok (.iconst 1, 1) ∧ decode cL_law 624 = .ok (.iadd, 1) ∧ decode cL_law 625 = .ok (.iaload, 1) ∧ decode cL_law 626 = .ok (.aload_n 0, 1) ∧ decode cL_law 627 = .ok (.iload_n 3, 1) := by decide +kernel
theorem dL_law_612 : decode cL_law 612 = .ok (.iaload, 1) := zd90dec_31.1
theorem dL_law_613 : decode cL_law 613 = .ok (.invokevirtual 65, 3) := zd90dec_31.2.1
theorem dL_law_616 : decode cL_law 616 = .ok (.pop, 1) := zd90dec_31.2.2.1
theorem dL_law_617 : decode cL_law 617 = .ok (.goto 997, 3) := zd90dec_31.2.2.2.1
theorem dL_law_620 : decode cL_law 620 = .ok (.aload_n 1, 1) := zd90dec_31.2.2.2.2.1
theorem dL_law_621 : decode cL_law 621 = .ok (.aload_n 0, 1) := zd90dec_31.2.2.2.2.2.1
theorem dL_law_622 : decode cL_law 622 = .ok (.iload_n 3, 1) := zd90dec_31.2.2.2.2.2.2.1
theorem dL_law_623 : decode cL_law 623 = .ok (.iconst 1, 1) := zd90dec_31.2.2.2.2.2.2.2.1
theorem dL_law_624 : decode cL_law 624 = .ok (.iadd, 1) := zd90dec_31.2.2.2.2.2.2.2.2.1
theorem dL_law_625 : decode cL_law 625 = .ok (.iaload, 1) := zd90dec_31.2.2.2.2.2.2.2.2.2.1
theorem dL_law_626 : decode cL_law 626 = .ok (.aload_n 0, 1) := zd90dec_31.2.2.2.2.2.2.2.2.2.2.1
theorem dL_law_627 : decode cL_law 627 = .ok (.iload_n 3, 1) := zd90dec_31.2.2.2.2.2.2.2.2.2.2.2
theorem zd90dec_32 : decode cL_law 628 = .ok (.iconst 2, 1) ∧ decode cL_law 629 = .ok (.iadd, 1) ∧ decode cL_law 630 = .ok (.iaload, 1) ∧ decode cL_law 631 = .ok (.aload_n 0, 1) ∧ decode cL_law 632 = .ok (.iload_n 3, 1) ∧ decode cL_law 633 = .ok (.iconst 3, 1) ∧ decode cL_law 634 = .ok (.iadd, 1) ∧ decode cL_law 635 = .ok (.iaload, 1) ∧ decode cL_law 636 = .ok (.aload_n 0, 1) ∧ decode cL_law 637 = .ok (.iload_n 3, 1) ∧ decode cL_law 638 = .ok (.iconst 4, 1) ∧ decode cL_law 639 = .ok (.iadd, 1) := by decide +kernel
theorem dL_law_628 : decode cL_law 628 = .ok (.iconst 2, 1) := zd90dec_32.1
theorem dL_law_629 : decode cL_law 629 = .ok (.iadd, 1) := zd90dec_32.2.1
theorem dL_law_630 : decode cL_law 630 = .ok (.iaload, 1) := zd90dec_32.2.2.1
theorem dL_law_631 : decode cL_law 631 = .ok (.aload_n 0, 1) := zd90dec_32.2.2.2.1
theorem dL_law_632 : decode cL_law 632 = .ok (.iload_n 3, 1) := zd90dec_32.2.2.2.2.1
theorem dL_law_633 : decode cL_law 633 = .ok (.iconst 3, 1) := zd90dec_32.2.2.2.2.2.1
theorem dL_law_634 : decode cL_law 634 = .ok (.iadd, 1) := zd90dec_32.2.2.2.2.2.2.1
theorem dL_law_635 : decode cL_law 635 = .ok (.iaload, 1) := zd90dec_32.2.2.2.2.2.2.2.1
theorem dL_law_636 : decode cL_law 636 = .ok (.aload_n 0, 1) := zd90dec_32.2.2.2.2.2.2.2.2.1
theorem dL_law_637 : decode cL_law 637 = .ok (.iload_n 3, 1) := zd90dec_32.2.2.2.2.2.2.2.2.2.1
theorem dL_law_638 : decode cL_law 638 = .ok (.iconst 4, 1) := zd90dec_32.2.2.2.2.2.2.2.2.2.2.1
theorem dL_law_639 : decode cL_law 639 = .ok (.iadd, 1) := zd90dec_32.2.2.2.2.2.2.2.2.2.2.2
theorem zd90dec_33 : decode cL_law 640 = .ok (.iaload, 1) ∧ decode cL_law 641 = .ok (.invokevirtual 66, 3) ∧ decode cL_law 644 = .ok (.pop, 1) ∧ decode cL_law 645 = .ok (.aload_n 2, 1) ∧ decode cL_law 646 = .ok (.aload_n 0, 1) ∧ decode cL_law 647 = .ok (.iload_n 3, 1) ∧ decode cL_law 648 = .ok (.iconst 1, 1) ∧ decode cL_law 649 = .ok (.iadd, 1) ∧ decode cL_law 650 = .ok (.iaload, 1) ∧ decode cL_law 651 = .ok (.aload_n 0, 1) ∧ decode cL_law 652 = .ok (.iload_n 3, 1) ∧ decode cL_law 653 = .ok (.iconst 2, 1) := by decide +kernel
theorem dL_law_640 : decode cL_law 640 = .ok (.iaload, 1) := zd90dec_33.1
theorem dL_law_641 : decode cL_law 641 = .ok (.invokevirtual 66, 3) := zd90dec_33.2.1
theorem dL_law_644 : decode cL_law 644 = .ok (.pop, 1) := zd90dec_33.2.2.1
theorem dL_law_645 : decode cL_law 645 = .ok (.aload_n 2, 1) := zd90dec_33.2.2.2.1
theorem dL_law_646 : decode cL_law 646 = .ok (.aload_n 0, 1) := zd90dec_33.2.2.2.2.1
theorem dL_law_647 : decode cL_law 647 = .ok (.iload_n 3, 1) := zd90dec_33.2.2.2.2.2.1
theorem dL_law_648 : decode cL_law 648 = .ok (.iconst 1, 1) := zd90dec_33.2.2.2.2.2.2.1
theorem dL_law_649 : decode cL_law 649 = .ok (.iadd, 1) := zd90dec_33.2.2.2.2.2.2.2.1
theorem dL_law_650 : decode cL_law 650 = .ok (.iaload, 1) := zd90dec_33.2.2.2.2.2.2.2.2.1
theorem dL_law_651 : decode cL_law 651 = .ok (.aload_n 0, 1) := zd90dec_33.2.2.2.2.2.2.2.2.2.1
theorem dL_law_652 : decode cL_law 652 = .ok (.iload_n 3, 1) := zd90dec_33.2.2.2.2.2.2.2.2.2.2.1
theorem dL_law_653 : decode cL_law 653 = .ok (.iconst 2, 1) := zd90dec_33.2.2.2.2.2.2.2.2.2.2.2
theorem zd90dec_34 : decode cL_law 654 = .ok (.iadd, 1) ∧ decode cL_law 655 = .ok (.iaload, 1) ∧ decode cL_law 656 = .ok (.aload_n 0, 1) ∧ decode cL_law 657 = .ok (.iload_n 3, 1) ∧ decode cL_law 658 = .ok (.iconst 3, 1) ∧ decode cL_law 659 = .ok (.iadd, 1) ∧ decode cL_law 660 = .ok (.iaload, 1) ∧ decode cL_law 661 = .ok (.aload_n 0, 1) ∧ decode cL_law 662 = .ok (.iload_n 3, 1) ∧ decode cL_law 663 = .ok (.iconst 4, 1) ∧ decode cL_law 664 = .ok (.iadd, 1) ∧ decode cL_law 665 = .ok (.iaload, 1) := by decide +kernel
theorem dL_law_654 : decode cL_law 654 = .ok (.iadd, 1) := zd90dec_34.1
theorem dL_law_655 : decode cL_law 655 = .ok (.iaload, 1) := zd90dec_34.2.1
theorem dL_law_656 : decode cL_law 656 = .ok (.aload_n 0, 1) := zd90dec_34.2.2.1
theorem dL_law_657 : decode cL_law 657 = .ok (.iload_n 3, 1) := zd90dec_34.2.2.2.1
theorem dL_law_658 : decode cL_law 658 = .ok (.iconst 3, 1) := zd90dec_34.2.2.2.2.1
theorem dL_law_659 : decode cL_law 659 = .ok (.iadd, 1) := zd90dec_34.2.2.2.2.2.1
theorem dL_law_660 : decode cL_law 660 = .ok (.iaload, 1) := zd90dec_34.2.2.2.2.2.2.1
theorem dL_law_661 : decode cL_law 661 = .ok (.aload_n 0, 1) := zd90dec_34.2.2.2.2.2.2.2.1
theorem dL_law_662 : decode cL_law 662 = .ok (.iload_n 3, 1) := zd90dec_34.2.2.2.2.2.2.2.2.1
theorem dL_law_663 : decode cL_law 663 = .ok (.iconst 4, 1) := zd90dec_34.2.2.2.2.2.2.2.2.2.1
theorem dL_law_664 : decode cL_law 664 = .ok (.iadd, 1) := zd90dec_34.2.2.2.2.2.2.2.2.2.2.1
theorem dL_law_665 : decode cL_law 665 = .ok (.iaload, 1) := zd90dec_34.2.2.2.2.2.2.2.2.2.2.2
theorem zd90dec_35 : decode cL_law 666 = .ok (.invokevirtual 70, 3) ∧ decode cL_law 669 = .ok (.pop, 1) ∧ decode cL_law 670 = .ok (.goto 944, 3) ∧ decode cL_law 673 = .ok (.aload_n 1, 1) ∧ decode cL_law 674 = .ok (.aload_n 0, 1) ∧ decode cL_law 675 = .ok (.iload_n 3, 1) ∧ decode cL_law 676 = .ok (.iconst 1, 1) ∧ decode cL_law 677 = .ok (.iadd, 1) ∧ decode cL_law 678 = .ok (.iaload, 1) ∧ decode cL_law 679 = .ok (.aload_n 0, 1) ∧ decode cL_law 680 = .ok (.iload_n 3, 1) ∧ decode cL_law 681 = .ok (.iconst 2, 1) := by decide +kernel
theorem dL_law_666 : decode cL_law 666 = .ok (.invokevirtual 70, 3) := zd90dec_35.1
theorem dL_law_669 : decode cL_law 669 = .ok (.pop, 1) := zd90dec_35.2.1
theorem dL_law_670 : decode cL_law 670 = .ok (.goto 944, 3) := zd90dec_35.2.2.1
theorem dL_law_673 : decode cL_law 673 = .ok (.aload_n 1, 1) := zd90dec_35.2.2.2.1
theorem dL_law_674 : decode cL_law 674 = .ok (.aload_n 0, 1) := zd90dec_35.2.2.2.2.1
theorem dL_law_675 : decode cL_law 675 = .ok (.iload_n 3, 1) := zd90dec_35.2.2.2.2.2.1
theorem dL_law_676 : decode cL_law 676 = .ok (.iconst 1, 1) := zd90dec_35.2.2.2.2.2.2.1
theorem dL_law_677 : decode cL_law 677 = .ok (.iadd, 1) := zd90dec_35.2.2.2.2.2.2.2.1
theorem dL_law_678 : decode cL_law 678 = .ok (.iaload, 1) := zd90dec_35.2.2.2.2.2.2.2.2.1
theorem dL_law_679 : decode cL_law 679 = .ok (.aload_n 0, 1) := zd90dec_35.2.2.2.2.2.2.2.2.2.1
theorem dL_law_680 : decode cL_law 680 = .ok (.iload_n 3, 1) := zd90dec_35.2.2.2.2.2.2.2.2.2.2.1
theorem dL_law_681 : decode cL_law 681 = .ok (.iconst 2, 1) := zd90dec_35.2.2.2.2.2.2.2.2.2.2.2
theorem zd90dec_36 : decode cL_law 682 = .ok (.iadd, 1) ∧ decode cL_law 683 = .ok (.iaload, 1) ∧ decode cL_law 684 = .ok (.invokevirtual 71, 3) ∧ decode cL_law 687 = .ok (.pop, 1) ∧ decode cL_law 688 = .ok (.aload_n 2, 1) ∧ decode cL_law 689 = .ok (.aload_n 0, 1) ∧ decode cL_law 690 = .ok (.iload_n 3, 1) ∧ decode cL_law 691 = .ok (.iconst 1, 1) ∧ decode cL_law 692 = .ok (.iadd, 1) ∧ decode cL_law 693 = .ok (.iaload, 1) ∧ decode cL_law 694 = .ok (.aload_n 0, 1) ∧ decode cL_law 695 = .ok (.iload_n 3, 1) := by decide +kernel
theorem dL_law_682 : decode cL_law 682 = .ok (.iadd, 1) := zd90dec_36.1
theorem dL_law_683 : decode cL_law 683 = .ok (.iaload, 1) := zd90dec_36.2.1
theorem dL_law_684 : decode cL_law 684 = .ok (.invokevirtual 71, 3) := zd90dec_36.2.2.1
theorem dL_law_687 : decode cL_law 687 = .ok (.pop, 1) := zd90dec_36.2.2.2.1
theorem dL_law_688 : decode cL_law 688 = .ok (.aload_n 2, 1) := zd90dec_36.2.2.2.2.1
theorem dL_law_689 : decode cL_law 689 = .ok (.aload_n 0, 1) := zd90dec_36.2.2.2.2.2.1
theorem dL_law_690 : decode cL_law 690 = .ok (.iload_n 3, 1) := zd90dec_36.2.2.2.2.2.2.1
theorem dL_law_691 : decode cL_law 691 = .ok (.iconst 1, 1) := zd90dec_36.2.2.2.2.2.2.2.1
theorem dL_law_692 : decode cL_law 692 = .ok (.iadd, 1) := zd90dec_36.2.2.2.2.2.2.2.2.1
theorem dL_law_693 : decode cL_law 693 = .ok (.iaload, 1) := zd90dec_36.2.2.2.2.2.2.2.2.2.1
theorem dL_law_694 : decode cL_law 694 = .ok (.aload_n 0, 1) := zd90dec_36.2.2.2.2.2.2.2.2.2.2.1
theorem dL_law_695 : decode cL_law 695 = .ok (.iload_n 3, 1) := zd90dec_36.2.2.2.2.2.2.2.2.2.2.2
theorem zd90dec_37 : decode cL_law 696 = .ok (.iconst 2, 1) ∧ decode cL_law 697 = .ok (.iadd, 1) ∧ decode cL_law 698 = .ok (.iaload, 1) ∧ decode cL_law 699 = .ok (.invokevirtual 74, 3) ∧ decode cL_law 702 = .ok (.pop, 1) ∧ decode cL_law 703 = .ok (.goto 911, 3) ∧ decode cL_law 706 = .ok (.aload_n 1, 1) ∧ decode cL_law 707 = .ok (.aload_n 0, 1) ∧ decode cL_law 708 = .ok (.iload_n 3, 1) ∧ decode cL_law 709 = .ok (.iconst 1, 1) ∧ decode cL_law 710 = .ok (.iadd, 1) ∧ decode cL_law 711 = .ok (.iaload, 1) := by decide +kernel
theorem dL_law_696 : decode cL_law 696 = .ok (.iconst 2, 1) := zd90dec_37.1
theorem dL_law_697 : decode cL_law 697 = .ok (.iadd, 1) := zd90dec_37.2.1
theorem dL_law_698 : decode cL_law 698 = .ok (.iaload, 1) := zd90dec_37.2.2.1
theorem dL_law_699 : decode cL_law 699 = .ok (.invokevirtual 74, 3) := zd90dec_37.2.2.2.1
theorem dL_law_702 : decode cL_law 702 = .ok (.pop, 1) := zd90dec_37.2.2.2.2.1
theorem dL_law_703 : decode cL_law 703 = .ok (.goto 911, 3) := zd90dec_37.2.2.2.2.2.1
theorem dL_law_706 : decode cL_law 706 = .ok (.aload_n 1, 1) := zd90dec_37.2.2.2.2.2.2.1
theorem dL_law_707 : decode cL_law 707 = .ok (.aload_n 0, 1) := zd90dec_37.2.2.2.2.2.2.2.1
theorem dL_law_708 : decode cL_law 708 = .ok (.iload_n 3, 1) := zd90dec_37.2.2.2.2.2.2.2.2.1
theorem dL_law_709 : decode cL_law 709 = .ok (.iconst 1, 1) := zd90dec_37.2.2.2.2.2.2.2.2.2.1
theorem dL_law_710 : decode cL_law 710 = .ok (.iadd, 1) := zd90dec_37.2.2.2.2.2.2.2.2.2.2.1
theorem dL_law_711 : decode cL_law 711 = .ok (.iaload, 1) := zd90dec_37.2.2.2.2.2.2.2.2.2.2.2
theorem zd90dec_38 : decode cL_law 712 = .ok (.aload_n 0, 1) ∧ decode cL_law 713 = .ok (.iload_n 3, 1) ∧ decode cL_law 714 = .ok (.iconst 2, 1) ∧ decode cL_law 715 = .ok (.iadd, 1) ∧ decode cL_law 716 = .ok (.iaload, 1) ∧ decode cL_law 717 = .ok (.invokevirtual 75, 3) ∧ decode cL_law 720 = .ok (.pop, 1) ∧ decode cL_law 721 = .ok (.aload_n 2, 1) ∧ decode cL_law 722 = .ok (.aload_n 0, 1) ∧ decode cL_law 723 = .ok (.iload_n 3, 1) ∧ decode cL_law 724 = .ok (.iconst 1, 1) ∧ decode cL_law 725 = .ok (.iadd, 1) := by decide +kernel
theorem dL_law_712 : decode cL_law 712 = .ok (.aload_n 0, 1) := zd90dec_38.1
theorem dL_law_713 : decode cL_law 713 = .ok (.iload_n 3, 1) := zd90dec_38.2.1
theorem dL_law_714 : decode cL_law 714 = .ok (.iconst 2, 1) := zd90dec_38.2.2.1
theorem dL_law_715 : decode cL_law 715 = .ok (.iadd, 1) := zd90dec_38.2.2.2.1
theorem dL_law_716 : decode cL_law 716 = .ok (.iaload, 1) := zd90dec_38.2.2.2.2.1
theorem dL_law_717 : decode cL_law 717 = .ok (.invokevirtual 75, 3) := zd90dec_38.2.2.2.2.2.1
theorem dL_law_720 : decode cL_law 720 = .ok (.pop, 1) := zd90dec_38.2.2.2.2.2.2.1
theorem dL_law_721 : decode cL_law 721 = .ok (.aload_n 2, 1) := zd90dec_38.2.2.2.2.2.2.2.1
theorem dL_law_722 : decode cL_law 722 = .ok (.aload_n 0, 1) := zd90dec_38.2.2.2.2.2.2.2.2.1
theorem dL_law_723 : decode cL_law 723 = .ok (.iload_n 3, 1) := zd90dec_38.2.2.2.2.2.2.2.2.2.1
theorem dL_law_724 : decode cL_law 724 = .ok (.iconst 1, 1) := zd90dec_38.2.2.2.2.2.2.2.2.2.2.1
theorem dL_law_725 : decode cL_law 725 = .ok (.iadd, 1) := zd90dec_38.2.2.2.2.2.2.2.2.2.2.2
theorem zd90dec_39 : decode cL_law 726 = .ok (.iaload, 1) ∧ decode cL_law 727 = .ok (.aload_n 0, 1) ∧ decode cL_law 728 = .ok (.iload_n 3, 1) ∧ decode cL_law 729 = .ok (.iconst 2, 1) ∧ decode cL_law 730 = .ok (.iadd, 1) ∧ decode cL_law 731 = .ok (.iaload, 1) ∧ decode cL_law 732 = .ok (.invokevirtual 78, 3) ∧ decode cL_law 735 = .ok (.pop, 1) ∧ decode cL_law 736 = .ok (.goto 878, 3) ∧ decode cL_law 739 = .ok (.aload_n 1, 1) ∧ decode cL_law 740 = .ok (.aload_n 0, 1) ∧ decode cL_law 741 = .ok (.iload_n 3, 1) := by decide +kernel
theorem dL_law_726 : decode cL_law 726 = .ok (.iaload, 1) := zd90dec_39.1
theorem dL_law_727 : decode cL_law 727 = .ok (.aload_n 0, 1) := zd90dec_39.2.1
theorem dL_law_728 : decode cL_law 728 = .ok (.iload_n 3, 1) := zd90dec_39.2.2.1
theorem dL_law_729 : decode cL_law 729 = .ok (.iconst 2, 1) := zd90dec_39.2.2.2.1
theorem dL_law_730 : decode cL_law 730 = .ok (.iadd, 1) := zd90dec_39.2.2.2.2.1
theorem dL_law_731 : decode cL_law 731 = .ok (.iaload, 1) := zd90dec_39.2.2.2.2.2.1
theorem dL_law_732 : decode cL_law 732 = .ok (.invokevirtual 78, 3) := zd90dec_39.2.2.2.2.2.2.1
theorem dL_law_735 : decode cL_law 735 = .ok (.pop, 1) := zd90dec_39.2.2.2.2.2.2.2.1
theorem dL_law_736 : decode cL_law 736 = .ok (.goto 878, 3) := zd90dec_39.2.2.2.2.2.2.2.2.1
theorem dL_law_739 : decode cL_law 739 = .ok (.aload_n 1, 1) := zd90dec_39.2.2.2.2.2.2.2.2.2.1
theorem dL_law_740 : decode cL_law 740 = .ok (.aload_n 0, 1) := zd90dec_39.2.2.2.2.2.2.2.2.2.2.1
theorem dL_law_741 : decode cL_law 741 = .ok (.iload_n 3, 1) := zd90dec_39.2.2.2.2.2.2.2.2.2.2.2
theorem zd90dec_40 : decode cL_law 742 = .ok (.iconst 1, 1) ∧ decode cL_law 743 = .ok (.iadd, 1) ∧ decode cL_law 744 = .ok (.iaload, 1) ∧ decode cL_law 745 = .ok (.aload_n 0, 1) ∧ decode cL_law 746 = .ok (.iload_n 3, 1) ∧ decode cL_law 747 = .ok (.iconst 2, 1) ∧ decode cL_law 748 = .ok (.iadd, 1) ∧ decode cL_law 749 = .ok (.iaload, 1) ∧ decode cL_law 750 = .ok (.aload_n 0, 1) ∧ decode cL_law 751 = .ok (.iload_n 3, 1) ∧ decode cL_law 752 = .ok (.iconst 3, 1) ∧ decode cL_law 753 = .ok (.iadd, 1) := by decide +kernel
theorem dL_law_742 : decode cL_law 742 = .ok (.iconst 1, 1) := zd90dec_40.1
theorem dL_law_743 : decode cL_law 743 = .ok (.iadd, 1) := zd90dec_40.2.1
theorem dL_law_744 : decode cL_law 744 = .ok (.iaload, 1) := zd90dec_40.2.2.1
theorem dL_law_745 : decode cL_law 745 = .ok (.aload_n 0, 1) := zd90dec_40.2.2.2.1
theorem dL_law_746 : decode cL_law 746 = .ok (.iload_n 3, 1) := zd90dec_40.2.2.2.2.1
theorem dL_law_747 : decode cL_law 747 = .ok (.iconst 2, 1) := zd90dec_40.2.2.2.2.2.1
theorem dL_law_748 : decode cL_law 748 = .ok (.iadd, 1) := zd90dec_40.2.2.2.2.2.2.1
theorem dL_law_749 : decode cL_law 749 = .ok (.iaload, 1) := zd90dec_40.2.2.2.2.2.2.2.1
theorem dL_law_750 : decode cL_law 750 = .ok (.aload_n 0, 1) := zd90dec_40.2.2.2.2.2.2.2.2.1
theorem dL_law_751 : decode cL_law 751 = .ok (.iload_n 3, 1) := zd90dec_40.2.2.2.2.2.2.2.2.2.1
theorem dL_law_752 : decode cL_law 752 = .ok (.iconst 3, 1) := zd90dec_40.2.2.2.2.2.2.2.2.2.2.1
theorem dL_law_753 : decode cL_law 753 = .ok (.iadd, 1) := zd90dec_40.2.2.2.2.2.2.2.2.2.2.2
theorem zd90dec_41 : decode cL_law 754 = .ok (.iaload, 1) ∧ decode cL_law 755 = .ok (.invokevirtual 79, 3) ∧ decode cL_law 758 = .ok (.pop, 1) ∧ decode cL_law 759 = .ok (.aload_n 2, 1) ∧ decode cL_law 760 = .ok (.aload_n 0, 1) ∧ decode cL_law 761 = .ok (.iload_n 3, 1) ∧ decode cL_law 762 = .ok (.iconst 1, 1) ∧ decode cL_law 763 = .ok (.iadd, 1) ∧ decode cL_law 764 = .ok (.iaload, 1) ∧ decode cL_law 765 = .ok (.aload_n 0, 1) ∧ decode cL_law 766 = .ok (.iload_n 3, 1) ∧ decode cL_law 767 = .ok (.iconst 2, 1) := by decide +kernel
theorem dL_law_754 : decode cL_law 754 = .ok (.iaload, 1) := zd90dec_41.1
theorem dL_law_755 : decode cL_law 755 = .ok (.invokevirtual 79, 3) := zd90dec_41.2.1
theorem dL_law_758 : decode cL_law 758 = .ok (.pop, 1) := zd90dec_41.2.2.1
theorem dL_law_759 : decode cL_law 759 = .ok (.aload_n 2, 1) := zd90dec_41.2.2.2.1
theorem dL_law_760 : decode cL_law 760 = .ok (.aload_n 0, 1) := zd90dec_41.2.2.2.2.1
theorem dL_law_761 : decode cL_law 761 = .ok (.iload_n 3, 1) := zd90dec_41.2.2.2.2.2.1
theorem dL_law_762 : decode cL_law 762 = .ok (.iconst 1, 1) := zd90dec_41.2.2.2.2.2.2.1
theorem dL_law_763 : decode cL_law 763 = .ok (.iadd, 1) := zd90dec_41.2.2.2.2.2.2.2.1
theorem dL_law_764 : decode cL_law 764 = .ok (.iaload, 1) := zd90dec_41.2.2.2.2.2.2.2.2.1
theorem dL_law_765 : decode cL_law 765 = .ok (.aload_n 0, 1) := zd90dec_41.2.2.2.2.2.2.2.2.2.1
theorem dL_law_766 : decode cL_law 766 = .ok (.iload_n 3, 1) := zd90dec_41.2.2.2.2.2.2.2.2.2.2.1
theorem dL_law_767 : decode cL_law 767 = .ok (.iconst 2, 1) := zd90dec_41.2.2.2.2.2.2.2.2.2.2.2
theorem zd90dec_42 : decode cL_law 768 = .ok (.iadd, 1) ∧ decode cL_law 769 = .ok (.iaload, 1) ∧ decode cL_law 770 = .ok (.aload_n 0, 1) ∧ decode cL_law 771 = .ok (.iload_n 3, 1) ∧ decode cL_law 772 = .ok (.iconst 3, 1) ∧ decode cL_law 773 = .ok (.iadd, 1) ∧ decode cL_law 774 = .ok (.iaload, 1) ∧ decode cL_law 775 = .ok (.invokevirtual 82, 3) ∧ decode cL_law 778 = .ok (.pop, 1) ∧ decode cL_law 779 = .ok (.goto 835, 3) ∧ decode cL_law 782 = .ok (.aload_n 1, 1) ∧ decode cL_law 783 = .ok (.aload_n 0, 1) := by decide +kernel
theorem dL_law_768 : decode cL_law 768 = .ok (.iadd, 1) := zd90dec_42.1
theorem dL_law_769 : decode cL_law 769 = .ok (.iaload, 1) := zd90dec_42.2.1
theorem dL_law_770 : decode cL_law 770 = .ok (.aload_n 0, 1) := zd90dec_42.2.2.1
theorem dL_law_771 : decode cL_law 771 = .ok (.iload_n 3, 1) := zd90dec_42.2.2.2.1
theorem dL_law_772 : decode cL_law 772 = .ok (.iconst 3, 1) := zd90dec_42.2.2.2.2.1
theorem dL_law_773 : decode cL_law 773 = .ok (.iadd, 1) := zd90dec_42.2.2.2.2.2.1
theorem dL_law_774 : decode cL_law 774 = .ok (.iaload, 1) := zd90dec_42.2.2.2.2.2.2.1
theorem dL_law_775 : decode cL_law 775 = .ok (.invokevirtual 82, 3) := zd90dec_42.2.2.2.2.2.2.2.1
theorem dL_law_778 : decode cL_law 778 = .ok (.pop, 1) := zd90dec_42.2.2.2.2.2.2.2.2.1
theorem dL_law_779 : decode cL_law 779 = .ok (.goto 835, 3) := zd90dec_42.2.2.2.2.2.2.2.2.2.1
theorem dL_law_782 : decode cL_law 782 = .ok (.aload_n 1, 1) := zd90dec_42.2.2.2.2.2.2.2.2.2.2.1
theorem dL_law_783 : decode cL_law 783 = .ok (.aload_n 0, 1) := zd90dec_42.2.2.2.2.2.2.2.2.2.2.2
theorem zd90dec_43 : decode cL_law 784 = .ok (.iload_n 3, 1) ∧ decode cL_law 785 = .ok (.iconst 1, 1) ∧ decode cL_law 786 = .ok (.iadd, 1) ∧ decode cL_law 787 = .ok (.iaload, 1) ∧ decode cL_law 788 = .ok (.aload_n 0, 1) ∧ decode cL_law 789 = .ok (.iload_n 3, 1) ∧ decode cL_law 790 = .ok (.iconst 2, 1) ∧ decode cL_law 791 = .ok (.iadd, 1) ∧ decode cL_law 792 = .ok (.iaload, 1) ∧ decode cL_law 793 = .ok (.invokevirtual 83, 3) ∧ decode cL_law 796 = .ok (.pop, 1) ∧ decode cL_law 797 = .ok (.aload_n 2, 1) := by decide +kernel
theorem dL_law_784 : decode cL_law 784 = .ok (.iload_n 3, 1) := zd90dec_43.1
theorem dL_law_785 : decode cL_law 785 = .ok (.iconst 1, 1) := zd90dec_43.2.1
theorem dL_law_786 : decode cL_law 786 = .ok (.iadd, 1) := zd90dec_43.2.2.1
theorem dL_law_787 : decode cL_law 787 = .ok (.iaload, 1) := zd90dec_43.2.2.2.1
theorem dL_law_788 : decode cL_law 788 = .ok (.aload_n 0, 1) := zd90dec_43.2.2.2.2.1
theorem dL_law_789 : decode cL_law 789 = .ok (.iload_n 3, 1) := zd90dec_43.2.2.2.2.2.1
theorem dL_law_790 : decode cL_law 790 = .ok (.iconst 2, 1) := zd90dec_43.2.2.2.2.2.2.1
theorem dL_law_791 : decode cL_law 791 = .ok (.iadd, 1) := zd90dec_43.2.2.2.2.2.2.2.1
theorem dL_law_792 : decode cL_law 792 = .ok (.iaload, 1) := zd90dec_43.2.2.2.2.2.2.2.2.1
theorem dL_law_793 : decode cL_law 793 = .ok (.invokevirtual 83, 3) := zd90dec_43.2.2.2.2.2.2.2.2.2.1
theorem dL_law_796 : decode cL_law 796 = .ok (.pop, 1) := zd90dec_43.2.2.2.2.2.2.2.2.2.2.1
theorem dL_law_797 : decode cL_law 797 = .ok (.aload_n 2, 1) := zd90dec_43.2.2.2.2.2.2.2.2.2.2.2
theorem zd90dec_44 : decode cL_law 798 = .ok (.aload_n 0, 1) ∧ decode cL_law 799 = .ok (.iload_n 3, 1) ∧ decode cL_law 800 = .ok (.iconst 1, 1) ∧ decode cL_law 801 = .ok (.iadd, 1) ∧ decode cL_law 802 = .ok (.iaload, 1) ∧ decode cL_law 803 = .ok (.aload_n 0, 1) ∧ decode cL_law 804 = .ok (.iload_n 3, 1) ∧ decode cL_law 805 = .ok (.iconst 2, 1) ∧ decode cL_law 806 = .ok (.iadd, 1) ∧ decode cL_law 807 = .ok (.iaload, 1) ∧ decode cL_law 808 = .ok (.invokevirtual 86, 3) ∧ decode cL_law 811 = .ok (.pop, 1) := by decide +kernel
theorem dL_law_798 : decode cL_law 798 = .ok (.aload_n 0, 1) := zd90dec_44.1
theorem dL_law_799 : decode cL_law 799 = .ok (.iload_n 3, 1) := zd90dec_44.2.1
theorem dL_law_800 : decode cL_law 800 = .ok (.iconst 1, 1) := zd90dec_44.2.2.1
theorem dL_law_801 : decode cL_law 801 = .ok (.iadd, 1) := zd90dec_44.2.2.2.1
theorem dL_law_802 : decode cL_law 802 = .ok (.iaload, 1) := zd90dec_44.2.2.2.2.1
theorem dL_law_803 : decode cL_law 803 = .ok (.aload_n 0, 1) := zd90dec_44.2.2.2.2.2.1
theorem dL_law_804 : decode cL_law 804 = .ok (.iload_n 3, 1) := zd90dec_44.2.2.2.2.2.2.1
theorem dL_law_805 : decode cL_law 805 = .ok (.iconst 2, 1) := zd90dec_44.2.2.2.2.2.2.2.1
theorem dL_law_806 : decode cL_law 806 = .ok (.iadd, 1) := zd90dec_44.2.2.2.2.2.2.2.2.1
theorem dL_law_807 : decode cL_law 807 = .ok (.iaload, 1) := zd90dec_44.2.2.2.2.2.2.2.2.2.1
theorem dL_law_808 : decode cL_law 808 = .ok (.invokevirtual 86, 3) := zd90dec_44.2.2.2.2.2.2.2.2.2.2.1
theorem dL_law_811 : decode cL_law 811 = .ok (.pop, 1) := zd90dec_44.2.2.2.2.2.2.2.2.2.2.2
theorem zd90dec_45 : decode cL_law 812 = .ok (.goto 802, 3) ∧ decode cL_law 815 = .ok (.aload_n 1, 1) ∧ decode cL_law 816 = .ok (.aload_n 0, 1) ∧ decode cL_law 817 = .ok (.iload_n 3, 1) ∧ decode cL_law 818 = .ok (.iconst 1, 1) ∧ decode cL_law 819 = .ok (.iadd, 1) ∧ decode cL_law 820 = .ok (.iaload, 1) ∧ decode cL_law 821 = .ok (.aload_n 0, 1) ∧ decode cL_law 822 = .ok (.iload_n 3, 1) ∧ decode cL_law 823 = .ok (.iconst 2, 1) ∧ decode cL_law 824 = .ok (.iadd, 1) ∧ decode cL_law 825 = .ok (.iaload, 1) := by decide +kernel
theorem dL_law_812 : decode cL_law 812 = .ok (.goto 802, 3) := zd90dec_45.1
theorem dL_law_815 : decode cL_law 815 = .ok (.aload_n 1, 1) := zd90dec_45.2.1
theorem dL_law_816 : decode cL_law 816 = .ok (.aload_n 0, 1) := zd90dec_45.2.2.1
theorem dL_law_817 : decode cL_law 817 = .ok (.iload_n 3, 1) := zd90dec_45.2.2.2.1
theorem dL_law_818 : decode cL_law 818 = .ok (.iconst 1, 1) := zd90dec_45.2.2.2.2.1
theorem dL_law_819 : decode cL_law 819 = .ok (.iadd, 1) := zd90dec_45.2.2.2.2.2.1
theorem dL_law_820 : decode cL_law 820 = .ok (.iaload, 1) := zd90dec_45.2.2.2.2.2.2.1
theorem dL_law_821 : decode cL_law 821 = .ok (.aload_n 0, 1) := zd90dec_45.2.2.2.2.2.2.2.1
theorem dL_law_822 : decode cL_law 822 = .ok (.iload_n 3, 1) := zd90dec_45.2.2.2.2.2.2.2.2.1
theorem dL_law_823 : decode cL_law 823 = .ok (.iconst 2, 1) := zd90dec_45.2.2.2.2.2.2.2.2.2.1
theorem dL_law_824 : decode cL_law 824 = .ok (.iadd, 1) := zd90dec_45.2.2.2.2.2.2.2.2.2.2.1
theorem dL_law_825 : decode cL_law 825 = .ok (.iaload, 1) := zd90dec_45.2.2.2.2.2.2.2.2.2.2.2
theorem zd90dec_46 : decode cL_law 826 = .ok (.aload_n 0, 1) ∧ decode cL_law 827 = .ok (.iload_n 3, 1) ∧ decode cL_law 828 = .ok (.iconst 3, 1) ∧ decode cL_law 829 = .ok (.iadd, 1) ∧ decode cL_law 830 = .ok (.iaload, 1) ∧ decode cL_law 831 = .ok (.invokevirtual 87, 3) ∧ decode cL_law 834 = .ok (.pop, 1) ∧ decode cL_law 835 = .ok (.aload_n 2, 1) ∧ decode cL_law 836 = .ok (.aload_n 0, 1) ∧ decode cL_law 837 = .ok (.iload_n 3, 1) ∧ decode cL_law 838 = .ok (.iconst 1, 1) ∧ decode cL_law 839 = .ok (.iadd, 1) := by decide +kernel
theorem dL_law_826 : decode cL_law 826 = .ok (.aload_n 0, 1) := zd90dec_46.1
theorem dL_law_827 : decode cL_law 827 = .ok (.iload_n 3, 1) := zd90dec_46.2.1
theorem dL_law_828 : decode cL_law 828 = .ok (.iconst 3, 1) := zd90dec_46.2.2.1
theorem dL_law_829 : decode cL_law 829 = .ok (.iadd, 1) := zd90dec_46.2.2.2.1
theorem dL_law_830 : decode cL_law 830 = .ok (.iaload, 1) := zd90dec_46.2.2.2.2.1
theorem dL_law_831 : decode cL_law 831 = .ok (.invokevirtual 87, 3) := zd90dec_46.2.2.2.2.2.1
theorem dL_law_834 : decode cL_law 834 = .ok (.pop, 1) := zd90dec_46.2.2.2.2.2.2.1
theorem dL_law_835 : decode cL_law 835 = .ok (.aload_n 2, 1) := zd90dec_46.2.2.2.2.2.2.2.1
theorem dL_law_836 : decode cL_law 836 = .ok (.aload_n 0, 1) := zd90dec_46.2.2.2.2.2.2.2.2.1
theorem dL_law_837 : decode cL_law 837 = .ok (.iload_n 3, 1) := zd90dec_46.2.2.2.2.2.2.2.2.2.1
theorem dL_law_838 : decode cL_law 838 = .ok (.iconst 1, 1) := zd90dec_46.2.2.2.2.2.2.2.2.2.2.1
theorem dL_law_839 : decode cL_law 839 = .ok (.iadd, 1) := zd90dec_46.2.2.2.2.2.2.2.2.2.2.2
theorem zd90dec_47 : decode cL_law 840 = .ok (.iaload, 1) ∧ decode cL_law 841 = .ok (.aload_n 0, 1) ∧ decode cL_law 842 = .ok (.iload_n 3, 1) ∧ decode cL_law 843 = .ok (.iconst 2, 1) ∧ decode cL_law 844 = .ok (.iadd, 1) ∧ decode cL_law 845 = .ok (.iaload, 1) ∧ decode cL_law 846 = .ok (.aload_n 0, 1) ∧ decode cL_law 847 = .ok (.iload_n 3, 1) ∧ decode cL_law 848 = .ok (.iconst 3, 1) ∧ decode cL_law 849 = .ok (.iadd, 1) ∧ decode cL_law 850 = .ok (.iaload, 1) ∧ decode cL_law 851 = .ok (.invokevirtual 90, 3) := by decide +kernel
theorem dL_law_840 : decode cL_law 840 = .ok (.iaload, 1) := zd90dec_47.1
theorem dL_law_841 : decode cL_law 841 = .ok (.aload_n 0, 1) := zd90dec_47.2.1
theorem dL_law_842 : decode cL_law 842 = .ok (.iload_n 3, 1) := zd90dec_47.2.2.1
theorem dL_law_843 : decode cL_law 843 = .ok (.iconst 2, 1) := zd90dec_47.2.2.2.1
theorem dL_law_844 : decode cL_law 844 = .ok (.iadd, 1) := zd90dec_47.2.2.2.2.1
theorem dL_law_845 : decode cL_law 845 = .ok (.iaload, 1) := zd90dec_47.2.2.2.2.2.1
theorem dL_law_846 : decode cL_law 846 = .ok (.aload_n 0, 1) := zd90dec_47.2.2.2.2.2.2.1
theorem dL_law_847 : decode cL_law 847 = .ok (.iload_n 3, 1) := zd90dec_47.2.2.2.2.2.2.2.1
theorem dL_law_848 : decode cL_law 848 = .ok (.iconst 3, 1) := zd90dec_47.2.2.2.2.2.2.2.2.1
theorem dL_law_849 : decode cL_law 849 = .ok (.iadd, 1) := zd90dec_47.2.2.2.2.2.2.2.2.2.1
theorem dL_law_850 : decode cL_law 850 = .ok (.iaload, 1) := zd90dec_47.2.2.2.2.2.2.2.2.2.2.1
theorem dL_law_851 : decode cL_law 851 = .ok (.invokevirtual 90, 3) := zd90dec_47.2.2.2.2.2.2.2.2.2.2.2
theorem zd90dec_48 : decode cL_law 854 = .ok (.pop, 1) ∧ decode cL_law 855 = .ok (.goto 759, 3) ∧ decode cL_law 858 = .ok (.aload_n 1, 1) ∧ decode cL_law 859 = .ok (.aload_n 0, 1) ∧ decode cL_law 860 = .ok (.iload_n 3, 1) ∧ decode cL_law 861 = .ok (.iconst 1, 1) ∧ decode cL_law 862 = .ok (.iadd, 1) ∧ decode cL_law 863 = .ok (.iaload, 1) ∧ decode cL_law 864 = .ok (.aload_n 0, 1) ∧ decode cL_law 865 = .ok (.iload_n 3, 1) ∧ decode cL_law 866 = .ok (.iconst 2, 1) ∧ decode cL_law 867 = .ok (.iadd, 1) := by decide +kernel
theorem dL_law_854 : decode cL_law 854 = .ok (.pop, 1) := zd90dec_48.1
theorem dL_law_855 : decode cL_law 855 = .ok (.goto 759, 3) := zd90dec_48.2.1
theorem dL_law_858 : decode cL_law 858 = .ok (.aload_n 1, 1) := zd90dec_48.2.2.1
theorem dL_law_859 : decode cL_law 859 = .ok (.aload_n 0, 1) := zd90dec_48.2.2.2.1
theorem dL_law_860 : decode cL_law 860 = .ok (.iload_n 3, 1) := zd90dec_48.2.2.2.2.1
theorem dL_law_861 : decode cL_law 861 = .ok (.iconst 1, 1) := zd90dec_48.2.2.2.2.2.1
theorem dL_law_862 : decode cL_law 862 = .ok (.iadd, 1) := zd90dec_48.2.2.2.2.2.2.1
theorem dL_law_863 : decode cL_law 863 = .ok (.iaload, 1) := zd90dec_48.2.2.2.2.2.2.2.1
theorem dL_law_864 : decode cL_law 864 = .ok (.aload_n 0, 1) := zd90dec_48.2.2.2.2.2.2.2.2.1
theorem dL_law_865 : decode cL_law 865 = .ok (.iload_n 3, 1) := zd90dec_48.2.2.2.2.2.2.2.2.2.1
theorem dL_law_866 : decode cL_law 866 = .ok (.iconst 2, 1) := zd90dec_48.2.2.2.2.2.2.2.2.2.2.1
theorem dL_law_867 : decode cL_law 867 = .ok (.iadd, 1) := zd90dec_48.2.2.2.2.2.2.2.2.2.2.2
theorem zd90dec_49 : decode cL_law 868 = .ok (.iaload, 1) ∧ decode cL_law 869 = .ok (.aload_n 0, 1) ∧ decode cL_law 870 = .ok (.iload_n 3, 1) ∧ decode cL_law 871 = .ok (.iconst 3, 1) ∧ decode cL_law 872 = .ok (.iadd, 1) ∧ decode cL_law 873 = .ok (.iaload, 1) ∧ decode cL_law 874 = .ok (.invokevirtual 91, 3) ∧ decode cL_law 877 = .ok (.pop, 1) ∧ decode cL_law 878 = .ok (.aload_n 2, 1) ∧ decode cL_law 879 = .ok (.aload_n 0, 1) ∧ decode cL_law 880 = .ok (.iload_n 3, 1) ∧ decode cL_law 881 = .ok (.iconst 1, 1) := by decide +kernel
theorem dL_law_868 : decode cL_law 868 = .ok (.iaload, 1) := zd90dec_49.1
theorem dL_law_869 : decode cL_law 869 = .ok (.aload_n 0, 1) := zd90dec_49.2.1
theorem dL_law_870 : decode cL_law 870 = .ok (.iload_n 3, 1) := zd90dec_49.2.2.1
theorem dL_law_871 : decode cL_law 871 = .ok (.iconst 3, 1) := zd90dec_49.2.2.2.1
theorem dL_law_872 : decode cL_law 872 = .ok (.iadd, 1) := zd90dec_49.2.2.2.2.1
theorem dL_law_873 : decode cL_law 873 = .ok (.iaload, 1) := zd90dec_49.2.2.2.2.2.1
theorem dL_law_874 : decode cL_law 874 = .ok (.invokevirtual 91, 3) := zd90dec_49.2.2.2.2.2.2.1
theorem dL_law_877 : decode cL_law 877 = .ok (.pop, 1) := zd90dec_49.2.2.2.2.2.2.2.1
theorem dL_law_878 : decode cL_law 878 = .ok (.aload_n 2, 1) := zd90dec_49.2.2.2.2.2.2.2.2.1
theorem dL_law_879 : decode cL_law 879 = .ok (.aload_n 0, 1) := zd90dec_49.2.2.2.2.2.2.2.2.2.1
theorem dL_law_880 : decode cL_law 880 = .ok (.iload_n 3, 1) := zd90dec_49.2.2.2.2.2.2.2.2.2.2.1
theorem dL_law_881 : decode cL_law 881 = .ok (.iconst 1, 1) := zd90dec_49.2.2.2.2.2.2.2.2.2.2.2
theorem zd90dec_50 : decode cL_law 882 = .ok (.iadd, 1) ∧ decode cL_law 883 = .ok (.iaload, 1) ∧ decode cL_law 884 = .ok (.aload_n 0, 1) ∧ decode cL_law 885 = .ok (.iload_n 3, 1) ∧ decode cL_law 886 = .ok (.iconst 2, 1) ∧ decode cL_law 887 = .ok (.iadd, 1) ∧ decode cL_law 888 = .ok (.iaload, 1) ∧ decode cL_law 889 = .ok (.aload_n 0, 1) ∧ decode cL_law 890 = .ok (.iload_n 3, 1) ∧ decode cL_law 891 = .ok (.iconst 3, 1) ∧ decode cL_law 892 = .ok (.iadd, 1) ∧ decode cL_law 893 = .ok (.iaload, 1) := by decide +kernel
theorem dL_law_882 : decode cL_law 882 = .ok (.iadd, 1) := zd90dec_50.1
theorem dL_law_883 : decode cL_law 883 = .ok (.iaload, 1) := zd90dec_50.2.1
theorem dL_law_884 : decode cL_law 884 = .ok (.aload_n 0, 1) := zd90dec_50.2.2.1
theorem dL_law_885 : decode cL_law 885 = .ok (.iload_n 3, 1) := zd90dec_50.2.2.2.1
theorem dL_law_886 : decode cL_law 886 = .ok (.iconst 2, 1) := zd90dec_50.2.2.2.2.1
theorem dL_law_887 : decode cL_law 887 = .ok (.iadd, 1) := zd90dec_50.2.2.2.2.2.1
theorem dL_law_888 : decode cL_law 888 = .ok (.iaload, 1) := zd90dec_50.2.2.2.2.2.2.1
theorem dL_law_889 : decode cL_law 889 = .ok (.aload_n 0, 1) := zd90dec_50.2.2.2.2.2.2.2.1
theorem dL_law_890 : decode cL_law 890 = .ok (.iload_n 3, 1) := zd90dec_50.2.2.2.2.2.2.2.2.1
theorem dL_law_891 : decode cL_law 891 = .ok (.iconst 3, 1) := zd90dec_50.2.2.2.2.2.2.2.2.2.1
theorem dL_law_892 : decode cL_law 892 = .ok (.iadd, 1) := zd90dec_50.2.2.2.2.2.2.2.2.2.2.1
theorem dL_law_893 : decode cL_law 893 = .ok (.iaload, 1) := zd90dec_50.2.2.2.2.2.2.2.2.2.2.2
theorem zd90dec_51 : decode cL_law 894 = .ok (.invokevirtual 94, 3) ∧ decode cL_law 897 = .ok (.pop, 1) ∧ decode cL_law 898 = .ok (.goto 716, 3) ∧ decode cL_law 901 = .ok (.aload_n 1, 1) ∧ decode cL_law 902 = .ok (.aload_n 0, 1) ∧ decode cL_law 903 = .ok (.iload_n 3, 1) ∧ decode cL_law 904 = .ok (.iconst 1, 1) ∧ decode cL_law 905 = .ok (.iadd, 1) ∧ decode cL_law 906 = .ok (.iaload, 1) ∧ decode cL_law 907 = .ok (.aload_n 0, 1) ∧ decode cL_law 908 = .ok (.iload_n 3, 1) ∧ decode cL_law 909 = .ok (.iconst 2, 1) := by decide +kernel
theorem dL_law_894 : decode cL_law 894 = .ok (.invokevirtual 94, 3) := zd90dec_51.1
theorem dL_law_897 : decode cL_law 897 = .ok (.pop, 1) := zd90dec_51.2.1
theorem dL_law_898 : decode cL_law 898 = .ok (.goto 716, 3) := zd90dec_51.2.2.1
theorem dL_law_901 : decode cL_law 901 = .ok (.aload_n 1, 1) := zd90dec_51.2.2.2.1
theorem dL_law_902 : decode cL_law 902 = .ok (.aload_n 0, 1) := zd90dec_51.2.2.2.2.1
theorem dL_law_903 : decode cL_law 903 = .ok (.iload_n 3, 1) := zd90dec_51.2.2.2.2.2.1
theorem dL_law_904 : decode cL_law 904 = .ok (.iconst 1, 1) := zd90dec_51.2.2.2.2.2.2.1
theorem dL_law_905 : decode cL_law 905 = .ok (.iadd, 1) := zd90dec_51.2.2.2.2.2.2.2.1
theorem dL_law_906 : decode cL_law 906 = .ok (.iaload, 1) := zd90dec_51.2.2.2.2.2.2.2.2.1
theorem dL_law_907 : decode cL_law 907 = .ok (.aload_n 0, 1) := zd90dec_51.2.2.2.2.2.2.2.2.2.1
theorem dL_law_908 : decode cL_law 908 = .ok (.iload_n 3, 1) := zd90dec_51.2.2.2.2.2.2.2.2.2.2.1
theorem dL_law_909 : decode cL_law 909 = .ok (.iconst 2, 1) := zd90dec_51.2.2.2.2.2.2.2.2.2.2.2
theorem zd90dec_52 : decode cL_law 910 = .ok (.iadd, 1) ∧ decode cL_law 911 = .ok (.iaload, 1) ∧ decode cL_law 912 = .ok (.aload_n 0, 1) ∧ decode cL_law 913 = .ok (.iload_n 3, 1) ∧ decode cL_law 914 = .ok (.iconst 3, 1) ∧ decode cL_law 915 = .ok (.iadd, 1) ∧ decode cL_law 916 = .ok (.iaload, 1) ∧ decode cL_law 917 = .ok (.invokevirtual 95, 3) ∧ decode cL_law 920 = .ok (.pop, 1) ∧ decode cL_law 921 = .ok (.aload_n 2, 1) ∧ decode cL_law 922 = .ok (.aload_n 0, 1) ∧ decode cL_law 923 = .ok (.iload_n 3, 1) := by decide +kernel
theorem dL_law_910 : decode cL_law 910 = .ok (.iadd, 1) := zd90dec_52.1
theorem dL_law_911 : decode cL_law 911 = .ok (.iaload, 1) := zd90dec_52.2.1
theorem dL_law_912 : decode cL_law 912 = .ok (.aload_n 0, 1) := zd90dec_52.2.2.1
theorem dL_law_913 : decode cL_law 913 = .ok (.iload_n 3, 1) := zd90dec_52.2.2.2.1
theorem dL_law_914 : decode cL_law 914 = .ok (.iconst 3, 1) := zd90dec_52.2.2.2.2.1
theorem dL_law_915 : decode cL_law 915 = .ok (.iadd, 1) := zd90dec_52.2.2.2.2.2.1
theorem dL_law_916 : decode cL_law 916 = .ok (.iaload, 1) := zd90dec_52.2.2.2.2.2.2.1
theorem dL_law_917 : decode cL_law 917 = .ok (.invokevirtual 95, 3) := zd90dec_52.2.2.2.2.2.2.2.1
theorem dL_law_920 : decode cL_law 920 = .ok (.pop, 1) := zd90dec_52.2.2.2.2.2.2.2.2.1
theorem dL_law_921 : decode cL_law 921 = .ok (.aload_n 2, 1) := zd90dec_52.2.2.2.2.2.2.2.2.2.1
theorem dL_law_922 : decode cL_law 922 = .ok (.aload_n 0, 1) := zd90dec_52.2.2.2.2.2.2.2.2.2.2.1
theorem dL_law_923 : decode cL_law 923 = .ok (.iload_n 3, 1) := zd90dec_52.2.2.2.2.2.2.2.2.2.2.2
theorem zd90dec_53 : decode cL_law 924 = .ok (.iconst 1, 1) ∧ decode cL_law 925 = .ok (.iadd, 1) ∧ decode cL_law 926 = .ok (.iaload, 1) ∧ decode cL_law 927 = .ok (.aload_n 0, 1) ∧ decode cL_law 928 = .ok (.iload_n 3, 1) ∧ decode cL_law 929 = .ok (.iconst 2, 1) ∧ decode cL_law 930 = .ok (.iadd, 1) ∧ decode cL_law 931 = .ok (.iaload, 1) ∧ decode cL_law 932 = .ok (.aload_n 0, 1) ∧ decode cL_law 933 = .ok (.iload_n 3, 1) ∧ decode cL_law 934 = .ok (.iconst 3, 1) ∧ decode cL_law 935 = .ok (.iadd, 1) := by decide +kernel
theorem dL_law_924 : decode cL_law 924 = .ok (.iconst 1, 1) := zd90dec_53.1
theorem dL_law_925 : decode cL_law 925 = .ok (.iadd, 1) := zd90dec_53.2.1
theorem dL_law_926 : decode cL_law 926 = .ok (.iaload, 1) := zd90dec_53.2.2.1
theorem dL_law_927 : decode cL_law 927 = .ok (.aload_n 0, 1) := zd90dec_53.2.2.2.1
theorem dL_law_928 : decode cL_law 928 = .ok (.iload_n 3, 1) := zd90dec_53.2.2.2.2.1
theorem dL_law_929 : decode cL_law 929 = .ok (.iconst 2, 1) := zd90dec_53.2.2.2.2.2.1
theorem dL_law_930 : decode cL_law 930 = .ok (.iadd, 1) := zd90dec_53.2.2.2.2.2.2.1
theorem dL_law_931 : decode cL_law 931 = .ok (.iaload, 1) := zd90dec_53.2.2.2.2.2.2.2.1
theorem dL_law_932 : decode cL_law 932 = .ok (.aload_n 0, 1) := zd90dec_53.2.2.2.2.2.2.2.2.1
theorem dL_law_933 : decode cL_law 933 = .ok (.iload_n 3, 1) := zd90dec_53.2.2.2.2.2.2.2.2.2.1
theorem dL_law_934 : decode cL_law 934 = .ok (.iconst 3, 1) := zd90dec_53.2.2.2.2.2.2.2.2.2.2.1
theorem dL_law_935 : decode cL_law 935 = .ok (.iadd, 1) := zd90dec_53.2.2.2.2.2.2.2.2.2.2.2
theorem zd90dec_54 : decode cL_law 936 = .ok (.iaload, 1) ∧ decode cL_law 937 = .ok (.invokevirtual 98, 3) ∧ decode cL_law 940 = .ok (.pop, 1) ∧ decode cL_law 941 = .ok (.goto 673, 3) ∧ decode cL_law 944 = .ok (.aload_n 1, 1) ∧ decode cL_law 945 = .ok (.aload_n 0, 1) ∧ decode cL_law 946 = .ok (.iload_n 3, 1) ∧ decode cL_law 947 = .ok (.iconst 1, 1) ∧ decode cL_law 948 = .ok (.iadd, 1) ∧ decode cL_law 949 = .ok (.iaload, 1) ∧ decode cL_law 950 = .ok (.aload_n 0, 1) ∧ decode cL_law 951 = .ok (.iload_n 3, 1) := by decide +kernel
theorem dL_law_936 : decode cL_law 936 = .ok (.iaload, 1) := zd90dec_54.1
theorem dL_law_937 : decode cL_law 937 = .ok (.invokevirtual 98, 3) := zd90dec_54.2.1
theorem dL_law_940 : decode cL_law 940 = .ok (.pop, 1) := zd90dec_54.2.2.1
theorem dL_law_941 : decode cL_law 941 = .ok (.goto 673, 3) := zd90dec_54.2.2.2.1
theorem dL_law_944 : decode cL_law 944 = .ok (.aload_n 1, 1) := zd90dec_54.2.2.2.2.1
theorem dL_law_945 : decode cL_law 945 = .ok (.aload_n 0, 1) := zd90dec_54.2.2.2.2.2.1
theorem dL_law_946 : decode cL_law 946 = .ok (.iload_n 3, 1) := zd90dec_54.2.2.2.2.2.2.1
theorem dL_law_947 : decode cL_law 947 = .ok (.iconst 1, 1) := zd90dec_54.2.2.2.2.2.2.2.1
theorem dL_law_948 : decode cL_law 948 = .ok (.iadd, 1) := zd90dec_54.2.2.2.2.2.2.2.2.1
theorem dL_law_949 : decode cL_law 949 = .ok (.iaload, 1) := zd90dec_54.2.2.2.2.2.2.2.2.2.1
theorem dL_law_950 : decode cL_law 950 = .ok (.aload_n 0, 1) := zd90dec_54.2.2.2.2.2.2.2.2.2.2.1
theorem dL_law_951 : decode cL_law 951 = .ok (.iload_n 3, 1) := zd90dec_54.2.2.2.2.2.2.2.2.2.2.2
theorem zd90dec_55 : decode cL_law 952 = .ok (.iconst 2, 1) ∧ decode cL_law 953 = .ok (.iadd, 1) ∧ decode cL_law 954 = .ok (.iaload, 1) ∧ decode cL_law 955 = .ok (.invokevirtual 99, 3) ∧ decode cL_law 958 = .ok (.pop, 1) ∧ decode cL_law 959 = .ok (.aload_n 2, 1) ∧ decode cL_law 960 = .ok (.aload_n 0, 1) ∧ decode cL_law 961 = .ok (.iload_n 3, 1) ∧ decode cL_law 962 = .ok (.iconst 1, 1) ∧ decode cL_law 963 = .ok (.iadd, 1) ∧ decode cL_law 964 = .ok (.iaload, 1) ∧ decode cL_law 965 = .ok (.aload_n 0, 1) := by decide +kernel
theorem dL_law_952 : decode cL_law 952 = .ok (.iconst 2, 1) := zd90dec_55.1
theorem dL_law_953 : decode cL_law 953 = .ok (.iadd, 1) := zd90dec_55.2.1
theorem dL_law_954 : decode cL_law 954 = .ok (.iaload, 1) := zd90dec_55.2.2.1
theorem dL_law_955 : decode cL_law 955 = .ok (.invokevirtual 99, 3) := zd90dec_55.2.2.2.1
theorem dL_law_958 : decode cL_law 958 = .ok (.pop, 1) := zd90dec_55.2.2.2.2.1
theorem dL_law_959 : decode cL_law 959 = .ok (.aload_n 2, 1) := zd90dec_55.2.2.2.2.2.1
theorem dL_law_960 : decode cL_law 960 = .ok (.aload_n 0, 1) := zd90dec_55.2.2.2.2.2.2.1
theorem dL_law_961 : decode cL_law 961 = .ok (.iload_n 3, 1) := zd90dec_55.2.2.2.2.2.2.2.1
theorem dL_law_962 : decode cL_law 962 = .ok (.iconst 1, 1) := zd90dec_55.2.2.2.2.2.2.2.2.1
theorem dL_law_963 : decode cL_law 963 = .ok (.iadd, 1) := zd90dec_55.2.2.2.2.2.2.2.2.2.1
theorem dL_law_964 : decode cL_law 964 = .ok (.iaload, 1) := zd90dec_55.2.2.2.2.2.2.2.2.2.2.1
theorem dL_law_965 : decode cL_law 965 = .ok (.aload_n 0, 1) := zd90dec_55.2.2.2.2.2.2.2.2.2.2.2
theorem zd90dec_56 : decode cL_law 966 = .ok (.iload_n 3, 1) ∧ decode cL_law 967 = .ok (.iconst 2, 1) ∧ decode cL_law 968 = .ok (.iadd, 1) ∧ decode cL_law 969 = .ok (.iaload, 1) ∧ decode cL_law 970 = .ok (.invokevirtual 102, 3) ∧ decode cL_law 973 = .ok (.pop, 1) ∧ decode cL_law 974 = .ok (.goto 640, 3) ∧ decode cL_law 977 = .ok (.aload_n 1, 1) ∧ decode cL_law 978 = .ok (.aload_n 0, 1) ∧ decode cL_law 979 = .ok (.iload_n 3, 1) ∧ decode cL_law 980 = .ok (.iconst 1, 1) ∧ decode cL_law 981 = .ok (.iadd, 1) := by decide +kernel
theorem dL_law_966 : decode cL_law 966 = .ok (.iload_n 3, 1) := zd90dec_56.1
theorem dL_law_967 : decode cL_law 967 = .ok (.iconst 2, 1) := zd90dec_56.2.1
theorem dL_law_968 : decode cL_law 968 = .ok (.iadd, 1) := zd90dec_56.2.2.1
theorem dL_law_969 : decode cL_law 969 = .ok (.iaload, 1) := zd90dec_56.2.2.2.1
theorem dL_law_970 : decode cL_law 970 = .ok (.invokevirtual 102, 3) := zd90dec_56.2.2.2.2.1
theorem dL_law_973 : decode cL_law 973 = .ok (.pop, 1) := zd90dec_56.2.2.2.2.2.1
theorem dL_law_974 : decode cL_law 974 = .ok (.goto 640, 3) := zd90dec_56.2.2.2.2.2.2.1
theorem dL_law_977 : decode cL_law 977 = .ok (.aload_n 1, 1) := zd90dec_56.2.2.2.2.2.2.2.1
theorem dL_law_978 : decode cL_law 978 = .ok (.aload_n 0, 1) := zd90dec_56.2.2.2.2.2.2.2.2.1
theorem dL_law_979 : decode cL_law 979 = .ok (.iload_n 3, 1) := zd90dec_56.2.2.2.2.2.2.2.2.2.1
theorem dL_law_980 : decode cL_law 980 = .ok (.iconst 1, 1) := zd90dec_56.2.2.2.2.2.2.2.2.2.2.1
theorem dL_law_981 : decode cL_law 981 = .ok (.iadd, 1) := zd90dec_56.2.2.2.2.2.2.2.2.2.2.2
theorem zd90dec_57 : decode cL_law 982 = .ok (.iaload, 1) ∧ decode cL_law 983 = .ok (.aload_n 0, 1) ∧ decode cL_law 984 = .ok (.iload_n 3, 1) ∧ decode cL_law 985 = .ok (.iconst 2, 1) ∧ decode cL_law 986 = .ok (.iadd, 1) ∧ decode cL_law 987 = .ok (.iaload, 1) ∧ decode cL_law 988 = .ok (.aload_n 0, 1) ∧ decode cL_law 989 = .ok (.iload_n 3, 1) ∧ decode cL_law 990 = .ok (.iconst 3, 1) ∧ decode cL_law 991 = .ok (.iadd, 1) ∧ decode cL_law 992 = .ok (.iaload, 1) ∧ decode cL_law 993 = .ok (.aload_n 0, 1) := by decide +kernel
theorem dL_law_982 : decode cL_law 982 = .ok (.iaload, 1) := zd90dec_57.1
theorem dL_law_983 : decode cL_law 983 = .ok (.aload_n 0, 1) := zd90dec_57.2.1
theorem dL_law_984 : decode cL_law 984 = .ok (.iload_n 3, 1) := zd90dec_57.2.2.1
theorem dL_law_985 : decode cL_law 985 = .ok (.iconst 2, 1) := zd90dec_57.2.2.2.1
theorem dL_law_986 : decode cL_law 986 = .ok (.iadd, 1) := zd90dec_57.2.2.2.2.1
theorem dL_law_987 : decode cL_law 987 = .ok (.iaload, 1) := zd90dec_57.2.2.2.2.2.1
theorem dL_law_988 : decode cL_law 988 = .ok (.aload_n 0, 1) := zd90dec_57.2.2.2.2.2.2.1
theorem dL_law_989 : decode cL_law 989 = .ok (.iload_n 3, 1) := zd90dec_57.2.2.2.2.2.2.2.1
theorem dL_law_990 : decode cL_law 990 = .ok (.iconst 3, 1) := zd90dec_57.2.2.2.2.2.2.2.2.1
theorem dL_law_991 : decode cL_law 991 = .ok (.iadd, 1) := zd90dec_57.2.2.2.2.2.2.2.2.2.1
theorem dL_law_992 : decode cL_law 992 = .ok (.iaload, 1) := zd90dec_57.2.2.2.2.2.2.2.2.2.2.1
theorem dL_law_993 : decode cL_law 993 = .ok (.aload_n 0, 1) := zd90dec_57.2.2.2.2.2.2.2.2.2.2.2
theorem zd90dec_58 : decode cL_law 994 = .ok (.iload_n 3, 1) ∧ decode cL_law 995 = .ok (.iconst 4, 1) ∧ decode cL_law 996 = .ok (.iadd, 1) ∧ decode cL_law 997 = .ok (.iaload, 1) ∧ decode cL_law 998 = .ok (.invokevirtual 103, 3) ∧ decode cL_law 1001 = .ok (.pop, 1) ∧ decode cL_law 1002 = .ok (.aload_n 2, 1) ∧ decode cL_law 1003 = .ok (.aload_n 0, 1) ∧ decode cL_law 1004 = .ok (.iload_n 3, 1) ∧ decode cL_law 1005 = .ok (.iconst 1, 1) ∧ decode cL_law 1006 = .ok (.iadd, 1) ∧ decode cL_law 1007 = .ok (.iaload, 1) := by decide +kernel
theorem dL_law_994 : decode cL_law 994 = .ok (.iload_n 3, 1) := zd90dec_58.1
theorem dL_law_995 : decode cL_law 995 = .ok (.iconst 4, 1) := zd90dec_58.2.1
theorem dL_law_996 : decode cL_law 996 = .ok (.iadd, 1) := zd90dec_58.2.2.1
theorem dL_law_997 : decode cL_law 997 = .ok (.iaload, 1) := zd90dec_58.2.2.2.1
theorem dL_law_998 : decode cL_law 998 = .ok (.invokevirtual 103, 3) := zd90dec_58.2.2.2.2.1
theorem dL_law_1001 : decode cL_law 1001 = .ok (.pop, 1) := zd90dec_58.2.2.2.2.2.1
theorem dL_law_1002 : decode cL_law 1002 = .ok (.aload_n 2, 1) := zd90dec_58.2.2.2.2.2.2.1
theorem dL_law_1003 : decode cL_law 1003 = .ok (.aload_n 0, 1) := zd90dec_58.2.2.2.2.2.2.2.1
theorem dL_law_1004 : decode cL_law 1004 = .ok (.iload_n 3, 1) := zd90dec_58.2.2.2.2.2.2.2.2.1
theorem dL_law_1005 : decode cL_law 1005 = .ok (.iconst 1, 1) := zd90dec_58.2.2.2.2.2.2.2.2.2.1
theorem dL_law_1006 : decode cL_law 1006 = .ok (.iadd, 1) := zd90dec_58.2.2.2.2.2.2.2.2.2.2.1
theorem dL_law_1007 : decode cL_law 1007 = .ok (.iaload, 1) := zd90dec_58.2.2.2.2.2.2.2.2.2.2.2
theorem zd90dec_59 : decode cL_law 1008 = .ok (.aload_n 0, 1) ∧ decode cL_law 1009 = .ok (.iload_n 3, 1) ∧ decode cL_law 1010 = .ok (.iconst 2, 1) ∧ decode cL_law 1011 = .ok (.iadd, 1) ∧ decode cL_law 1012 = .ok (.iaload, 1) ∧ decode cL_law 1013 = .ok (.aload_n 0, 1) ∧ decode cL_law 1014 = .ok (.iload_n 3, 1) ∧ decode cL_law 1015 = .ok (.iconst 3, 1) ∧ decode cL_law 1016 = .ok (.iadd, 1) ∧ decode cL_law 1017 = .ok (.iaload, 1) ∧ decode cL_law 1018 = .ok (.aload_n 0, 1) ∧ decode cL_law 1019 = .ok (.iload_n 3, 1) := by decide +kernel
theorem dL_law_1008 : decode cL_law 1008 = .ok (.aload_n 0, 1) := zd90dec_59.1
theorem dL_law_1009 : decode cL_law 1009 = .ok (.iload_n 3, 1) := zd90dec_59.2.1
theorem dL_law_1010 : decode cL_law 1010 = .ok (.iconst 2, 1) := zd90dec_59.2.2.1
theorem dL_law_1011 : decode cL_law 1011 = .ok (.iadd, 1) := zd90dec_59.2.2.2.1
theorem dL_law_1012 : decode cL_law 1012 = .ok (.iaload, 1) := zd90dec_59.2.2.2.2.1
theorem dL_law_1013 : decode cL_law 1013 = .ok (.aload_n 0, 1) := zd90dec_59.2.2.2.2.2.1
theorem dL_law_1014 : decode cL_law 1014 = .ok (.iload_n 3, 1) := zd90dec_59.2.2.2.2.2.2.1
theorem dL_law_1015 : decode cL_law 1015 = .ok (.iconst 3, 1) := zd90dec_59.2.2.2.2.2.2.2.1
theorem dL_law_1016 : decode cL_law 1016 = .ok (.iadd, 1) := zd90dec_59.2.2.2.2.2.2.2.2.1
theorem dL_law_1017 : decode cL_law 1017 = .ok (.iaload, 1) := zd90dec_59.2.2.2.2.2.2.2.2.2.1
theorem dL_law_1018 : decode cL_law 1018 = .ok (.aload_n 0, 1) := zd90dec_59.2.2.2.2.2.2.2.2.2.2.1
theorem dL_law_1019 : decode cL_law 1019 = .ok (.iload_n 3, 1) := zd90dec_59.2.2.2.2.2.2.2.2.2.2.2
theorem zd90dec_60 : decode cL_law 1020 = .ok (.iconst 4, 1) ∧ decode cL_law 1021 = .ok (.iadd, 1) ∧ decode cL_law 1022 = .ok (.iaload, 1) ∧ decode cL_law 1023 = .ok (.invokevirtual 106, 3) ∧ decode cL_law 1026 = .ok (.pop, 1) ∧ decode cL_law 1027 = .ok (.goto 587, 3) ∧ decode cL_law 1030 = .ok (.aload_n 1, 1) ∧ decode cL_law 1031 = .ok (.aload_n 0, 1) ∧ decode cL_law 1032 = .ok (.iload_n 3, 1) ∧ decode cL_law 1033 = .ok (.iconst 1, 1) ∧ decode cL_law 1034 = .ok (.iadd, 1) ∧ decode cL_law 1035 = .ok (.iaload, 1) := by decide +kernel
theorem dL_law_1020 : decode cL_law 1020 = .ok (.iconst 4, 1) := zd90dec_60.1
theorem dL_law_1021 : decode cL_law 1021 = .ok (.iadd, 1) := zd90dec_60.2.1
theorem dL_law_1022 : decode cL_law 1022 = .ok (.iaload, 1) := zd90dec_60.2.2.1
theorem dL_law_1023 : decode cL_law 1023 = .ok (.invokevirtual 106, 3) := zd90dec_60.2.2.2.1
theorem dL_law_1026 : decode cL_law 1026 = .ok (.pop, 1) := zd90dec_60.2.2.2.2.1
theorem dL_law_1027 : decode cL_law 1027 = .ok (.goto 587, 3) := zd90dec_60.2.2.2.2.2.1
theorem dL_law_1030 : decode cL_law 1030 = .ok (.aload_n 1, 1) := zd90dec_60.2.2.2.2.2.2.1
theorem dL_law_1031 : decode cL_law 1031 = .ok (.aload_n 0, 1) := zd90dec_60.2.2.2.2.2.2.2.1
theorem dL_law_1032 : decode cL_law 1032 = .ok (.iload_n 3, 1) := zd90dec_60.2.2.2.2.2.2.2.2.1
theorem dL_law_1033 : decode cL_law 1033 = .ok (.iconst 1, 1) := zd90dec_60.2.2.2.2.2.2.2.2.2.1
theorem dL_law_1034 : decode cL_law 1034 = .ok (.iadd, 1) := zd90dec_60.2.2.2.2.2.2.2.2.2.2.1
theorem dL_law_1035 : decode cL_law 1035 = .ok (.iaload, 1) := zd90dec_60.2.2.2.2.2.2.2.2.2.2.2
theorem zd90dec_61 : decode cL_law 1036 = .ok (.aload_n 0, 1) ∧ decode cL_law 1037 = .ok (.iload_n 3, 1) ∧ decode cL_law 1038 = .ok (.iconst 2, 1) ∧ decode cL_law 1039 = .ok (.iadd, 1) ∧ decode cL_law 1040 = .ok (.iaload, 1) ∧ decode cL_law 1041 = .ok (.invokevirtual 107, 3) ∧ decode cL_law 1044 = .ok (.pop, 1) ∧ decode cL_law 1045 = .ok (.aload_n 2, 1) ∧ decode cL_law 1046 = .ok (.aload_n 0, 1) ∧ decode cL_law 1047 = .ok (.iload_n 3, 1) ∧ decode cL_law 1048 = .ok (.iconst 1, 1) ∧ decode cL_law 1049 = .ok (.iadd, 1) := by decide +kernel
theorem dL_law_1036 : decode cL_law 1036 = .ok (.aload_n 0, 1) := zd90dec_61.1
theorem dL_law_1037 : decode cL_law 1037 = .ok (.iload_n 3, 1) := zd90dec_61.2.1
theorem dL_law_1038 : decode cL_law 1038 = .ok (.iconst 2, 1) := zd90dec_61.2.2.1
theorem dL_law_1039 : decode cL_law 1039 = .ok (.iadd, 1) := zd90dec_61.2.2.2.1
theorem dL_law_1040 : decode cL_law 1040 = .ok (.iaload, 1) := zd90dec_61.2.2.2.2.1
theorem dL_law_1041 : decode cL_law 1041 = .ok (.invokevirtual 107, 3) := zd90dec_61.2.2.2.2.2.1
theorem dL_law_1044 : decode cL_law 1044 = .ok (.pop, 1) := zd90dec_61.2.2.2.2.2.2.1
theorem dL_law_1045 : decode cL_law 1045 = .ok (.aload_n 2, 1) := zd90dec_61.2.2.2.2.2.2.2.1
theorem dL_law_1046 : decode cL_law 1046 = .ok (.aload_n 0, 1) := zd90dec_61.2.2.2.2.2.2.2.2.1
theorem dL_law_1047 : decode cL_law 1047 = .ok (.iload_n 3, 1) := zd90dec_61.2.2.2.2.2.2.2.2.2.1
theorem dL_law_1048 : decode cL_law 1048 = .ok (.iconst 1, 1) := zd90dec_61.2.2.2.2.2.2.2.2.2.2.1
theorem dL_law_1049 : decode cL_law 1049 = .ok (.iadd, 1) := zd90dec_61.2.2.2.2.2.2.2.2.2.2.2
theorem zd90dec_62 : decode cL_law 1050 = .ok (.iaload, 1) ∧ decode cL_law 1051 = .ok (.aload_n 0, 1) ∧ decode cL_law 1052 = .ok (.iload_n 3, 1) ∧ decode cL_law 1053 = .ok (.iconst 2, 1) ∧ decode cL_law 1054 = .ok (.iadd, 1) ∧ decode cL_law 1055 = .ok (.iaload, 1) ∧ decode cL_law 1056 = .ok (.invokevirtual 110, 3) ∧ decode cL_law 1059 = .ok (.pop, 1) ∧ decode cL_law 1060 = .ok (.goto 554, 3) ∧ decode cL_law 1063 = .ok (.aload_n 1, 1) ∧ decode cL_law 1064 = .ok (.aload_n 0, 1) ∧ decode cL_law 1065 = .ok (.iload_n 3, 1) := by decide +kernel
theorem dL_law_1050 : decode cL_law 1050 = .ok (.iaload, 1) := zd90dec_62.1
theorem dL_law_1051 : decode cL_law 1051 = .ok (.aload_n 0, 1) := zd90dec_62.2.1
theorem dL_law_1052 : decode cL_law 1052 = .ok (.iload_n 3, 1) := zd90dec_62.2.2.1
theorem dL_law_1053 : decode cL_law 1053 = .ok (.iconst 2, 1) := zd90dec_62.2.2.2.1
theorem dL_law_1054 : decode cL_law 1054 = .ok (.iadd, 1) := zd90dec_62.2.2.2.2.1
theorem dL_law_1055 : decode cL_law 1055 = .ok (.iaload, 1) := zd90dec_62.2.2.2.2.2.1
theorem dL_law_1056 : decode cL_law 1056 = .ok (.invokevirtual 110, 3) := zd90dec_62.2.2.2.2.2.2.1
theorem dL_law_1059 : decode cL_law 1059 = .ok (.pop, 1) := zd90dec_62.2.2.2.2.2.2.2.1
theorem dL_law_1060 : decode cL_law 1060 = .ok (.goto 554, 3) := zd90dec_62.2.2.2.2.2.2.2.2.1
theorem dL_law_1063 : decode cL_law 1063 = .ok (.aload_n 1, 1) := zd90dec_62.2.2.2.2.2.2.2.2.2.1
theorem dL_law_1064 : decode cL_law 1064 = .ok (.aload_n 0, 1) := zd90dec_62.2.2.2.2.2.2.2.2.2.2.1
theorem dL_law_1065 : decode cL_law 1065 = .ok (.iload_n 3, 1) := zd90dec_62.2.2.2.2.2.2.2.2.2.2.2
theorem zd90dec_63 : decode cL_law 1066 = .ok (.iconst 1, 1) ∧ decode cL_law 1067 = .ok (.iadd, 1) ∧ decode cL_law 1068 = .ok (.iaload, 1) ∧ decode cL_law 1069 = .ok (.aload_n 0, 1) ∧ decode cL_law 1070 = .ok (.iload_n 3, 1) ∧ decode cL_law 1071 = .ok (.iconst 2, 1) ∧ decode cL_law 1072 = .ok (.iadd, 1) ∧ decode cL_law 1073 = .ok (.iaload, 1) ∧ decode cL_law 1074 = .ok (.aload_n 0, 1) ∧ decode cL_law 1075 = .ok (.iload_n 3, 1) ∧ decode cL_law 1076 = .ok (.iconst 3, 1) ∧ decode cL_law 1077 = .ok (.iadd, 1) := by decide +kernel
theorem dL_law_1066 : decode cL_law 1066 = .ok (.iconst 1, 1) := zd90dec_63.1
theorem dL_law_1067 : decode cL_law 1067 = .ok (.iadd, 1) := zd90dec_63.2.1
theorem dL_law_1068 : decode cL_law 1068 = .ok (.iaload, 1) := zd90dec_63.2.2.1
theorem dL_law_1069 : decode cL_law 1069 = .ok (.aload_n 0, 1) := zd90dec_63.2.2.2.1
theorem dL_law_1070 : decode cL_law 1070 = .ok (.iload_n 3, 1) := zd90dec_63.2.2.2.2.1
theorem dL_law_1071 : decode cL_law 1071 = .ok (.iconst 2, 1) := zd90dec_63.2.2.2.2.2.1
theorem dL_law_1072 : decode cL_law 1072 = .ok (.iadd, 1) := zd90dec_63.2.2.2.2.2.2.1
theorem dL_law_1073 : decode cL_law 1073 = .ok (.iaload, 1) := zd90dec_63.2.2.2.2.2.2.2.1
theorem dL_law_1074 : decode cL_law 1074 = .ok (.aload_n 0, 1) := zd90dec_63.2.2.2.2.2.2.2.2.1
theorem dL_law_1075 : decode cL_law 1075 = .ok (.iload_n 3, 1) := zd90dec_63.2.2.2.2.2.2.2.2.2.1
theorem dL_law_1076 : decode cL_law 1076 = .ok (.iconst 3, 1) := zd90dec_63.2.2.2.2.2.2.2.2.2.2.1
theorem dL_law_1077 : decode cL_law 1077 = .ok (.iadd, 1) := zd90dec_63.2.2.2.2.2.2.2.2.2.2.2
theorem zd90dec_64 : decode cL_law 1078 = .ok (.iaload, 1) ∧ decode cL_law 1079 = .ok (.aload_n 0, 1) ∧ decode cL_law 1080 = .ok (.iload_n 3, 1) ∧ decode cL_law 1081 = .ok (.iconst 4, 1) ∧ decode cL_law 1082 = .ok (.iadd, 1) ∧ decode cL_law 1083 = .ok (.iaload, 1) ∧ decode cL_law 1084 = .ok (.invokevirtual 111, 3) ∧ decode cL_law 1087 = .ok (.pop, 1) ∧ decode cL_law 1088 = .ok (.aload_n 2, 1) ∧ decode cL_law 1089 = .ok (.aload_n 0, 1) ∧ decode cL_law 1090 = .ok (.iload_n 3, 1) ∧ decode cL_law 1091 = .ok (.iconst 1, 1) := by decide +kernel
theorem dL_law_1078 : decode cL_law 1078 = .ok (.iaload, 1) := zd90dec_64.1
theorem dL_law_1079 : decode cL_law 1079 = .ok (.aload_n 0, 1) := zd90dec_64.2.1
theorem dL_law_1080 : decode cL_law 1080 = .ok (.iload_n 3, 1) := zd90dec_64.2.2.1
theorem dL_law_1081 : decode cL_law 1081 = .ok (.iconst 4, 1) := zd90dec_64.2.2.2.1
theorem dL_law_1082 : decode cL_law 1082 = .ok (.iadd, 1) := zd90dec_64.2.2.2.2.1
theorem dL_law_1083 : decode cL_law 1083 = .ok (.iaload, 1) := zd90dec_64.2.2.2.2.2.1
theorem dL_law_1084 : decode cL_law 1084 = .ok (.invokevirtual 111, 3) := zd90dec_64.2.2.2.2.2.2.1
theorem dL_law_1087 : decode cL_law 1087 = .ok (.pop, 1) := zd90dec_64.2.2.2.2.2.2.2.1
theorem dL_law_1088 : decode cL_law 1088 = .ok (.aload_n 2, 1) := zd90dec_64.2.2.2.2.2.2.2.2.1
theorem dL_law_1089 : decode cL_law 1089 = .ok (.aload_n 0, 1) := zd90dec_64.2.2.2.2.2.2.2.2.2.1
theorem dL_law_1090 : decode cL_law 1090 = .ok (.iload_n 3, 1) := zd90dec_64.2.2.2.2.2.2.2.2.2.2.1
theorem dL_law_1091 : decode cL_law 1091 = .ok (.iconst 1, 1) := zd90dec_64.2.2.2.2.2.2.2.2.2.2.2
theorem zd90dec_65 : decode cL_law 1092 = .ok (.iadd, 1) ∧ decode cL_law 1093 = .ok (.iaload, 1) ∧ decode cL_law 1094 = .ok (.aload_n 0, 1) ∧ decode cL_law 1095 = .ok (.iload_n 3, 1) ∧ decode cL_law 1096 = .ok (.iconst 2, 1) ∧ decode cL_law 1097 = .ok (.iadd, 1) ∧ decode cL_law 1098 = .ok (.iaload, 1) ∧ decode cL_law 1099 = .ok (.aload_n 0, 1) ∧ decode cL_law 1100 = .ok (.iload_n 3, 1) ∧ decode cL_law 1101 = .ok (.iconst 3, 1) ∧ decode cL_law 1102 = .ok (.iadd, 1) ∧ decode cL_law 1103 = .ok (.iaload, 1) := by decide +kernel
theorem dL_law_1092 : decode cL_law 1092 = .ok (.iadd, 1) := zd90dec_65.1
theorem dL_law_1093 : decode cL_law 1093 = .ok (.iaload, 1) := zd90dec_65.2.1
theorem dL_law_1094 : decode cL_law 1094 = .ok (.aload_n 0, 1) := zd90dec_65.2.2.1
theorem dL_law_1095 : decode cL_law 1095 = .ok (.iload_n 3, 1) := zd90dec_65.2.2.2.1
theorem dL_law_1096 : decode cL_law 1096 = .ok (.iconst 2, 1) := zd90dec_65.2.2.2.2.1
theorem dL_law_1097 : decode cL_law 1097 = .ok (.iadd, 1) := zd90dec_65.2.2.2.2.2.1
theorem dL_law_1098 : decode cL_law 1098 = .ok (.iaload, 1) := zd90dec_65.2.2.2.2.2.2.1
theorem dL_law_1099 : decode cL_law 1099 = .ok (.aload_n 0, 1) := zd90dec_65.2.2.2.2.2.2.2.1
theorem dL_law_1100 : decode cL_law 1100 = .ok (.iload_n 3, 1) := zd90dec_65.2.2.2.2.2.2.2.2.1
theorem dL_law_1101 : decode cL_law 1101 = .ok (.iconst 3, 1) := zd90dec_65.2.2.2.2.2.2.2.2.2.1
theorem dL_law_1102 : decode cL_law 1102 = .ok (.iadd, 1) := zd90dec_65.2.2.2.2.2.2.2.2.2.2.1
theorem dL_law_1103 : decode cL_law 1103 = .ok (.iaload, 1) := zd90dec_65.2.2.2.2.2.2.2.2.2.2.2
theorem zd90dec_66 : decode cL_law 1104 = .ok (.aload_n 0, 1) ∧ decode cL_law 1105 = .ok (.iload_n 3, 1) ∧ decode cL_law 1106 = .ok (.iconst 4, 1) ∧ decode cL_law 1107 = .ok (.iadd, 1) ∧ decode cL_law 1108 = .ok (.iaload, 1) ∧ decode cL_law 1109 = .ok (.invokevirtual 114, 3) ∧ decode cL_law 1112 = .ok (.pop, 1) ∧ decode cL_law 1113 = .ok (.goto 501, 3) ∧ decode cL_law 1116 = .ok (.aload_n 1, 1) ∧ decode cL_law 1117 = .ok (.aload_n 0, 1) ∧ decode cL_law 1118 = .ok (.iload_n 3, 1) ∧ decode cL_law 1119 = .ok (.iconst 1, 1) := by decide +kernel
theorem dL_law_1104 : decode cL_law 1104 = .ok (.aload_n 0, 1) := zd90dec_66.1
theorem dL_law_1105 : decode cL_law 1105 = .ok (.iload_n 3, 1) := zd90dec_66.2.1
theorem dL_law_1106 : decode cL_law 1106 = .ok (.iconst 4, 1) := zd90dec_66.2.2.1
theorem dL_law_1107 : decode cL_law 1107 = .ok (.iadd, 1) := zd90dec_66.2.2.2.1
theorem dL_law_1108 : decode cL_law 1108 = .ok (.iaload, 1) := zd90dec_66.2.2.2.2.1
theorem dL_law_1109 : decode cL_law 1109 = .ok (.invokevirtual 114, 3) := zd90dec_66.2.2.2.2.2.1
theorem dL_law_1112 : decode cL_law 1112 = .ok (.pop, 1) := zd90dec_66.2.2.2.2.2.2.1
theorem dL_law_1113 : decode cL_law 1113 = .ok (.goto 501, 3) := zd90dec_66.2.2.2.2.2.2.2.1
theorem dL_law_1116 : decode cL_law 1116 = .ok (.aload_n 1, 1) := zd90dec_66.2.2.2.2.2.2.2.2.1
theorem dL_law_1117 : decode cL_law 1117 = .ok (.aload_n 0, 1) := zd90dec_66.2.2.2.2.2.2.2.2.2.1
theorem dL_law_1118 : decode cL_law 1118 = .ok (.iload_n 3, 1) := zd90dec_66.2.2.2.2.2.2.2.2.2.2.1
theorem dL_law_1119 : decode cL_law 1119 = .ok (.iconst 1, 1) := zd90dec_66.2.2.2.2.2.2.2.2.2.2.2
theorem zd90dec_67 : decode cL_law 1120 = .ok (.iadd, 1) ∧ decode cL_law 1121 = .ok (.iaload, 1) ∧ decode cL_law 1122 = .ok (.invokevirtual 115, 3) ∧ decode cL_law 1125 = .ok (.pop, 1) ∧ decode cL_law 1126 = .ok (.aload_n 2, 1) ∧ decode cL_law 1127 = .ok (.aload_n 0, 1) ∧ decode cL_law 1128 = .ok (.iload_n 3, 1) ∧ decode cL_law 1129 = .ok (.iconst 1, 1) ∧ decode cL_law 1130 = .ok (.iadd, 1) ∧ decode cL_law 1131 = .ok (.iaload, 1) ∧ decode cL_law 1132 = .ok (.invokevirtual 118, 3) ∧ decode cL_law 1135 = .ok (.pop, 1) := by decide +kernel
theorem dL_law_1120 : decode cL_law 1120 = .ok (.iadd, 1) := zd90dec_67.1
theorem dL_law_1121 : decode cL_law 1121 = .ok (.iaload, 1) := zd90dec_67.2.1
theorem dL_law_1122 : decode cL_law 1122 = .ok (.invokevirtual 115, 3) := zd90dec_67.2.2.1
theorem dL_law_1125 : decode cL_law 1125 = .ok (.pop, 1) := zd90dec_67.2.2.2.1
theorem dL_law_1126 : decode cL_law 1126 = .ok (.aload_n 2, 1) := zd90dec_67.2.2.2.2.1
theorem dL_law_1127 : decode cL_law 1127 = .ok (.aload_n 0, 1) := zd90dec_67.2.2.2.2.2.1
theorem dL_law_1128 : decode cL_law 1128 = .ok (.iload_n 3, 1) := zd90dec_67.2.2.2.2.2.2.1
theorem dL_law_1129 : decode cL_law 1129 = .ok (.iconst 1, 1) := zd90dec_67.2.2.2.2.2.2.2.1
theorem dL_law_1130 : decode cL_law 1130 = .ok (.iadd, 1) := zd90dec_67.2.2.2.2.2.2.2.2.1
theorem dL_law_1131 : decode cL_law 1131 = .ok (.iaload, 1) := zd90dec_67.2.2.2.2.2.2.2.2.2.1
theorem dL_law_1132 : decode cL_law 1132 = .ok (.invokevirtual 118, 3) := zd90dec_67.2.2.2.2.2.2.2.2.2.2.1
theorem dL_law_1135 : decode cL_law 1135 = .ok (.pop, 1) := zd90dec_67.2.2.2.2.2.2.2.2.2.2.2
theorem zd90dec_68 : decode cL_law 1136 = .ok (.goto 478, 3) ∧ decode cL_law 1139 = .ok (.aload_n 1, 1) ∧ decode cL_law 1140 = .ok (.aload_n 0, 1) ∧ decode cL_law 1141 = .ok (.iload_n 3, 1) ∧ decode cL_law 1142 = .ok (.iconst 1, 1) ∧ decode cL_law 1143 = .ok (.iadd, 1) ∧ decode cL_law 1144 = .ok (.iaload, 1) ∧ decode cL_law 1145 = .ok (.aload_n 0, 1) ∧ decode cL_law 1146 = .ok (.iload_n 3, 1) ∧ decode cL_law 1147 = .ok (.iconst 2, 1) ∧ decode cL_law 1148 = .ok (.iadd, 1) ∧ decode cL_law 1149 = .ok (.iaload, 1) := by decide +kernel
theorem dL_law_1136 : decode cL_law 1136 = .ok (.goto 478, 3) := zd90dec_68.1
theorem dL_law_1139 : decode cL_law 1139 = .ok (.aload_n 1, 1) := zd90dec_68.2.1
theorem dL_law_1140 : decode cL_law 1140 = .ok (.aload_n 0, 1) := zd90dec_68.2.2.1
theorem dL_law_1141 : decode cL_law 1141 = .ok (.iload_n 3, 1) := zd90dec_68.2.2.2.1
theorem dL_law_1142 : decode cL_law 1142 = .ok (.iconst 1, 1) := zd90dec_68.2.2.2.2.1
theorem dL_law_1143 : decode cL_law 1143 = .ok (.iadd, 1) := zd90dec_68.2.2.2.2.2.1
theorem dL_law_1144 : decode cL_law 1144 = .ok (.iaload, 1) := zd90dec_68.2.2.2.2.2.2.1
theorem dL_law_1145 : decode cL_law 1145 = .ok (.aload_n 0, 1) := zd90dec_68.2.2.2.2.2.2.2.1
theorem dL_law_1146 : decode cL_law 1146 = .ok (.iload_n 3, 1) := zd90dec_68.2.2.2.2.2.2.2.2.1
theorem dL_law_1147 : decode cL_law 1147 = .ok (.iconst 2, 1) := zd90dec_68.2.2.2.2.2.2.2.2.2.1
theorem dL_law_1148 : decode cL_law 1148 = .ok (.iadd, 1) := zd90dec_68.2.2.2.2.2.2.2.2.2.2.1
theorem dL_law_1149 : decode cL_law 1149 = .ok (.iaload, 1) := zd90dec_68.2.2.2.2.2.2.2.2.2.2.2
theorem zd90dec_69 : decode cL_law 1150 = .ok (.invokevirtual 119, 3) ∧ decode cL_law 1153 = .ok (.pop, 1) ∧ decode cL_law 1154 = .ok (.aload_n 2, 1) ∧ decode cL_law 1155 = .ok (.aload_n 0, 1) ∧ decode cL_law 1156 = .ok (.iload_n 3, 1) ∧ decode cL_law 1157 = .ok (.iconst 1, 1) ∧ decode cL_law 1158 = .ok (.iadd, 1) ∧ decode cL_law 1159 = .ok (.iaload, 1) ∧ decode cL_law 1160 = .ok (.aload_n 0, 1) ∧ decode cL_law 1161 = .ok (.iload_n 3, 1) ∧ decode cL_law 1162 = .ok (.iconst 2, 1) ∧ decode cL_law 1163 = .ok (.iadd, 1) := by decide +kernel
theorem dL_law_1150 : decode cL_law 1150 = .ok (.invokevirtual 119, 3) := zd90dec_69.1
theorem dL_law_1153 : decode cL_law 1153 = .ok (.pop, 1) := zd90dec_69.2.1
theorem dL_law_1154 : decode cL_law 1154 = .ok (.aload_n 2, 1) := zd90dec_69.2.2.1
theorem dL_law_1155 : decode cL_law 1155 = .ok (.aload_n 0, 1) := zd90dec_69.2.2.2.1
theorem dL_law_1156 : decode cL_law 1156 = .ok (.iload_n 3, 1) := zd90dec_69.2.2.2.2.1
theorem dL_law_1157 : decode cL_law 1157 = .ok (.iconst 1, 1) := zd90dec_69.2.2.2.2.2.1
theorem dL_law_1158 : decode cL_law 1158 = .ok (.iadd, 1) := zd90dec_69.2.2.2.2.2.2.1
theorem dL_law_1159 : decode cL_law 1159 = .ok (.iaload, 1) := zd90dec_69.2.2.2.2.2.2.2.1
theorem dL_law_1160 : decode cL_law 1160 = .ok (.aload_n 0, 1) := zd90dec_69.2.2.2.2.2.2.2.2.1
theorem dL_law_1161 : decode cL_law 1161 = .ok (.iload_n 3, 1) := zd90dec_69.2.2.2.2.2.2.2.2.2.1
theorem dL_law_1162 : decode cL_law 1162 = .ok (.iconst 2, 1) := zd90dec_69.2.2.2.2.2.2.2.2.2.2.1
theorem dL_law_1163 : decode cL_law 1163 = .ok (.iadd, 1) := zd90dec_69.2.2.2.2.2.2.2.2.2.2.2
theorem zd90dec_70 : decode cL_law 1164 = .ok (.iaload, 1) ∧ decode cL_law 1165 = .ok (.invokevirtual 122, 3) ∧ decode cL_law 1168 = .ok (.pop, 1) ∧ decode cL_law 1169 = .ok (.goto 445, 3) ∧ decode cL_law 1172 = .ok (.aload_n 1, 1) ∧ decode cL_law 1173 = .ok (.aload_n 0, 1) ∧ decode cL_law 1174 = .ok (.iload_n 3, 1) ∧ decode cL_law 1175 = .ok (.iconst 1, 1) ∧ decode cL_law 1176 = .ok (.iadd, 1) ∧ decode cL_law 1177 = .ok (.iaload, 1) ∧ decode cL_law 1178 = .ok (.aload_n 0, 1) ∧ decode cL_law 1179 = .ok (.iload_n 3, 1) := by decide +kernel
theorem dL_law_1164 : decode cL_law 1164 = .ok (.iaload, 1) := zd90dec_70.1
theorem dL_law_1165 : decode cL_law 1165 = .ok (.invokevirtual 122, 3) := zd90dec_70.2.1
theorem dL_law_1168 : decode cL_law 1168 = .ok (.pop, 1) := zd90dec_70.2.2.1
theorem dL_law_1169 : decode cL_law 1169 = .ok (.goto 445, 3) := zd90dec_70.2.2.2.1
theorem dL_law_1172 : decode cL_law 1172 = .ok (.aload_n 1, 1) := zd90dec_70.2.2.2.2.1
theorem dL_law_1173 : decode cL_law 1173 = .ok (.aload_n 0, 1) := zd90dec_70.2.2.2.2.2.1
theorem dL_law_1174 : decode cL_law 1174 = .ok (.iload_n 3, 1) := zd90dec_70.2.2.2.2.2.2.1
theorem dL_law_1175 : decode cL_law 1175 = .ok (.iconst 1, 1) := zd90dec_70.2.2.2.2.2.2.2.1
theorem dL_law_1176 : decode cL_law 1176 = .ok (.iadd, 1) := zd90dec_70.2.2.2.2.2.2.2.2.1
theorem dL_law_1177 : decode cL_law 1177 = .ok (.iaload, 1) := zd90dec_70.2.2.2.2.2.2.2.2.2.1
theorem dL_law_1178 : decode cL_law 1178 = .ok (.aload_n 0, 1) := zd90dec_70.2.2.2.2.2.2.2.2.2.2.1
theorem dL_law_1179 : decode cL_law 1179 = .ok (.iload_n 3, 1) := zd90dec_70.2.2.2.2.2.2.2.2.2.2.2
theorem zd90dec_71 : decode cL_law 1180 = .ok (.iconst 2, 1) ∧ decode cL_law 1181 = .ok (.iadd, 1) ∧ decode cL_law 1182 = .ok (.iaload, 1) ∧ decode cL_law 1183 = .ok (.aload_n 0, 1) ∧ decode cL_law 1184 = .ok (.iload_n 3, 1) ∧ decode cL_law 1185 = .ok (.iconst 3, 1) ∧ decode cL_law 1186 = .ok (.iadd, 1) ∧ decode cL_law 1187 = .ok (.iaload, 1) ∧ decode cL_law 1188 = .ok (.invokevirtual 123, 3) ∧ decode cL_law 1191 = .ok (.pop, 1) ∧ decode cL_law 1192 = .ok (.aload_n 2, 1) ∧ decode cL_law 1193 = .ok (.aload_n 0, 1) := by decide +kernel
theorem dL_law_1180 : decode cL_law 1180 = .ok (.iconst 2, 1) := zd90dec_71.1
theorem dL_law_1181 : decode cL_law 1181 = .ok (.iadd, 1) := zd90dec_71.2.1
theorem dL_law_1182 : decode cL_law 1182 = .ok (.iaload, 1) := zd90dec_71.2.2.1
theorem dL_law_1183 : decode cL_law 1183 = .ok (.aload_n 0, 1) := zd90dec_71.2.2.2.1
theorem dL_law_1184 : decode cL_law 1184 = .ok (.iload_n 3, 1) := zd90dec_71.2.2.2.2.1
theorem dL_law_1185 : decode cL_law 1185 = .ok (.iconst 3, 1) := zd90dec_71.2.2.2.2.2.1
theorem dL_law_1186 : decode cL_law 1186 = .ok (.iadd, 1) := zd90dec_71.2.2.2.2.2.2.1
theorem dL_law_1187 : decode cL_law 1187 = .ok (.iaload, 1) := zd90dec_71.2.2.2.2.2.2.2.1
theorem dL_law_1188 : decode cL_law 1188 = .ok (.invokevirtual 123, 3) := zd90dec_71.2.2.2.2.2.2.2.2.1
theorem dL_law_1191 : decode cL_law 1191 = .ok (.pop, 1) := zd90dec_71.2.2.2.2.2.2.2.2.2.1
theorem dL_law_1192 : decode cL_law 1192 = .ok (.aload_n 2, 1) := zd90dec_71.2.2.2.2.2.2.2.2.2.2.1
theorem dL_law_1193 : decode cL_law 1193 = .ok (.aload_n 0, 1) := zd90dec_71.2.2.2.2.2.2.2.2.2.2.2
theorem zd90dec_72 : decode cL_law 1194 = .ok (.iload_n 3, 1) ∧ decode cL_law 1195 = .ok (.iconst 1, 1) ∧ decode cL_law 1196 = .ok (.iadd, 1) ∧ decode cL_law 1197 = .ok (.iaload, 1) ∧ decode cL_law 1198 = .ok (.aload_n 0, 1) ∧ decode cL_law 1199 = .ok (.iload_n 3, 1) ∧ decode cL_law 1200 = .ok (.iconst 2, 1) ∧ decode cL_law 1201 = .ok (.iadd, 1) ∧ decode cL_law 1202 = .ok (.iaload, 1) ∧ decode cL_law 1203 = .ok (.aload_n 0, 1) ∧ decode cL_law 1204 = .ok (.iload_n 3, 1) ∧ decode cL_law 1205 = .ok (.iconst 3, 1) := by decide +kernel
theorem dL_law_1194 : decode cL_law 1194 = .ok (.iload_n 3, 1) := zd90dec_72.1
theorem dL_law_1195 : decode cL_law 1195 = .ok (.iconst 1, 1) := zd90dec_72.2.1
theorem dL_law_1196 : decode cL_law 1196 = .ok (.iadd, 1) := zd90dec_72.2.2.1
theorem dL_law_1197 : decode cL_law 1197 = .ok (.iaload, 1) := zd90dec_72.2.2.2.1
theorem dL_law_1198 : decode cL_law 1198 = .ok (.aload_n 0, 1) := zd90dec_72.2.2.2.2.1
theorem dL_law_1199 : decode cL_law 1199 = .ok (.iload_n 3, 1) := zd90dec_72.2.2.2.2.2.1
theorem dL_law_1200 : decode cL_law 1200 = .ok (.iconst 2, 1) := zd90dec_72.2.2.2.2.2.2.1
theorem dL_law_1201 : decode cL_law 1201 = .ok (.iadd, 1) := zd90dec_72.2.2.2.2.2.2.2.1
theorem dL_law_1202 : decode cL_law 1202 = .ok (.iaload, 1) := zd90dec_72.2.2.2.2.2.2.2.2.1
theorem dL_law_1203 : decode cL_law 1203 = .ok (.aload_n 0, 1) := zd90dec_72.2.2.2.2.2.2.2.2.2.1
theorem dL_law_1204 : decode cL_law 1204 = .ok (.iload_n 3, 1) := zd90dec_72.2.2.2.2.2.2.2.2.2.2.1
theorem dL_law_1205 : decode cL_law 1205 = .ok (.iconst 3, 1) := zd90dec_72.2.2.2.2.2.2.2.2.2.2.2
theorem zd90dec_73 : decode cL_law 1206 = .ok (.iadd, 1) ∧ decode cL_law 1207 = .ok (.iaload, 1) ∧ decode cL_law 1208 = .ok (.invokevirtual 126, 3) ∧ decode cL_law 1211 = .ok (.pop, 1) ∧ decode cL_law 1212 = .ok (.goto 402, 3) ∧ decode cL_law 1215 = .ok (.aload_n 1, 1) ∧ decode cL_law 1216 = .ok (.aload_n 0, 1) ∧ decode cL_law 1217 = .ok (.iload_n 3, 1) ∧ decode cL_law 1218 = .ok (.iconst 1, 1) ∧ decode cL_law 1219 = .ok (.iadd, 1) ∧ decode cL_law 1220 = .ok (.iaload, 1) ∧ decode cL_law 1221 = .ok (.aload_n 0, 1) := by decide +kernel
theorem dL_law_1206 : decode cL_law 1206 = .ok (.iadd, 1) := zd90dec_73.1
theorem dL_law_1207 : decode cL_law 1207 = .ok (.iaload, 1) := zd90dec_73.2.1
theorem dL_law_1208 : decode cL_law 1208 = .ok (.invokevirtual 126, 3) := zd90dec_73.2.2.1
theorem dL_law_1211 : decode cL_law 1211 = .ok (.pop, 1) := zd90dec_73.2.2.2.1
theorem dL_law_1212 : decode cL_law 1212 = .ok (.goto 402, 3) := zd90dec_73.2.2.2.2.1
theorem dL_law_1215 : decode cL_law 1215 = .ok (.aload_n 1, 1) := zd90dec_73.2.2.2.2.2.1
theorem dL_law_1216 : decode cL_law 1216 = .ok (.aload_n 0, 1) := zd90dec_73.2.2.2.2.2.2.1
theorem dL_law_1217 : decode cL_law 1217 = .ok (.iload_n 3, 1) := zd90dec_73.2.2.2.2.2.2.2.1
theorem dL_law_1218 : decode cL_law 1218 = .ok (.iconst 1, 1) := zd90dec_73.2.2.2.2.2.2.2.2.1
theorem dL_law_1219 : decode cL_law 1219 = .ok (.iadd, 1) := zd90dec_73.2.2.2.2.2.2.2.2.2.1
theorem dL_law_1220 : decode cL_law 1220 = .ok (.iaload, 1) := zd90dec_73.2.2.2.2.2.2.2.2.2.2.1
theorem dL_law_1221 : decode cL_law 1221 = .ok (.aload_n 0, 1) := zd90dec_73.2.2.2.2.2.2.2.2.2.2.2
theorem zd90dec_74 : decode cL_law 1222 = .ok (.iload_n 3, 1) ∧ decode cL_law 1223 = .ok (.iconst 2, 1) ∧ decode cL_law 1224 = .ok (.iadd, 1) ∧ decode cL_law 1225 = .ok (.iaload, 1) ∧ decode cL_law 1226 = .ok (.aload_n 0, 1) ∧ decode cL_law 1227 = .ok (.iload_n 3, 1) ∧ decode cL_law 1228 = .ok (.iconst 3, 1) ∧ decode cL_law 1229 = .ok (.iadd, 1) ∧ decode cL_law 1230 = .ok (.iaload, 1) ∧ decode cL_law 1231 = .ok (.aload_n 0, 1) ∧ decode cL_law 1232 = .ok (.iload_n 3, 1) ∧ decode cL_law 1233 = .ok (.iconst 4, 1) := by decide +kernel
theorem dL_law_1222 : decode cL_law 1222 = .ok (.iload_n 3, 1) := zd90dec_74.1
theorem dL_law_1223 : decode cL_law 1223 = .ok (.iconst 2, 1) := zd90dec_74.2.1
theorem dL_law_1224 : decode cL_law 1224 = .ok (.iadd, 1) := zd90dec_74.2.2.1
theorem dL_law_1225 : decode cL_law 1225 = .ok (.iaload, 1) := zd90dec_74.2.2.2.1
theorem dL_law_1226 : decode cL_law 1226 = .ok (.aload_n 0, 1) := zd90dec_74.2.2.2.2.1
theorem dL_law_1227 : decode cL_law 1227 = .ok (.iload_n 3, 1) := zd90dec_74.2.2.2.2.2.1
theorem dL_law_1228 : decode cL_law 1228 = .ok (.iconst 3, 1) := zd90dec_74.2.2.2.2.2.2.1
theorem dL_law_1229 : decode cL_law 1229 = .ok (.iadd, 1) := zd90dec_74.2.2.2.2.2.2.2.1
theorem dL_law_1230 : decode cL_law 1230 = .ok (.iaload, 1) := zd90dec_74.2.2.2.2.2.2.2.2.1
theorem dL_law_1231 : decode cL_law 1231 = .ok (.aload_n 0, 1) := zd90dec_74.2.2.2.2.2.2.2.2.2.1
theorem dL_law_1232 : decode cL_law 1232 = .ok (.iload_n 3, 1) := zd90dec_74.2.2.2.2.2.2.2.2.2.2.1
theorem dL_law_1233 : decode cL_law 1233 = .ok (.iconst 4, 1) := zd90dec_74.2.2.2.2.2.2.2.2.2.2.2
theorem zd90dec_75 : decode cL_law 1234 = .ok (.iadd, 1) ∧ decode cL_law 1235 = .ok (.iaload, 1) ∧ decode cL_law 1236 = .ok (.aload_n 0, 1) ∧ decode cL_law 1237 = .ok (.iload_n 3, 1) ∧ decode cL_law 1238 = .ok (.iconst 5, 1) ∧ decode cL_law 1239 = .ok (.iadd, 1) ∧ decode cL_law 1240 = .ok (.iaload, 1) ∧ decode cL_law 1241 = .ok (.invokevirtual 127, 3) ∧ decode cL_law 1244 = .ok (.pop, 1) ∧ decode cL_law 1245 = .ok (.aload_n 2, 1) ∧ decode cL_law 1246 = .ok (.aload_n 0, 1) ∧ decode cL_law 1247 = .ok (.iload_n 3, 1) := by decide +kernel
theorem dL_law_1234 : decode cL_law 1234 = .ok (.iadd, 1) := zd90dec_75.1
theorem dL_law_1235 : decode cL_law 1235 = .ok (.iaload, 1) := zd90dec_75.2.1
theorem dL_law_1236 : decode cL_law 1236 = .ok (.aload_n 0, 1) := zd90dec_75.2.2.1
theorem dL_law_1237 : decode cL_law 1237 = .ok (.iload_n 3, 1) := zd90dec_75.2.2.2.1
theorem dL_law_1238 : decode cL_law 1238 = .ok (.iconst 5, 1) := zd90dec_75.2.2.2.2.1
theorem dL_law_1239 : decode cL_law 1239 = .ok (.iadd, 1) := zd90dec_75.2.2.2.2.2.1
theorem dL_law_1240 : decode cL_law 1240 = .ok (.iaload, 1) := zd90dec_75.2.2.2.2.2.2.1
theorem dL_law_1241 : decode cL_law 1241 = .ok (.invokevirtual 127, 3) := zd90dec_75.2.2.2.2.2.2.2.1
theorem dL_law_1244 : decode cL_law 1244 = .ok (.pop, 1) := zd90dec_75.2.2.2.2.2.2.2.2.1
theorem dL_law_1245 : decode cL_law 1245 = .ok (.aload_n 2, 1) := zd90dec_75.2.2.2.2.2.2.2.2.2.1
theorem dL_law_1246 : decode cL_law 1246 = .ok (.aload_n 0, 1) := zd90dec_75.2.2.2.2.2.2.2.2.2.2.1
theorem dL_law_1247 : decode cL_law 1247 = .ok (.iload_n 3, 1) := zd90dec_75.2.2.2.2.2.2.2.2.2.2.2
theorem zd90dec_76 : decode cL_law 1248 = .ok (.iconst 1, 1) ∧ decode cL_law 1249 = .ok (.iadd, 1) ∧ decode cL_law 1250 = .ok (.iaload, 1) ∧ decode cL_law 1251 = .ok (.aload_n 0, 1) ∧ decode cL_law 1252 = .ok (.iload_n 3, 1) ∧ decode cL_law 1253 = .ok (.iconst 2, 1) ∧ decode cL_law 1254 = .ok (.iadd, 1) ∧ decode cL_law 1255 = .ok (.iaload, 1) ∧ decode cL_law 1256 = .ok (.aload_n 0, 1) ∧ decode cL_law 1257 = .ok (.iload_n 3, 1) ∧ decode cL_law 1258 = .ok (.iconst 3, 1) ∧ decode cL_law 1259 = .ok (.iadd, 1) := by decide +kernel
theorem dL_law_1248 : decode cL_law 1248 = .ok (.iconst 1, 1) := zd90dec_76.1
theorem dL_law_1249 : decode cL_law 1249 = .ok (.iadd, 1) := zd90dec_76.2.1
theorem dL_law_1250 : decode cL_law 1250 = .ok (.iaload, 1) := zd90dec_76.2.2.1
theorem dL_law_1251 : decode cL_law 1251 = .ok (.aload_n 0, 1) := zd90dec_76.2.2.2.1
theorem dL_law_1252 : decode cL_law 1252 = .ok (.iload_n 3, 1) := zd90dec_76.2.2.2.2.1
theorem dL_law_1253 : decode cL_law 1253 = .ok (.iconst 2, 1) := zd90dec_76.2.2.2.2.2.1
theorem dL_law_1254 : decode cL_law 1254 = .ok (.iadd, 1) := zd90dec_76.2.2.2.2.2.2.1
theorem dL_law_1255 : decode cL_law 1255 = .ok (.iaload, 1) := zd90dec_76.2.2.2.2.2.2.2.1
theorem dL_law_1256 : decode cL_law 1256 = .ok (.aload_n 0, 1) := zd90dec_76.2.2.2.2.2.2.2.2.1
theorem dL_law_1257 : decode cL_law 1257 = .ok (.iload_n 3, 1) := zd90dec_76.2.2.2.2.2.2.2.2.2.1
theorem dL_law_1258 : decode cL_law 1258 = .ok (.iconst 3, 1) := zd90dec_76.2.2.2.2.2.2.2.2.2.2.1
theorem dL_law_1259 : decode cL_law 1259 = .ok (.iadd, 1) := zd90dec_76.2.2.2.2.2.2.2.2.2.2.2
theorem zd90dec_77 : decode cL_law 1260 = .ok (.iaload, 1) ∧ decode cL_law 1261 = .ok (.aload_n 0, 1) ∧ decode cL_law 1262 = .ok (.iload_n 3, 1) ∧ decode cL_law 1263 = .ok (.iconst 4, 1) ∧ decode cL_law 1264 = .ok (.iadd, 1) ∧ decode cL_law 1265 = .ok (.iaload, 1) ∧ decode cL_law 1266 = .ok (.aload_n 0, 1) ∧ decode cL_law 1267 = .ok (.iload_n 3, 1) ∧ decode cL_law 1268 = .ok (.iconst 5, 1) ∧ decode cL_law 1269 = .ok (.iadd, 1) ∧ decode cL_law 1270 = .ok (.iaload, 1) ∧ decode cL_law 1271 = .ok (.invokevirtual 131, 3) := by decide +kernel
theorem dL_law_1260 : decode cL_law 1260 = .ok (.iaload, 1) := zd90dec_77.1
theorem dL_law_1261 : decode cL_law 1261 = .ok (.aload_n 0, 1) := zd90dec_77.2.1
theorem dL_law_1262 : decode cL_law 1262 = .ok (.iload_n 3, 1) := zd90dec_77.2.2.1
theorem dL_law_1263 : decode cL_law 1263 = .ok (.iconst 4, 1) := zd90dec_77.2.2.2.1
theorem dL_law_1264 : decode cL_law 1264 = .ok (.iadd, 1) := zd90dec_77.2.2.2.2.1
theorem dL_law_1265 : decode cL_law 1265 = .ok (.iaload, 1) := zd90dec_77.2.2.2.2.2.1
theorem dL_law_1266 : decode cL_law 1266 = .ok (.aload_n 0, 1) := zd90dec_77.2.2.2.2.2.2.1
theorem dL_law_1267 : decode cL_law 1267 = .ok (.iload_n 3, 1) := zd90dec_77.2.2.2.2.2.2.2.1
theorem dL_law_1268 : decode cL_law 1268 = .ok (.iconst 5, 1) := zd90dec_77.2.2.2.2.2.2.2.2.1
theorem dL_law_1269 : decode cL_law 1269 = .ok (.iadd, 1) := zd90dec_77.2.2.2.2.2.2.2.2.2.1
theorem dL_law_1270 : decode cL_law 1270 = .ok (.iaload, 1) := zd90dec_77.2.2.2.2.2.2.2.2.2.2.1
theorem dL_law_1271 : decode cL_law 1271 = .ok (.invokevirtual 131, 3) := zd90dec_77.2.2.2.2.2.2.2.2.2.2.2
theorem zd90dec_78 : decode cL_law 1274 = .ok (.pop, 1) ∧ decode cL_law 1275 = .ok (.goto 339, 3) ∧ decode cL_law 1278 = .ok (.aload_n 1, 1) ∧ decode cL_law 1279 = .ok (.aload_n 0, 1) ∧ decode cL_law 1280 = .ok (.iload_n 3, 1) ∧ decode cL_law 1281 = .ok (.iconst 1, 1) ∧ decode cL_law 1282 = .ok (.iadd, 1) ∧ decode cL_law 1283 = .ok (.iaload, 1) ∧ decode cL_law 1284 = .ok (.aload_n 0, 1) ∧ decode cL_law 1285 = .ok (.iload_n 3, 1) ∧ decode cL_law 1286 = .ok (.iconst 2, 1) ∧ decode cL_law 1287 = .ok (.iadd, 1) := by decide +kernel
theorem dL_law_1274 : decode cL_law 1274 = .ok (.pop, 1) := zd90dec_78.1
theorem dL_law_1275 : decode cL_law 1275 = .ok (.goto 339, 3) := zd90dec_78.2.1
theorem dL_law_1278 : decode cL_law 1278 = .ok (.aload_n 1, 1) := zd90dec_78.2.2.1
theorem dL_law_1279 : decode cL_law 1279 = .ok (.aload_n 0, 1) := zd90dec_78.2.2.2.1
theorem dL_law_1280 : decode cL_law 1280 = .ok (.iload_n 3, 1) := zd90dec_78.2.2.2.2.1
theorem dL_law_1281 : decode cL_law 1281 = .ok (.iconst 1, 1) := zd90dec_78.2.2.2.2.2.1
theorem dL_law_1282 : decode cL_law 1282 = .ok (.iadd, 1) := zd90dec_78.2.2.2.2.2.2.1
theorem dL_law_1283 : decode cL_law 1283 = .ok (.iaload, 1) := zd90dec_78.2.2.2.2.2.2.2.1
theorem dL_law_1284 : decode cL_law 1284 = .ok (.aload_n 0, 1) := zd90dec_78.2.2.2.2.2.2.2.2.1
theorem dL_law_1285 : decode cL_law 1285 = .ok (.iload_n 3, 1) := zd90dec_78.2.2.2.2.2.2.2.2.2.1
theorem dL_law_1286 : decode cL_law 1286 = .ok (.iconst 2, 1) := zd90dec_78.2.2.2.2.2.2.2.2.2.2.1
theorem dL_law_1287 : decode cL_law 1287 = .ok (.iadd, 1) := zd90dec_78.2.2.2.2.2.2.2.2.2.2.2
theorem zd90dec_79 : decode cL_law 1288 = .ok (.iaload, 1) ∧ decode cL_law 1289 = .ok (.aload_n 0, 1) ∧ decode cL_law 1290 = .ok (.iload_n 3, 1) ∧ decode cL_law 1291 = .ok (.iconst 3, 1) ∧ decode cL_law 1292 = .ok (.iadd, 1) ∧ decode cL_law 1293 = .ok (.iaload, 1) ∧ decode cL_law 1294 = .ok (.aload_n 0, 1) ∧ decode cL_law 1295 = .ok (.iload_n 3, 1) ∧ decode cL_law 1296 = .ok (.iconst 4, 1) ∧ decode cL_law 1297 = .ok (.iadd, 1) ∧ decode cL_law 1298 = .ok (.iaload, 1) ∧ decode cL_law 1299 = .ok (.aload_n 0, 1) := by decide +kernel
theorem dL_law_1288 : decode cL_law 1288 = .ok (.iaload, 1) := zd90dec_79.1
theorem dL_law_1289 : decode cL_law 1289 = .ok (.aload_n 0, 1) := zd90dec_79.2.1
theorem dL_law_1290 : decode cL_law 1290 = .ok (.iload_n 3, 1) := zd90dec_79.2.2.1
theorem dL_law_1291 : decode cL_law 1291 = .ok (.iconst 3, 1) := zd90dec_79.2.2.2.1
theorem dL_law_1292 : decode cL_law 1292 = .ok (.iadd, 1) := zd90dec_79.2.2.2.2.1
theorem dL_law_1293 : decode cL_law 1293 = .ok (.iaload, 1) := zd90dec_79.2.2.2.2.2.1
theorem dL_law_1294 : decode cL_law 1294 = .ok (.aload_n 0, 1) := zd90dec_79.2.2.2.2.2.2.1
theorem dL_law_1295 : decode cL_law 1295 = .ok (.iload_n 3, 1) := zd90dec_79.2.2.2.2.2.2.2.1
theorem dL_law_1296 : decode cL_law 1296 = .ok (.iconst 4, 1) := zd90dec_79.2.2.2.2.2.2.2.2.1
theorem dL_law_1297 : decode cL_law 1297 = .ok (.iadd, 1) := zd90dec_79.2.2.2.2.2.2.2.2.2.1
theorem dL_law_1298 : decode cL_law 1298 = .ok (.iaload, 1) := zd90dec_79.2.2.2.2.2.2.2.2.2.2.1
theorem dL_law_1299 : decode cL_law 1299 = .ok (.aload_n 0, 1) := zd90dec_79.2.2.2.2.2.2.2.2.2.2.2
theorem zd90dec_80 : decode cL_law 1300 = .ok (.iload_n 3, 1) ∧ decode cL_law 1301 = .ok (.iconst 5, 1) ∧ decode cL_law 1302 = .ok (.iadd, 1) ∧ decode cL_law 1303 = .ok (.iaload, 1) ∧ decode cL_law 1304 = .ok (.aload_n 0, 1) ∧ decode cL_law 1305 = .ok (.iload_n 3, 1) ∧ decode cL_law 1306 = .ok (.bipush 6, 2) ∧ decode cL_law 1308 = .ok (.iadd, 1) ∧ decode cL_law 1309 = .ok (.iaload, 1) ∧ decode cL_law 1310 = .ok (.invokevirtual 132, 3) ∧ decode cL_law 1313 = .ok (.pop2, 1) ∧ decode cL_law 1314 = .ok (.aload_n 2, 1) := by decide +kernel
theorem dL_law_1300 : decode cL_law 1300 = .ok (.iload_n 3, 1) := zd90dec_80.1
theorem dL_law_1301 : decode cL_law 1301 = .ok (.iconst 5, 1) := zd90dec_80.2.1
theorem dL_law_1302 : decode cL_law 1302 = .ok (.iadd, 1) := zd90dec_80.2.2.1
theorem dL_law_1303 : decode cL_law 1303 = .ok (.iaload, 1) := zd90dec_80.2.2.2.1
theorem dL_law_1304 : decode cL_law 1304 = .ok (.aload_n 0, 1) := zd90dec_80.2.2.2.2.1
theorem dL_law_1305 : decode cL_law 1305 = .ok (.iload_n 3, 1) := zd90dec_80.2.2.2.2.2.1
theorem dL_law_1306 : decode cL_law 1306 = .ok (.bipush 6, 2) := zd90dec_80.2.2.2.2.2.2.1
theorem dL_law_1308 : decode cL_law 1308 = .ok (.iadd, 1) := zd90dec_80.2.2.2.2.2.2.2.1
theorem dL_law_1309 : decode cL_law 1309 = .ok (.iaload, 1) := zd90dec_80.2.2.2.2.2.2.2.2.1
theorem dL_law_1310 : decode cL_law 1310 = .ok (.invokevirtual 132, 3) := zd90dec_80.2.2.2.2.2.2.2.2.2.1
theorem dL_law_1313 : decode cL_law 1313 = .ok (.pop2, 1) := zd90dec_80.2.2.2.2.2.2.2.2.2.2.1
theorem dL_law_1314 : decode cL_law 1314 = .ok (.aload_n 2, 1) := zd90dec_80.2.2.2.2.2.2.2.2.2.2.2
theorem zd90dec_81 : decode cL_law 1315 = .ok (.aload_n 0, 1) ∧ decode cL_law 1316 = .ok (.iload_n 3, 1) ∧ decode cL_law 1317 = .ok (.iconst 1, 1) ∧ decode cL_law 1318 = .ok (.iadd, 1) ∧ decode cL_law 1319 = .ok (.iaload, 1) ∧ decode cL_law 1320 = .ok (.aload_n 0, 1) ∧ decode cL_law 1321 = .ok (.iload_n 3, 1) ∧ decode cL_law 1322 = .ok (.iconst 2, 1) ∧ decode cL_law 1323 = .ok (.iadd, 1) ∧ decode cL_law 1324 = .ok (.iaload, 1) ∧ decode cL_law 1325 = .ok (.aload_n 0, 1) ∧ decode cL_law 1326 = .ok (.iload_n 3, 1) := by decide +kernel
theorem dL_law_1315 : decode cL_law 1315 = .ok (.aload_n 0, 1) := zd90dec_81.1
theorem dL_law_1316 : decode cL_law 1316 = .ok (.iload_n 3, 1) := zd90dec_81.2.1
theorem dL_law_1317 : decode cL_law 1317 = .ok (.iconst 1, 1) := zd90dec_81.2.2.1
theorem dL_law_1318 : decode cL_law 1318 = .ok (.iadd, 1) := zd90dec_81.2.2.2.1
theorem dL_law_1319 : decode cL_law 1319 = .ok (.iaload, 1) := zd90dec_81.2.2.2.2.1
theorem dL_law_1320 : decode cL_law 1320 = .ok (.aload_n 0, 1) := zd90dec_81.2.2.2.2.2.1
theorem dL_law_1321 : decode cL_law 1321 = .ok (.iload_n 3, 1) := zd90dec_81.2.2.2.2.2.2.1
theorem dL_law_1322 : decode cL_law 1322 = .ok (.iconst 2, 1) := zd90dec_81.2.2.2.2.2.2.2.1
theorem dL_law_1323 : decode cL_law 1323 = .ok (.iadd, 1) := zd90dec_81.2.2.2.2.2.2.2.2.1
theorem dL_law_1324 : decode cL_law 1324 = .ok (.iaload, 1) := zd90dec_81.2.2.2.2.2.2.2.2.2.1
theorem dL_law_1325 : decode cL_law 1325 = .ok (.aload_n 0, 1) := zd90dec_81.2.2.2.2.2.2.2.2.2.2.1
theorem dL_law_1326 : decode cL_law 1326 = .ok (.iload_n 3, 1) := zd90dec_81.2.2.2.2.2.2.2.2.2.2.2
theorem zd90dec_82 : decode cL_law 1327 = .ok (.iconst 3, 1) ∧ decode cL_law 1328 = .ok (.iadd, 1) ∧ decode cL_law 1329 = .ok (.iaload, 1) ∧ decode cL_law 1330 = .ok (.aload_n 0, 1) ∧ decode cL_law 1331 = .ok (.iload_n 3, 1) ∧ decode cL_law 1332 = .ok (.iconst 4, 1) ∧ decode cL_law 1333 = .ok (.iadd, 1) ∧ decode cL_law 1334 = .ok (.iaload, 1) ∧ decode cL_law 1335 = .ok (.aload_n 0, 1) ∧ decode cL_law 1336 = .ok (.iload_n 3, 1) ∧ decode cL_law 1337 = .ok (.iconst 5, 1) ∧ decode cL_law 1338 = .ok (.iadd, 1) := by decide +kernel
theorem dL_law_1327 : decode cL_law 1327 = .ok (.iconst 3, 1) := zd90dec_82.1
theorem dL_law_1328 : decode cL_law 1328 = .ok (.iadd, 1) := zd90dec_82.2.1
theorem dL_law_1329 : decode cL_law 1329 = .ok (.iaload, 1) := zd90dec_82.2.2.1
theorem dL_law_1330 : decode cL_law 1330 = .ok (.aload_n 0, 1) := zd90dec_82.2.2.2.1
theorem dL_law_1331 : decode cL_law 1331 = .ok (.iload_n 3, 1) := zd90dec_82.2.2.2.2.1
theorem dL_law_1332 : decode cL_law 1332 = .ok (.iconst 4, 1) := zd90dec_82.2.2.2.2.2.1
theorem dL_law_1333 : decode cL_law 1333 = .ok (.iadd, 1) := zd90dec_82.2.2.2.2.2.2.1
theorem dL_law_1334 : decode cL_law 1334 = .ok (.iaload, 1) := zd90dec_82.2.2.2.2.2.2.2.1
theorem dL_law_1335 : decode cL_law 1335 = .ok (.aload_n 0, 1) := zd90dec_82.2.2.2.2.2.2.2.2.1
theorem dL_law_1336 : decode cL_law 1336 = .ok (.iload_n 3, 1) := zd90dec_82.2.2.2.2.2.2.2.2.2.1
theorem dL_law_1337 : decode cL_law 1337 = .ok (.iconst 5, 1) := zd90dec_82.2.2.2.2.2.2.2.2.2.2.1
theorem dL_law_1338 : decode cL_law 1338 = .ok (.iadd, 1) := zd90dec_82.2.2.2.2.2.2.2.2.2.2.2
theorem zd90dec_83 : decode cL_law 1339 = .ok (.iaload, 1) ∧ decode cL_law 1340 = .ok (.aload_n 0, 1) ∧ decode cL_law 1341 = .ok (.iload_n 3, 1) ∧ decode cL_law 1342 = .ok (.bipush 6, 2) ∧ decode cL_law 1344 = .ok (.iadd, 1) ∧ decode cL_law 1345 = .ok (.iaload, 1) ∧ decode cL_law 1346 = .ok (.invokevirtual 136, 3) ∧ decode cL_law 1349 = .ok (.pop2, 1) ∧ decode cL_law 1350 = .ok (.goto 264, 3) ∧ decode cL_law 1353 = .ok (.aload_n 1, 1) ∧ decode cL_law 1354 = .ok (.invokevirtual 137, 3) ∧ decode cL_law 1357 = .ok (.pop, 1) := by decide +kernel
theorem dL_law_1339 : decode cL_law 1339 = .ok (.iaload, 1) := zd90dec_83.1
theorem dL_law_1340 : decode cL_law 1340 = .ok (.aload_n 0, 1) := zd90dec_83.2.1
theorem dL_law_1341 : decode cL_law 1341 = .ok (.iload_n 3, 1) := zd90dec_83.2.2.1
theorem dL_law_1342 : decode cL_law 1342 = .ok (.bipush 6, 2) := zd90dec_83.2.2.2.1
theorem dL_law_1344 : decode cL_law 1344 = .ok (.iadd, 1) := zd90dec_83.2.2.2.2.1
theorem dL_law_1345 : decode cL_law 1345 = .ok (.iaload, 1) := zd90dec_83.2.2.2.2.2.1
theorem dL_law_1346 : decode cL_law 1346 = .ok (.invokevirtual 136, 3) := zd90dec_83.2.2.2.2.2.2.1
theorem dL_law_1349 : decode cL_law 1349 = .ok (.pop2, 1) := zd90dec_83.2.2.2.2.2.2.2.1
theorem dL_law_1350 : decode cL_law 1350 = .ok (.goto 264, 3) := zd90dec_83.2.2.2.2.2.2.2.2.1
theorem dL_law_1353 : decode cL_law 1353 = .ok (.aload_n 1, 1) := zd90dec_83.2.2.2.2.2.2.2.2.2.1
theorem dL_law_1354 : decode cL_law 1354 = .ok (.invokevirtual 137, 3) := zd90dec_83.2.2.2.2.2.2.2.2.2.2.1
theorem dL_law_1357 : decode cL_law 1357 = .ok (.pop, 1) := zd90dec_83.2.2.2.2.2.2.2.2.2.2.2
theorem zd90dec_84 : decode cL_law 1358 = .ok (.aload_n 2, 1) ∧ decode cL_law 1359 = .ok (.invokevirtual 140, 3) ∧ decode cL_law 1362 = .ok (.pop, 1) ∧ decode cL_law 1363 = .ok (.goto 251, 3) ∧ decode cL_law 1366 = .ok (.aload_n 1, 1) ∧ decode cL_law 1367 = .ok (.invokevirtual 141, 3) ∧ decode cL_law 1370 = .ok (.pop, 1) ∧ decode cL_law 1371 = .ok (.aload_n 2, 1) ∧ decode cL_law 1372 = .ok (.invokevirtual 144, 3) ∧ decode cL_law 1375 = .ok (.pop, 1) ∧ decode cL_law 1376 = .ok (.goto 238, 3) ∧ decode cL_law 1379 = .ok (.aload_n 1, 1) := by decide +kernel
theorem dL_law_1358 : decode cL_law 1358 = .ok (.aload_n 2, 1) := zd90dec_84.1
theorem dL_law_1359 : decode cL_law 1359 = .ok (.invokevirtual 140, 3) := zd90dec_84.2.1
theorem dL_law_1362 : decode cL_law 1362 = .ok (.pop, 1) := zd90dec_84.2.2.1
theorem dL_law_1363 : decode cL_law 1363 = .ok (.goto 251, 3) := zd90dec_84.2.2.2.1
theorem dL_law_1366 : decode cL_law 1366 = .ok (.aload_n 1, 1) := zd90dec_84.2.2.2.2.1
theorem dL_law_1367 : decode cL_law 1367 = .ok (.invokevirtual 141, 3) := zd90dec_84.2.2.2.2.2.1
theorem dL_law_1370 : decode cL_law 1370 = .ok (.pop, 1) := zd90dec_84.2.2.2.2.2.2.1
theorem dL_law_1371 : decode cL_law 1371 = .ok (.aload_n 2, 1) := zd90dec_84.2.2.2.2.2.2.2.1
theorem dL_law_1372 : decode cL_law 1372 = .ok (.invokevirtual 144, 3) := zd90dec_84.2.2.2.2.2.2.2.2.1
theorem dL_law_1375 : decode cL_law 1375 = .ok (.pop, 1) := zd90dec_84.2.2.2.2.2.2.2.2.2.1
theorem dL_law_1376 : decode cL_law 1376 = .ok (.goto 238, 3) := zd90dec_84.2.2.2.2.2.2.2.2.2.2.1
theorem dL_law_1379 : decode cL_law 1379 = .ok (.aload_n 1, 1) := zd90dec_84.2.2.2.2.2.2.2.2.2.2.2
theorem zd90dec_85 : decode cL_law 1380 = .ok (.aload_n 0, 1) ∧ decode cL_law 1381 = .ok (.iload_n 3, 1) ∧ decode cL_law 1382 = .ok (.iconst 1, 1) ∧ decode cL_law 1383 = .ok (.iadd, 1) ∧ decode cL_law 1384 = .ok (.iaload, 1) ∧ decode cL_law 1385 = .ok (.aload_n 0, 1) ∧ decode cL_law 1386 = .ok (.iload_n 3, 1) ∧ decode cL_law 1387 = .ok (.iconst 2, 1) ∧ decode cL_law 1388 = .ok (.iadd, 1) ∧ decode cL_law 1389 = .ok (.iaload, 1) ∧ decode cL_law 1390 = .ok (.aload_n 0, 1) ∧ decode cL_law 1391 = .ok (.iload_n 3, 1) := by decide +kernel
theorem dL_law_1380 : decode cL_law 1380 = .ok (.aload_n 0, 1) := zd90dec_85.1
theorem dL_law_1381 : decode cL_law 1381 = .ok (.iload_n 3, 1) := zd90dec_85.2.1
theorem dL_law_1382 : decode cL_law 1382 = .ok (.iconst 1, 1) := zd90dec_85.2.2.1
theorem dL_law_1383 : decode cL_law 1383 = .ok (.iadd, 1) := zd90dec_85.2.2.2.1
theorem dL_law_1384 : decode cL_law 1384 = .ok (.iaload, 1) := zd90dec_85.2.2.2.2.1
theorem dL_law_1385 : decode cL_law 1385 = .ok (.aload_n 0, 1) := zd90dec_85.2.2.2.2.2.1
theorem dL_law_1386 : decode cL_law 1386 = .ok (.iload_n 3, 1) := zd90dec_85.2.2.2.2.2.2.1
theorem dL_law_1387 : decode cL_law 1387 = .ok (.iconst 2, 1) := zd90dec_85.2.2.2.2.2.2.2.1
theorem dL_law_1388 : decode cL_law 1388 = .ok (.iadd, 1) := zd90dec_85.2.2.2.2.2.2.2.2.1
theorem dL_law_1389 : decode cL_law 1389 = .ok (.iaload, 1) := zd90dec_85.2.2.2.2.2.2.2.2.2.1
theorem dL_law_1390 : decode cL_law 1390 = .ok (.aload_n 0, 1) := zd90dec_85.2.2.2.2.2.2.2.2.2.2.1
theorem dL_law_1391 : decode cL_law 1391 = .ok (.iload_n 3, 1) := zd90dec_85.2.2.2.2.2.2.2.2.2.2.2
theorem zd90dec_86 : decode cL_law 1392 = .ok (.iconst 3, 1) ∧ decode cL_law 1393 = .ok (.iadd, 1) ∧ decode cL_law 1394 = .ok (.iaload, 1) ∧ decode cL_law 1395 = .ok (.invokevirtual 145, 3) ∧ decode cL_law 1398 = .ok (.pop, 1) ∧ decode cL_law 1399 = .ok (.aload_n 2, 1) ∧ decode cL_law 1400 = .ok (.aload_n 0, 1) ∧ decode cL_law 1401 = .ok (.iload_n 3, 1) ∧ decode cL_law 1402 = .ok (.iconst 1, 1) ∧ decode cL_law 1403 = .ok (.iadd, 1) ∧ decode cL_law 1404 = .ok (.iaload, 1) ∧ decode cL_law 1405 = .ok (.aload_n 0, 1) := by decide +kernel
theorem dL_law_1392 : decode cL_law 1392 = .ok (.iconst 3, 1) := zd90dec_86.1
theorem dL_law_1393 : decode cL_law 1393 = .ok (.iadd, 1) := zd90dec_86.2.1
theorem dL_law_1394 : decode cL_law 1394 = .ok (.iaload, 1) := zd90dec_86.2.2.1
theorem dL_law_1395 : decode cL_law 1395 = .ok (.invokevirtual 145, 3) := zd90dec_86.2.2.2.1
theorem dL_law_1398 : decode cL_law 1398 = .ok (.pop, 1) := zd90dec_86.2.2.2.2.1
theorem dL_law_1399 : decode cL_law 1399 = .ok (.aload_n 2, 1) := zd90dec_86.2.2.2.2.2.1
theorem dL_law_1400 : decode cL_law 1400 = .ok (.aload_n 0, 1) := zd90dec_86.2.2.2.2.2.2.1
theorem dL_law_1401 : decode cL_law 1401 = .ok (.iload_n 3, 1) := zd90dec_86.2.2.2.2.2.2.2.1
theorem dL_law_1402 : decode cL_law 1402 = .ok (.iconst 1, 1) := zd90dec_86.2.2.2.2.2.2.2.2.1
theorem dL_law_1403 : decode cL_law 1403 = .ok (.iadd, 1) := zd90dec_86.2.2.2.2.2.2.2.2.2.1
theorem dL_law_1404 : decode cL_law 1404 = .ok (.iaload, 1) := zd90dec_86.2.2.2.2.2.2.2.2.2.2.1
theorem dL_law_1405 : decode cL_law 1405 = .ok (.aload_n 0, 1) := zd90dec_86.2.2.2.2.2.2.2.2.2.2.2
theorem zd90dec_87 : decode cL_law 1406 = .ok (.iload_n 3, 1) ∧ decode cL_law 1407 = .ok (.iconst 2, 1) ∧ decode cL_law 1408 = .ok (.iadd, 1) ∧ decode cL_law 1409 = .ok (.iaload, 1) ∧ decode cL_law 1410 = .ok (.aload_n 0, 1) ∧ decode cL_law 1411 = .ok (.iload_n 3, 1) ∧ decode cL_law 1412 = .ok (.iconst 3, 1) ∧ decode cL_law 1413 = .ok (.iadd, 1) ∧ decode cL_law 1414 = .ok (.iaload, 1) ∧ decode cL_law 1415 = .ok (.invokevirtual 148, 3) ∧ decode cL_law 1418 = .ok (.pop, 1) ∧ decode cL_law 1419 = .ok (.goto 195, 3) := by decide +kernel
theorem dL_law_1406 : decode cL_law 1406 = .ok (.iload_n 3, 1) := zd90dec_87.1
theorem dL_law_1407 : decode cL_law 1407 = .ok (.iconst 2, 1) := zd90dec_87.2.1
theorem dL_law_1408 : decode cL_law 1408 = .ok (.iadd, 1) := zd90dec_87.2.2.1
theorem dL_law_1409 : decode cL_law 1409 = .ok (.iaload, 1) := zd90dec_87.2.2.2.1
theorem dL_law_1410 : decode cL_law 1410 = .ok (.aload_n 0, 1) := zd90dec_87.2.2.2.2.1
theorem dL_law_1411 : decode cL_law 1411 = .ok (.iload_n 3, 1) := zd90dec_87.2.2.2.2.2.1
theorem dL_law_1412 : decode cL_law 1412 = .ok (.iconst 3, 1) := zd90dec_87.2.2.2.2.2.2.1
theorem dL_law_1413 : decode cL_law 1413 = .ok (.iadd, 1) := zd90dec_87.2.2.2.2.2.2.2.1
theorem dL_law_1414 : decode cL_law 1414 = .ok (.iaload, 1) := zd90dec_87.2.2.2.2.2.2.2.2.1
theorem dL_law_1415 : decode cL_law 1415 = .ok (.invokevirtual 148, 3) := zd90dec_87.2.2.2.2.2.2.2.2.2.1
theorem dL_law_1418 : decode cL_law 1418 = .ok (.pop, 1) := zd90dec_87.2.2.2.2.2.2.2.2.2.2.1
theorem dL_law_1419 : decode cL_law 1419 = .ok (.goto 195, 3) := zd90dec_87.2.2.2.2.2.2.2.2.2.2.2
theorem zd90dec_88 : decode cL_law 1422 = .ok (.aload_n 1, 1) ∧ decode cL_law 1423 = .ok (.aload_n 0, 1) ∧ decode cL_law 1424 = .ok (.iload_n 3, 1) ∧ decode cL_law 1425 = .ok (.iconst 1, 1) ∧ decode cL_law 1426 = .ok (.iadd, 1) ∧ decode cL_law 1427 = .ok (.iaload, 1) ∧ decode cL_law 1428 = .ok (.aload_n 0, 1) ∧ decode cL_law 1429 = .ok (.iload_n 3, 1) ∧ decode cL_law 1430 = .ok (.iconst 2, 1) ∧ decode cL_law 1431 = .ok (.iadd, 1) ∧ decode cL_law 1432 = .ok (.iaload, 1) ∧ decode cL_law 1433 = .ok (.aload_n 0, 1) := by decide +kernel
theorem dL_law_1422 : decode cL_law 1422 = .ok (.aload_n 1, 1) := zd90dec_88.1
theorem dL_law_1423 : decode cL_law 1423 = .ok (.aload_n 0, 1) := zd90dec_88.2.1
theorem dL_law_1424 : decode cL_law 1424 = .ok (.iload_n 3, 1) := zd90dec_88.2.2.1
theorem dL_law_1425 : decode cL_law 1425 = .ok (.iconst 1, 1) := zd90dec_88.2.2.2.1
theorem dL_law_1426 : decode cL_law 1426 = .ok (.iadd, 1) := zd90dec_88.2.2.2.2.1
theorem dL_law_1427 : decode cL_law 1427 = .ok (.iaload, 1) := zd90dec_88.2.2.2.2.2.1
theorem dL_law_1428 : decode cL_law 1428 = .ok (.aload_n 0, 1) := zd90dec_88.2.2.2.2.2.2.1
theorem dL_law_1429 : decode cL_law 1429 = .ok (.iload_n 3, 1) := zd90dec_88.2.2.2.2.2.2.2.1
theorem dL_law_1430 : decode cL_law 1430 = .ok (.iconst 2, 1) := zd90dec_88.2.2.2.2.2.2.2.2.1
theorem dL_law_1431 : decode cL_law 1431 = .ok (.iadd, 1) := zd90dec_88.2.2.2.2.2.2.2.2.2.1
theorem dL_law_1432 : decode cL_law 1432 = .ok (.iaload, 1) := zd90dec_88.2.2.2.2.2.2.2.2.2.2.1
theorem dL_law_1433 : decode cL_law 1433 = .ok (.aload_n 0, 1) := zd90dec_88.2.2.2.2.2.2.2.2.2.2.2
theorem zd90dec_89 : decode cL_law 1434 = .ok (.iload_n 3, 1) ∧ decode cL_law 1435 = .ok (.iconst 3, 1) ∧ decode cL_law 1436 = .ok (.iadd, 1) ∧ decode cL_law 1437 = .ok (.iaload, 1) ∧ decode cL_law 1438 = .ok (.invokevirtual 149, 3) ∧ decode cL_law 1441 = .ok (.pop, 1) ∧ decode cL_law 1442 = .ok (.aload_n 2, 1) ∧ decode cL_law 1443 = .ok (.aload_n 0, 1) ∧ decode cL_law 1444 = .ok (.iload_n 3, 1) ∧ decode cL_law 1445 = .ok (.iconst 1, 1) ∧ decode cL_law 1446 = .ok (.iadd, 1) ∧ decode cL_law 1447 = .ok (.iaload, 1) := by decide +kernel
theorem dL_law_1434 : decode cL_law 1434 = .ok (.iload_n 3, 1) := zd90dec_89.1
theorem dL_law_1435 : decode cL_law 1435 = .ok (.iconst 3, 1) := zd90dec_89.2.1
theorem dL_law_1436 : decode cL_law 1436 = .ok (.iadd, 1) := zd90dec_89.2.2.1
theorem dL_law_1437 : decode cL_law 1437 = .ok (.iaload, 1) := zd90dec_89.2.2.2.1
theorem dL_law_1438 : decode cL_law 1438 = .ok (.invokevirtual 149, 3) := zd90dec_89.2.2.2.2.1
theorem dL_law_1441 : decode cL_law 1441 = .ok (.pop, 1) := zd90dec_89.2.2.2.2.2.1
theorem dL_law_1442 : decode cL_law 1442 = .ok (.aload_n 2, 1) := zd90dec_89.2.2.2.2.2.2.1
theorem dL_law_1443 : decode cL_law 1443 = .ok (.aload_n 0, 1) := zd90dec_89.2.2.2.2.2.2.2.1
theorem dL_law_1444 : decode cL_law 1444 = .ok (.iload_n 3, 1) := zd90dec_89.2.2.2.2.2.2.2.2.1
theorem dL_law_1445 : decode cL_law 1445 = .ok (.iconst 1, 1) := zd90dec_89.2.2.2.2.2.2.2.2.2.1
theorem dL_law_1446 : decode cL_law 1446 = .ok (.iadd, 1) := zd90dec_89.2.2.2.2.2.2.2.2.2.2.1
theorem dL_law_1447 : decode cL_law 1447 = .ok (.iaload, 1) := zd90dec_89.2.2.2.2.2.2.2.2.2.2.2
theorem zd90dec_90 : decode cL_law 1448 = .ok (.aload_n 0, 1) ∧ decode cL_law 1449 = .ok (.iload_n 3, 1) ∧ decode cL_law 1450 = .ok (.iconst 2, 1) ∧ decode cL_law 1451 = .ok (.iadd, 1) ∧ decode cL_law 1452 = .ok (.iaload, 1) ∧ decode cL_law 1453 = .ok (.aload_n 0, 1) ∧ decode cL_law 1454 = .ok (.iload_n 3, 1) ∧ decode cL_law 1455 = .ok (.iconst 3, 1) ∧ decode cL_law 1456 = .ok (.iadd, 1) ∧ decode cL_law 1457 = .ok (.iaload, 1) ∧ decode cL_law 1458 = .ok (.invokevirtual 152, 3) ∧ decode cL_law 1461 = .ok (.pop, 1) := by decide +kernel
theorem dL_law_1448 : decode cL_law 1448 = .ok (.aload_n 0, 1) := zd90dec_90.1
theorem dL_law_1449 : decode cL_law 1449 = .ok (.iload_n 3, 1) := zd90dec_90.2.1
theorem dL_law_1450 : decode cL_law 1450 = .ok (.iconst 2, 1) := zd90dec_90.2.2.1
theorem dL_law_1451 : decode cL_law 1451 = .ok (.iadd, 1) := zd90dec_90.2.2.2.1
theorem dL_law_1452 : decode cL_law 1452 = .ok (.iaload, 1) := zd90dec_90.2.2.2.2.1
theorem dL_law_1453 : decode cL_law 1453 = .ok (.aload_n 0, 1) := zd90dec_90.2.2.2.2.2.1
theorem dL_law_1454 : decode cL_law 1454 = .ok (.iload_n 3, 1) := zd90dec_90.2.2.2.2.2.2.1
theorem dL_law_1455 : decode cL_law 1455 = .ok (.iconst 3, 1) := zd90dec_90.2.2.2.2.2.2.2.1
theorem dL_law_1456 : decode cL_law 1456 = .ok (.iadd, 1) := zd90dec_90.2.2.2.2.2.2.2.2.1
theorem dL_law_1457 : decode cL_law 1457 = .ok (.iaload, 1) := zd90dec_90.2.2.2.2.2.2.2.2.2.1
theorem dL_law_1458 : decode cL_law 1458 = .ok (.invokevirtual 152, 3) := zd90dec_90.2.2.2.2.2.2.2.2.2.2.1
theorem dL_law_1461 : decode cL_law 1461 = .ok (.pop, 1) := zd90dec_90.2.2.2.2.2.2.2.2.2.2.2
theorem zd90dec_91 : decode cL_law 1462 = .ok (.goto 152, 3) ∧ decode cL_law 1465 = .ok (.aload_n 1, 1) ∧ decode cL_law 1466 = .ok (.aload_n 0, 1) ∧ decode cL_law 1467 = .ok (.iload_n 3, 1) ∧ decode cL_law 1468 = .ok (.iconst 1, 1) ∧ decode cL_law 1469 = .ok (.iadd, 1) ∧ decode cL_law 1470 = .ok (.iaload, 1) ∧ decode cL_law 1471 = .ok (.aload_n 0, 1) ∧ decode cL_law 1472 = .ok (.iload_n 3, 1) ∧ decode cL_law 1473 = .ok (.iconst 2, 1) ∧ decode cL_law 1474 = .ok (.iadd, 1) ∧ decode cL_law 1475 = .ok (.iaload, 1) := by decide +kernel
theorem dL_law_1462 : decode cL_law 1462 = .ok (.goto 152, 3) := zd90dec_91.1
theorem dL_law_1465 : decode cL_law 1465 = .ok (.aload_n 1, 1) := zd90dec_91.2.1
theorem dL_law_1466 : decode cL_law 1466 = .ok (.aload_n 0, 1) := zd90dec_91.2.2.1
theorem dL_law_1467 : decode cL_law 1467 = .ok (.iload_n 3, 1) := zd90dec_91.2.2.2.1
theorem dL_law_1468 : decode cL_law 1468 = .ok (.iconst 1, 1) := zd90dec_91.2.2.2.2.1
theorem dL_law_1469 : decode cL_law 1469 = .ok (.iadd, 1) := zd90dec_91.2.2.2.2.2.1
theorem dL_law_1470 : decode cL_law 1470 = .ok (.iaload, 1) := zd90dec_91.2.2.2.2.2.2.1
theorem dL_law_1471 : decode cL_law 1471 = .ok (.aload_n 0, 1) := zd90dec_91.2.2.2.2.2.2.2.1
theorem dL_law_1472 : decode cL_law 1472 = .ok (.iload_n 3, 1) := zd90dec_91.2.2.2.2.2.2.2.2.1
theorem dL_law_1473 : decode cL_law 1473 = .ok (.iconst 2, 1) := zd90dec_91.2.2.2.2.2.2.2.2.2.1
theorem dL_law_1474 : decode cL_law 1474 = .ok (.iadd, 1) := zd90dec_91.2.2.2.2.2.2.2.2.2.2.1
theorem dL_law_1475 : decode cL_law 1475 = .ok (.iaload, 1) := zd90dec_91.2.2.2.2.2.2.2.2.2.2.2
theorem zd90dec_92 : decode cL_law 1476 = .ok (.aload_n 0, 1) ∧ decode cL_law 1477 = .ok (.iload_n 3, 1) ∧ decode cL_law 1478 = .ok (.iconst 3, 1) ∧ decode cL_law 1479 = .ok (.iadd, 1) ∧ decode cL_law 1480 = .ok (.iaload, 1) ∧ decode cL_law 1481 = .ok (.aload_n 0, 1) ∧ decode cL_law 1482 = .ok (.iload_n 3, 1) ∧ decode cL_law 1483 = .ok (.iconst 4, 1) ∧ decode cL_law 1484 = .ok (.iadd, 1) ∧ decode cL_law 1485 = .ok (.iaload, 1) ∧ decode cL_law 1486 = .ok (.aload_n 0, 1) ∧ decode cL_law 1487 = .ok (.iload_n 3, 1) := by decide +kernel
theorem dL_law_1476 : decode cL_law 1476 = .ok (.aload_n 0, 1) := zd90dec_92.1
theorem dL_law_1477 : decode cL_law 1477 = .ok (.iload_n 3, 1) := zd90dec_92.2.1
theorem dL_law_1478 : decode cL_law 1478 = .ok (.iconst 3, 1) := zd90dec_92.2.2.1
theorem dL_law_1479 : decode cL_law 1479 = .ok (.iadd, 1) := zd90dec_92.2.2.2.1
theorem dL_law_1480 : decode cL_law 1480 = .ok (.iaload, 1) := zd90dec_92.2.2.2.2.1
theorem dL_law_1481 : decode cL_law 1481 = .ok (.aload_n 0, 1) := zd90dec_92.2.2.2.2.2.1
theorem dL_law_1482 : decode cL_law 1482 = .ok (.iload_n 3, 1) := zd90dec_92.2.2.2.2.2.2.1
theorem dL_law_1483 : decode cL_law 1483 = .ok (.iconst 4, 1) := zd90dec_92.2.2.2.2.2.2.2.1
theorem dL_law_1484 : decode cL_law 1484 = .ok (.iadd, 1) := zd90dec_92.2.2.2.2.2.2.2.2.1
theorem dL_law_1485 : decode cL_law 1485 = .ok (.iaload, 1) := zd90dec_92.2.2.2.2.2.2.2.2.2.1
theorem dL_law_1486 : decode cL_law 1486 = .ok (.aload_n 0, 1) := zd90dec_92.2.2.2.2.2.2.2.2.2.2.1
theorem dL_law_1487 : decode cL_law 1487 = .ok (.iload_n 3, 1) := zd90dec_92.2.2.2.2.2.2.2.2.2.2.2
theorem zd90dec_93 : decode cL_law 1488 = .ok (.iconst 5, 1) ∧ decode cL_law 1489 = .ok (.iadd, 1) ∧ decode cL_law 1490 = .ok (.iaload, 1) ∧ decode cL_law 1491 = .ok (.invokevirtual 153, 3) ∧ decode cL_law 1494 = .ok (.pop, 1) ∧ decode cL_law 1495 = .ok (.aload_n 2, 1) ∧ decode cL_law 1496 = .ok (.aload_n 0, 1) ∧ decode cL_law 1497 = .ok (.iload_n 3, 1) ∧ decode cL_law 1498 = .ok (.iconst 1, 1) ∧ decode cL_law 1499 = .ok (.iadd, 1) ∧ decode cL_law 1500 = .ok (.iaload, 1) ∧ decode cL_law 1501 = .ok (.aload_n 0, 1) := by decide +kernel
theorem dL_law_1488 : decode cL_law 1488 = .ok (.iconst 5, 1) := zd90dec_93.1
theorem dL_law_1489 : decode cL_law 1489 = .ok (.iadd, 1) := zd90dec_93.2.1
theorem dL_law_1490 : decode cL_law 1490 = .ok (.iaload, 1) := zd90dec_93.2.2.1
theorem dL_law_1491 : decode cL_law 1491 = .ok (.invokevirtual 153, 3) := zd90dec_93.2.2.2.1
theorem dL_law_1494 : decode cL_law 1494 = .ok (.pop, 1) := zd90dec_93.2.2.2.2.1
theorem dL_law_1495 : decode cL_law 1495 = .ok (.aload_n 2, 1) := zd90dec_93.2.2.2.2.2.1
theorem dL_law_1496 : decode cL_law 1496 = .ok (.aload_n 0, 1) := zd90dec_93.2.2.2.2.2.2.1
theorem dL_law_1497 : decode cL_law 1497 = .ok (.iload_n 3, 1) := zd90dec_93.2.2.2.2.2.2.2.1
theorem dL_law_1498 : decode cL_law 1498 = .ok (.iconst 1, 1) := zd90dec_93.2.2.2.2.2.2.2.2.1
theorem dL_law_1499 : decode cL_law 1499 = .ok (.iadd, 1) := zd90dec_93.2.2.2.2.2.2.2.2.2.1
theorem dL_law_1500 : decode cL_law 1500 = .ok (.iaload, 1) := zd90dec_93.2.2.2.2.2.2.2.2.2.2.1
theorem dL_law_1501 : decode cL_law 1501 = .ok (.aload_n 0, 1) := zd90dec_93.2.2.2.2.2.2.2.2.2.2.2
theorem zd90dec_94 : decode cL_law 1502 = .ok (.iload_n 3, 1) ∧ decode cL_law 1503 = .ok (.iconst 2, 1) ∧ decode cL_law 1504 = .ok (.iadd, 1) ∧ decode cL_law 1505 = .ok (.iaload, 1) ∧ decode cL_law 1506 = .ok (.aload_n 0, 1) ∧ decode cL_law 1507 = .ok (.iload_n 3, 1) ∧ decode cL_law 1508 = .ok (.iconst 3, 1) ∧ decode cL_law 1509 = .ok (.iadd, 1) ∧ decode cL_law 1510 = .ok (.iaload, 1) ∧ decode cL_law 1511 = .ok (.aload_n 0, 1) ∧ decode cL_law 1512 = .ok (.iload_n 3, 1) ∧ decode cL_law 1513 = .ok (.iconst 4, 1) := by decide +kernel
theorem dL_law_1502 : decode cL_law 1502 = .ok (.iload_n 3, 1) := zd90dec_94.1
theorem dL_law_1503 : decode cL_law 1503 = .ok (.iconst 2, 1) := zd90dec_94.2.1
theorem dL_law_1504 : decode cL_law 1504 = .ok (.iadd, 1) := zd90dec_94.2.2.1
theorem dL_law_1505 : decode cL_law 1505 = .ok (.iaload, 1) := zd90dec_94.2.2.2.1
theorem dL_law_1506 : decode cL_law 1506 = .ok (.aload_n 0, 1) := zd90dec_94.2.2.2.2.1
theorem dL_law_1507 : decode cL_law 1507 = .ok (.iload_n 3, 1) := zd90dec_94.2.2.2.2.2.1
theorem dL_law_1508 : decode cL_law 1508 = .ok (.iconst 3, 1) := zd90dec_94.2.2.2.2.2.2.1
theorem dL_law_1509 : decode cL_law 1509 = .ok (.iadd, 1) := zd90dec_94.2.2.2.2.2.2.2.1
theorem dL_law_1510 : decode cL_law 1510 = .ok (.iaload, 1) := zd90dec_94.2.2.2.2.2.2.2.2.1
theorem dL_law_1511 : decode cL_law 1511 = .ok (.aload_n 0, 1) := zd90dec_94.2.2.2.2.2.2.2.2.2.1
theorem dL_law_1512 : decode cL_law 1512 = .ok (.iload_n 3, 1) := zd90dec_94.2.2.2.2.2.2.2.2.2.2.1
theorem dL_law_1513 : decode cL_law 1513 = .ok (.iconst 4, 1) := zd90dec_94.2.2.2.2.2.2.2.2.2.2.2
theorem zd90dec_95 : decode cL_law 1514 = .ok (.iadd, 1) ∧ decode cL_law 1515 = .ok (.iaload, 1) ∧ decode cL_law 1516 = .ok (.aload_n 0, 1) ∧ decode cL_law 1517 = .ok (.iload_n 3, 1) ∧ decode cL_law 1518 = .ok (.iconst 5, 1) ∧ decode cL_law 1519 = .ok (.iadd, 1) ∧ decode cL_law 1520 = .ok (.iaload, 1) ∧ decode cL_law 1521 = .ok (.invokevirtual 156, 3) ∧ decode cL_law 1524 = .ok (.pop, 1) ∧ decode cL_law 1525 = .ok (.goto 89, 3) ∧ decode cL_law 1528 = .ok (.aload_n 1, 1) ∧ decode cL_law 1529 = .ok (.aload_n 0, 1) := by decide +kernel
theorem dL_law_1514 : decode cL_law 1514 = .ok (.iadd, 1) := zd90dec_95.1
theorem dL_law_1515 : decode cL_law 1515 = .ok (.iaload, 1) := zd90dec_95.2.1
theorem dL_law_1516 : decode cL_law 1516 = .ok (.aload_n 0, 1) := zd90dec_95.2.2.1
theorem dL_law_1517 : decode cL_law 1517 = .ok (.iload_n 3, 1) := zd90dec_95.2.2.2.1
theorem dL_law_1518 : decode cL_law 1518 = .ok (.iconst 5, 1) := zd90dec_95.2.2.2.2.1
theorem dL_law_1519 : decode cL_law 1519 = .ok (.iadd, 1) := zd90dec_95.2.2.2.2.2.1
theorem dL_law_1520 : decode cL_law 1520 = .ok (.iaload, 1) := zd90dec_95.2.2.2.2.2.2.1
theorem dL_law_1521 : decode cL_law 1521 = .ok (.invokevirtual 156, 3) := zd90dec_95.2.2.2.2.2.2.2.1
theorem dL_law_1524 : decode cL_law 1524 = .ok (.pop, 1) := zd90dec_95.2.2.2.2.2.2.2.2.1
theorem dL_law_1525 : decode cL_law 1525 = .ok (.goto 89, 3) := zd90dec_95.2.2.2.2.2.2.2.2.2.1
theorem dL_law_1528 : decode cL_law 1528 = .ok (.aload_n 1, 1) := zd90dec_95.2.2.2.2.2.2.2.2.2.2.1
theorem dL_law_1529 : decode cL_law 1529 = .ok (.aload_n 0, 1) := zd90dec_95.2.2.2.2.2.2.2.2.2.2.2
theorem zd90dec_96 : decode cL_law 1530 = .ok (.iload_n 3, 1) ∧ decode cL_law 1531 = .ok (.iconst 1, 1) ∧ decode cL_law 1532 = .ok (.iadd, 1) ∧ decode cL_law 1533 = .ok (.iaload, 1) ∧ decode cL_law 1534 = .ok (.aload_n 0, 1) ∧ decode cL_law 1535 = .ok (.iload_n 3, 1) ∧ decode cL_law 1536 = .ok (.iconst 2, 1) ∧ decode cL_law 1537 = .ok (.iadd, 1) ∧ decode cL_law 1538 = .ok (.iaload, 1) ∧ decode cL_law 1539 = .ok (.aload_n 0, 1) ∧ decode cL_law 1540 = .ok (.iload_n 3, 1) ∧ decode cL_law 1541 = .ok (.iconst 3, 1) := by decide +kernel
theorem dL_law_1530 : decode cL_law 1530 = .ok (.iload_n 3, 1) := zd90dec_96.1
theorem dL_law_1531 : decode cL_law 1531 = .ok (.iconst 1, 1) := zd90dec_96.2.1
theorem dL_law_1532 : decode cL_law 1532 = .ok (.iadd, 1) := zd90dec_96.2.2.1
theorem dL_law_1533 : decode cL_law 1533 = .ok (.iaload, 1) := zd90dec_96.2.2.2.1
theorem dL_law_1534 : decode cL_law 1534 = .ok (.aload_n 0, 1) := zd90dec_96.2.2.2.2.1
theorem dL_law_1535 : decode cL_law 1535 = .ok (.iload_n 3, 1) := zd90dec_96.2.2.2.2.2.1
theorem dL_law_1536 : decode cL_law 1536 = .ok (.iconst 2, 1) := zd90dec_96.2.2.2.2.2.2.1
theorem dL_law_1537 : decode cL_law 1537 = .ok (.iadd, 1) := zd90dec_96.2.2.2.2.2.2.2.1
theorem dL_law_1538 : decode cL_law 1538 = .ok (.iaload, 1) := zd90dec_96.2.2.2.2.2.2.2.2.1
theorem dL_law_1539 : decode cL_law 1539 = .ok (.aload_n 0, 1) := zd90dec_96.2.2.2.2.2.2.2.2.2.1
theorem dL_law_1540 : decode cL_law 1540 = .ok (.iload_n 3, 1) := zd90dec_96.2.2.2.2.2.2.2.2.2.2.1
theorem dL_law_1541 : decode cL_law 1541 = .ok (.iconst 3, 1) := zd90dec_96.2.2.2.2.2.2.2.2.2.2.2
theorem zd90dec_97 : decode cL_law 1542 = .ok (.iadd, 1) ∧ decode cL_law 1543 = .ok (.iaload, 1) ∧ decode cL_law 1544 = .ok (.aload_n 0, 1) ∧ decode cL_law 1545 = .ok (.iload_n 3, 1) ∧ decode cL_law 1546 = .ok (.iconst 4, 1) ∧ decode cL_law 1547 = .ok (.iadd, 1) ∧ decode cL_law 1548 = .ok (.iaload, 1) ∧ decode cL_law 1549 = .ok (.invokevirtual 157, 3) ∧ decode cL_law 1552 = .ok (.pop, 1) ∧ decode cL_law 1553 = .ok (.aload_n 2, 1) ∧ decode cL_law 1554 = .ok (.aload_n 0, 1) ∧ decode cL_law 1555 = .ok (.iload_n 3, 1) := by decide +kernel
theorem dL_law_1542 : decode cL_law 1542 = .ok (.iadd, 1) := zd90dec_97.1
theorem dL_law_1543 : decode cL_law 1543 = .ok (.iaload, 1) := zd90dec_97.2.1
theorem dL_law_1544 : decode cL_law 1544 = .ok (.aload_n 0, 1) := zd90dec_97.2.2.1
theorem dL_law_1545 : decode cL_law 1545 = .ok (.iload_n 3, 1) := zd90dec_97.2.2.2.1
theorem dL_law_1546 : decode cL_law 1546 = .ok (.iconst 4, 1) := zd90dec_97.2.2.2.2.1
theorem dL_law_1547 : decode cL_law 1547 = .ok (.iadd, 1) := zd90dec_97.2.2.2.2.2.1
theorem dL_law_1548 : decode cL_law 1548 = .ok (.iaload, 1) := zd90dec_97.2.2.2.2.2.2.1
theorem dL_law_1549 : decode cL_law 1549 = .ok (.invokevirtual 157, 3) := zd90dec_97.2.2.2.2.2.2.2.1
theorem dL_law_1552 : decode cL_law 1552 = .ok (.pop, 1) := zd90dec_97.2.2.2.2.2.2.2.2.1
theorem dL_law_1553 : decode cL_law 1553 = .ok (.aload_n 2, 1) := zd90dec_97.2.2.2.2.2.2.2.2.2.1
theorem dL_law_1554 : decode cL_law 1554 = .ok (.aload_n 0, 1) := zd90dec_97.2.2.2.2.2.2.2.2.2.2.1
theorem dL_law_1555 : decode cL_law 1555 = .ok (.iload_n 3, 1) := zd90dec_97.2.2.2.2.2.2.2.2.2.2.2
theorem zd90dec_98 : decode cL_law 1556 = .ok (.iconst 1, 1) ∧ decode cL_law 1557 = .ok (.iadd, 1) ∧ decode cL_law 1558 = .ok (.iaload, 1) ∧ decode cL_law 1559 = .ok (.aload_n 0, 1) ∧ decode cL_law 1560 = .ok (.iload_n 3, 1) ∧ decode cL_law 1561 = .ok (.iconst 2, 1) ∧ decode cL_law 1562 = .ok (.iadd, 1) ∧ decode cL_law 1563 = .ok (.iaload, 1) ∧ decode cL_law 1564 = .ok (.aload_n 0, 1) ∧ decode cL_law 1565 = .ok (.iload_n 3, 1) ∧ decode cL_law 1566 = .ok (.iconst 3, 1) ∧ decode cL_law 1567 = .ok (.iadd, 1) := by decide +kernel
theorem dL_law_1556 : decode cL_law 1556 = .ok (.iconst 1, 1) := zd90dec_98.1
theorem dL_law_1557 : decode cL_law 1557 = .ok (.iadd, 1) := zd90dec_98.2.1
theorem dL_law_1558 : decode cL_law 1558 = .ok (.iaload, 1) := zd90dec_98.2.2.1
theorem dL_law_1559 : decode cL_law 1559 = .ok (.aload_n 0, 1) := zd90dec_98.2.2.2.1
theorem dL_law_1560 : decode cL_law 1560 = .ok (.iload_n 3, 1) := zd90dec_98.2.2.2.2.1
theorem dL_law_1561 : decode cL_law 1561 = .ok (.iconst 2, 1) := zd90dec_98.2.2.2.2.2.1
theorem dL_law_1562 : decode cL_law 1562 = .ok (.iadd, 1) := zd90dec_98.2.2.2.2.2.2.1
theorem dL_law_1563 : decode cL_law 1563 = .ok (.iaload, 1) := zd90dec_98.2.2.2.2.2.2.2.1
theorem dL_law_1564 : decode cL_law 1564 = .ok (.aload_n 0, 1) := zd90dec_98.2.2.2.2.2.2.2.2.1
theorem dL_law_1565 : decode cL_law 1565 = .ok (.iload_n 3, 1) := zd90dec_98.2.2.2.2.2.2.2.2.2.1
theorem dL_law_1566 : decode cL_law 1566 = .ok (.iconst 3, 1) := zd90dec_98.2.2.2.2.2.2.2.2.2.2.1
theorem dL_law_1567 : decode cL_law 1567 = .ok (.iadd, 1) := zd90dec_98.2.2.2.2.2.2.2.2.2.2.2
theorem zd90dec_99 : decode cL_law 1568 = .ok (.iaload, 1) ∧ decode cL_law 1569 = .ok (.aload_n 0, 1) ∧ decode cL_law 1570 = .ok (.iload_n 3, 1) ∧ decode cL_law 1571 = .ok (.iconst 4, 1) ∧ decode cL_law 1572 = .ok (.iadd, 1) ∧ decode cL_law 1573 = .ok (.iaload, 1) ∧ decode cL_law 1574 = .ok (.invokevirtual 160, 3) ∧ decode cL_law 1577 = .ok (.pop, 1) ∧ decode cL_law 1578 = .ok (.goto 36, 3) ∧ decode cL_law 1581 = .ok (.aload_n 1, 1) ∧ decode cL_law 1582 = .ok (.aload_n 0, 1) ∧ decode cL_law 1583 = .ok (.iload_n 3, 1) := by decide +kernel
theorem dL_law_1568 : decode cL_law 1568 = .ok (.iaload, 1) := zd90dec_99.1
theorem dL_law_1569 : decode cL_law 1569 = .ok (.aload_n 0, 1) := zd90dec_99.2.1
theorem dL_law_1570 : decode cL_law 1570 = .ok (.iload_n 3, 1) := zd90dec_99.2.2.1
theorem dL_law_1571 : decode cL_law 1571 = .ok (.iconst 4, 1) := zd90dec_99.2.2.2.1
theorem dL_law_1572 : decode cL_law 1572 = .ok (.iadd, 1) := zd90dec_99.2.2.2.2.1
theorem dL_law_1573 : decode cL_law 1573 = .ok (.iaload, 1) := zd90dec_99.2.2.2.2.2.1
theorem dL_law_1574 : decode cL_law 1574 = .ok (.invokevirtual 160, 3) := zd90dec_99.2.2.2.2.2.2.1
theorem dL_law_1577 : decode cL_law 1577 = .ok (.pop, 1) := zd90dec_99.2.2.2.2.2.2.2.1
theorem dL_law_1578 : decode cL_law 1578 = .ok (.goto 36, 3) := zd90dec_99.2.2.2.2.2.2.2.2.1
theorem dL_law_1581 : decode cL_law 1581 = .ok (.aload_n 1, 1) := zd90dec_99.2.2.2.2.2.2.2.2.2.1
theorem dL_law_1582 : decode cL_law 1582 = .ok (.aload_n 0, 1) := zd90dec_99.2.2.2.2.2.2.2.2.2.2.1
theorem dL_law_1583 : decode cL_law 1583 = .ok (.iload_n 3, 1) := zd90dec_99.2.2.2.2.2.2.2.2.2.2.2
theorem zd90dec_100 : decode cL_law 1584 = .ok (.iconst 1, 1) ∧ decode cL_law 1585 = .ok (.iadd, 1) ∧ decode cL_law 1586 = .ok (.iaload, 1) ∧ decode cL_law 1587 = .ok (.aload_n 0, 1) ∧ decode cL_law 1588 = .ok (.iload_n 3, 1) ∧ decode cL_law 1589 = .ok (.iconst 2, 1) ∧ decode cL_law 1590 = .ok (.iadd, 1) ∧ decode cL_law 1591 = .ok (.iaload, 1) ∧ decode cL_law 1592 = .ok (.invokevirtual 161, 3) ∧ decode cL_law 1595 = .ok (.pop2, 1) ∧ decode cL_law 1596 = .ok (.aload_n 2, 1) ∧ decode cL_law 1597 = .ok (.aload_n 0, 1) := by decide +kernel
theorem dL_law_1584 : decode cL_law 1584 = .ok (.iconst 1, 1) := zd90dec_100.1
theorem dL_law_1585 : decode cL_law 1585 = .ok (.iadd, 1) := zd90dec_100.2.1
theorem dL_law_1586 : decode cL_law 1586 = .ok (.iaload, 1) := zd90dec_100.2.2.1
theorem dL_law_1587 : decode cL_law 1587 = .ok (.aload_n 0, 1) := zd90dec_100.2.2.2.1
theorem dL_law_1588 : decode cL_law 1588 = .ok (.iload_n 3, 1) := zd90dec_100.2.2.2.2.1
theorem dL_law_1589 : decode cL_law 1589 = .ok (.iconst 2, 1) := zd90dec_100.2.2.2.2.2.1
theorem dL_law_1590 : decode cL_law 1590 = .ok (.iadd, 1) := zd90dec_100.2.2.2.2.2.2.1
theorem dL_law_1591 : decode cL_law 1591 = .ok (.iaload, 1) := zd90dec_100.2.2.2.2.2.2.2.1
theorem dL_law_1592 : decode cL_law 1592 = .ok (.invokevirtual 161, 3) := zd90dec_100.2.2.2.2.2.2.2.2.1
theorem dL_law_1595 : decode cL_law 1595 = .ok (.pop2, 1) := zd90dec_100.2.2.2.2.2.2.2.2.2.1
theorem dL_law_1596 : decode cL_law 1596 = .ok (.aload_n 2, 1) := zd90dec_100.2.2.2.2.2.2.2.2.2.2.1
theorem dL_law_1597 : decode cL_law 1597 = .ok (.aload_n 0, 1) := zd90dec_100.2.2.2.2.2.2.2.2.2.2.2
theorem zd90dec_101 : decode cL_law 1598 = .ok (.iload_n 3, 1) ∧ decode cL_law 1599 = .ok (.iconst 1, 1) ∧ decode cL_law 1600 = .ok (.iadd, 1) ∧ decode cL_law 1601 = .ok (.iaload, 1) ∧ decode cL_law 1602 = .ok (.aload_n 0, 1) ∧ decode cL_law 1603 = .ok (.iload_n 3, 1) ∧ decode cL_law 1604 = .ok (.iconst 2, 1) ∧ decode cL_law 1605 = .ok (.iadd, 1) ∧ decode cL_law 1606 = .ok (.iaload, 1) ∧ decode cL_law 1607 = .ok (.invokevirtual 165, 3) ∧ decode cL_law 1610 = .ok (.pop2, 1) ∧ decode cL_law 1611 = .ok (.goto 3, 3) := by decide +kernel
theorem dL_law_1598 : decode cL_law 1598 = .ok (.iload_n 3, 1) := zd90dec_101.1
theorem dL_law_1599 : decode cL_law 1599 = .ok (.iconst 1, 1) := zd90dec_101.2.1
theorem dL_law_1600 : decode cL_law 1600 = .ok (.iadd, 1) := zd90dec_101.2.2.1
theorem dL_law_1601 : decode cL_law 1601 = .ok (.iaload, 1) := zd90dec_101.2.2.2.1
theorem dL_law_1602 : decode cL_law 1602 = .ok (.aload_n 0, 1) := zd90dec_101.2.2.2.2.1
theorem dL_law_1603 : decode cL_law 1603 = .ok (.iload_n 3, 1) := zd90dec_101.2.2.2.2.2.1
theorem dL_law_1604 : decode cL_law 1604 = .ok (.iconst 2, 1) := zd90dec_101.2.2.2.2.2.2.1
theorem dL_law_1605 : decode cL_law 1605 = .ok (.iadd, 1) := zd90dec_101.2.2.2.2.2.2.2.1
theorem dL_law_1606 : decode cL_law 1606 = .ok (.iaload, 1) := zd90dec_101.2.2.2.2.2.2.2.2.1
theorem dL_law_1607 : decode cL_law 1607 = .ok (.invokevirtual 165, 3) := zd90dec_101.2.2.2.2.2.2.2.2.2.1
theorem dL_law_1610 : decode cL_law 1610 = .ok (.pop2, 1) := zd90dec_101.2.2.2.2.2.2.2.2.2.2.1
theorem dL_law_1611 : decode cL_law 1611 = .ok (.goto 3, 3) := zd90dec_101.2.2.2.2.2.2.2.2.2.2.2
theorem zd90dec_102 : decode cL_law 1614 = .ok (.iinc 3 7, 3) ∧ decode cL_law 1617 = .ok (.goto (-1599), 3) ∧ decode cL_law 1620 = .ok (.iconst 1, 1) ∧ decode cL_law 1621 = .ok (.ireturn, 1) := by decide +kernel
theorem dL_law_1614 : decode cL_law 1614 = .ok (.iinc 3 7, 3) := zd90dec_102.1
theorem dL_law_1617 : decode cL_law 1617 = .ok (.goto (-1599), 3) := zd90dec_102.2.1
theorem dL_law_1620 : decode cL_law 1620 = .ok (.iconst 1, 1) := zd90dec_102.2.2.1
theorem dL_law_1621 : decode cL_law 1621 = .ok (.ireturn, 1) := zd90dec_102.2.2.2
