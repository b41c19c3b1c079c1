/-! decode rows of the law -/
theorem d_lw_law_0 : decode code 0 = .ok (.new 7, 3) := by decide +kernel
theorem d_lw_law_3 : decode code 3 = .ok (.dup, 1) := by decide +kernel
theorem d_lw_law_4 : decode code 4 = .ok (.invokespecial 9, 3) := by decide +kernel
theorem d_lw_law_7 : decode code 7 = .ok (.astore_n 1, 1) := by decide +kernel
theorem d_lw_law_8 : decode code 8 = .ok (.new 10, 3) := by decide +kernel
theorem d_lw_law_11 : decode code 11 = .ok (.dup, 1) := by decide +kernel
theorem d_lw_law_12 : decode code 12 = .ok (.invokespecial 12, 3) := by decide +kernel
theorem d_lw_law_15 : decode code 15 = .ok (.astore_n 2, 1) := by decide +kernel
theorem d_lw_law_16 : decode code 16 = .ok (.iconst 0, 1) := by decide +kernel
theorem d_lw_law_17 : decode code 17 = .ok (.istore_n 3, 1) := by decide +kernel
theorem d_lw_law_18 : decode code 18 = .ok (.iload_n 3, 1) := by decide +kernel
theorem d_lw_law_19 : decode code 19 = .ok (.aload_n 0, 1) := by decide +kernel
theorem d_lw_law_20 : decode code 20 = .ok (.arraylength, 1) := by decide +kernel
theorem d_lw_law_21 : decode code 21 = .ok (.bipush 7, 2) := by decide +kernel
theorem d_lw_law_23 : decode code 23 = .ok (.isub, 1) := by decide +kernel
theorem d_lw_law_24 : decode code 24 = .ok (.if_icmp .gt 1349, 3) := by decide +kernel
theorem d_lw_law_27 : decode code 27 = .ok (.aload_n 0, 1) := by decide +kernel
theorem d_lw_law_28 : decode code 28 = .ok (.iload_n 3, 1) := by decide +kernel
theorem d_lw_law_29 : decode code 29 = .ok (.iaload, 1) := by decide +kernel
theorem d_lw_law_30 : decode code 30 = .ok (.bipush 63, 2) := by decide +kernel
theorem d_lw_law_32 : decode code 32 = .ok (.iand, 1) := by decide +kernel
theorem d_lw_law_33 : decode code 33 = .ok (.tableswitch 1334 0 34 #[155, 188, 211, 234, 257, 290, 323, 376, 389, 412, 435, 478, 511, 544, 567, 590, 633, 676, 719, 752, 785, 808, 831, 864, 887, 910, 986, 1029, 1072, 1095, 1148, 1191, 1254, 1297, 1320], 155) := by decide +kernel
theorem d_lw_law_188 : decode code 188 = .ok (.aload_n 1, 1) := by decide +kernel
theorem d_lw_law_189 : decode code 189 = .ok (.aload_n 0, 1) := by decide +kernel
theorem d_lw_law_190 : decode code 190 = .ok (.iload_n 3, 1) := by decide +kernel
theorem d_lw_law_191 : decode code 191 = .ok (.iconst 1, 1) := by decide +kernel
theorem d_lw_law_192 : decode code 192 = .ok (.iadd, 1) := by decide +kernel
theorem d_lw_law_193 : decode code 193 = .ok (.iaload, 1) := by decide +kernel
theorem d_lw_law_194 : decode code 194 = .ok (.aload_n 0, 1) := by decide +kernel
theorem d_lw_law_195 : decode code 195 = .ok (.iload_n 3, 1) := by decide +kernel
theorem d_lw_law_196 : decode code 196 = .ok (.iconst 2, 1) := by decide +kernel
theorem d_lw_law_197 : decode code 197 = .ok (.iadd, 1) := by decide +kernel
theorem d_lw_law_198 : decode code 198 = .ok (.iaload, 1) := by decide +kernel
theorem d_lw_law_199 : decode code 199 = .ok (.invokevirtual 13, 3) := by decide +kernel
theorem d_lw_law_202 : decode code 202 = .ok (.aload_n 2, 1) := by decide +kernel
theorem d_lw_law_203 : decode code 203 = .ok (.aload_n 0, 1) := by decide +kernel
theorem d_lw_law_204 : decode code 204 = .ok (.iload_n 3, 1) := by decide +kernel
theorem d_lw_law_205 : decode code 205 = .ok (.iconst 1, 1) := by decide +kernel
theorem d_lw_law_206 : decode code 206 = .ok (.iadd, 1) := by decide +kernel
theorem d_lw_law_207 : decode code 207 = .ok (.iaload, 1) := by decide +kernel
theorem d_lw_law_208 : decode code 208 = .ok (.aload_n 0, 1) := by decide +kernel
theorem d_lw_law_209 : decode code 209 = .ok (.iload_n 3, 1) := by decide +kernel
theorem d_lw_law_210 : decode code 210 = .ok (.iconst 2, 1) := by decide +kernel
theorem d_lw_law_211 : decode code 211 = .ok (.iadd, 1) := by decide +kernel
theorem d_lw_law_212 : decode code 212 = .ok (.iaload, 1) := by decide +kernel
theorem d_lw_law_213 : decode code 213 = .ok (.invokevirtual 17, 3) := by decide +kernel
theorem d_lw_law_216 : decode code 216 = .ok (.if_icmp .eq 1151, 3) := by decide +kernel
theorem d_lw_law_219 : decode code 219 = .ok (.iconst 0, 1) := by decide +kernel
theorem d_lw_law_220 : decode code 220 = .ok (.ireturn, 1) := by decide +kernel
theorem d_lw_law_221 : decode code 221 = .ok (.aload_n 1, 1) := by decide +kernel
theorem d_lw_law_222 : decode code 222 = .ok (.aload_n 0, 1) := by decide +kernel
theorem d_lw_law_223 : decode code 223 = .ok (.iload_n 3, 1) := by decide +kernel
theorem d_lw_law_224 : decode code 224 = .ok (.iconst 1, 1) := by decide +kernel
theorem d_lw_law_225 : decode code 225 = .ok (.iadd, 1) := by decide +kernel
theorem d_lw_law_226 : decode code 226 = .ok (.iaload, 1) := by decide +kernel
theorem d_lw_law_227 : decode code 227 = .ok (.invokevirtual 18, 3) := by decide +kernel
theorem d_lw_law_230 : decode code 230 = .ok (.aload_n 2, 1) := by decide +kernel
theorem d_lw_law_231 : decode code 231 = .ok (.aload_n 0, 1) := by decide +kernel
theorem d_lw_law_232 : decode code 232 = .ok (.iload_n 3, 1) := by decide +kernel
theorem d_lw_law_233 : decode code 233 = .ok (.iconst 1, 1) := by decide +kernel
theorem d_lw_law_234 : decode code 234 = .ok (.iadd, 1) := by decide +kernel
theorem d_lw_law_235 : decode code 235 = .ok (.iaload, 1) := by decide +kernel
theorem d_lw_law_236 : decode code 236 = .ok (.invokevirtual 22, 3) := by decide +kernel
theorem d_lw_law_239 : decode code 239 = .ok (.if_icmp .eq 1128, 3) := by decide +kernel
theorem d_lw_law_242 : decode code 242 = .ok (.iconst 0, 1) := by decide +kernel
theorem d_lw_law_243 : decode code 243 = .ok (.ireturn, 1) := by decide +kernel
theorem d_lw_law_244 : decode code 244 = .ok (.aload_n 1, 1) := by decide +kernel
theorem d_lw_law_245 : decode code 245 = .ok (.aload_n 0, 1) := by decide +kernel
theorem d_lw_law_246 : decode code 246 = .ok (.iload_n 3, 1) := by decide +kernel
theorem d_lw_law_247 : decode code 247 = .ok (.iconst 1, 1) := by decide +kernel
theorem d_lw_law_248 : decode code 248 = .ok (.iadd, 1) := by decide +kernel
theorem d_lw_law_249 : decode code 249 = .ok (.iaload, 1) := by decide +kernel
theorem d_lw_law_250 : decode code 250 = .ok (.invokevirtual 23, 3) := by decide +kernel
theorem d_lw_law_253 : decode code 253 = .ok (.aload_n 2, 1) := by decide +kernel
theorem d_lw_law_254 : decode code 254 = .ok (.aload_n 0, 1) := by decide +kernel
theorem d_lw_law_255 : decode code 255 = .ok (.iload_n 3, 1) := by decide +kernel
theorem d_lw_law_256 : decode code 256 = .ok (.iconst 1, 1) := by decide +kernel
theorem d_lw_law_257 : decode code 257 = .ok (.iadd, 1) := by decide +kernel
theorem d_lw_law_258 : decode code 258 = .ok (.iaload, 1) := by decide +kernel
theorem d_lw_law_259 : decode code 259 = .ok (.invokevirtual 26, 3) := by decide +kernel
theorem d_lw_law_262 : decode code 262 = .ok (.if_icmp .eq 1105, 3) := by decide +kernel
theorem d_lw_law_265 : decode code 265 = .ok (.iconst 0, 1) := by decide +kernel
theorem d_lw_law_266 : decode code 266 = .ok (.ireturn, 1) := by decide +kernel
theorem d_lw_law_267 : decode code 267 = .ok (.aload_n 1, 1) := by decide +kernel
theorem d_lw_law_268 : decode code 268 = .ok (.aload_n 0, 1) := by decide +kernel
theorem d_lw_law_269 : decode code 269 = .ok (.iload_n 3, 1) := by decide +kernel
theorem d_lw_law_270 : decode code 270 = .ok (.iconst 1, 1) := by decide +kernel
theorem d_lw_law_271 : decode code 271 = .ok (.iadd, 1) := by decide +kernel
theorem d_lw_law_272 : decode code 272 = .ok (.iaload, 1) := by decide +kernel
theorem d_lw_law_273 : decode code 273 = .ok (.invokevirtual 27, 3) := by decide +kernel
theorem d_lw_law_276 : decode code 276 = .ok (.aload_n 2, 1) := by decide +kernel
theorem d_lw_law_277 : decode code 277 = .ok (.aload_n 0, 1) := by decide +kernel
theorem d_lw_law_278 : decode code 278 = .ok (.iload_n 3, 1) := by decide +kernel
theorem d_lw_law_279 : decode code 279 = .ok (.iconst 1, 1) := by decide +kernel
theorem d_lw_law_280 : decode code 280 = .ok (.iadd, 1) := by decide +kernel
theorem d_lw_law_281 : decode code 281 = .ok (.iaload, 1) := by decide +kernel
theorem d_lw_law_282 : decode code 282 = .ok (.invokevirtual 30, 3) := by decide +kernel
theorem d_lw_law_285 : decode code 285 = .ok (.if_icmp .eq 1082, 3) := by decide +kernel
theorem d_lw_law_288 : decode code 288 = .ok (.iconst 0, 1) := by decide +kernel
theorem d_lw_law_289 : decode code 289 = .ok (.ireturn, 1) := by decide +kernel
theorem d_lw_law_290 : decode code 290 = .ok (.aload_n 1, 1) := by decide +kernel
theorem d_lw_law_291 : decode code 291 = .ok (.aload_n 0, 1) := by decide +kernel
theorem d_lw_law_292 : decode code 292 = .ok (.iload_n 3, 1) := by decide +kernel
theorem d_lw_law_293 : decode code 293 = .ok (.iconst 1, 1) := by decide +kernel
theorem d_lw_law_294 : decode code 294 = .ok (.iadd, 1) := by decide +kernel
theorem d_lw_law_295 : decode code 295 = .ok (.iaload, 1) := by decide +kernel
theorem d_lw_law_296 : decode code 296 = .ok (.aload_n 0, 1) := by decide +kernel
theorem d_lw_law_297 : decode code 297 = .ok (.iload_n 3, 1) := by decide +kernel
theorem d_lw_law_298 : decode code 298 = .ok (.iconst 2, 1) := by decide +kernel
theorem d_lw_law_299 : decode code 299 = .ok (.iadd, 1) := by decide +kernel
theorem d_lw_law_300 : decode code 300 = .ok (.iaload, 1) := by decide +kernel
theorem d_lw_law_301 : decode code 301 = .ok (.invokevirtual 31, 3) := by decide +kernel
theorem d_lw_law_304 : decode code 304 = .ok (.aload_n 2, 1) := by decide +kernel
theorem d_lw_law_305 : decode code 305 = .ok (.aload_n 0, 1) := by decide +kernel
theorem d_lw_law_306 : decode code 306 = .ok (.iload_n 3, 1) := by decide +kernel
theorem d_lw_law_307 : decode code 307 = .ok (.iconst 1, 1) := by decide +kernel
theorem d_lw_law_308 : decode code 308 = .ok (.iadd, 1) := by decide +kernel
theorem d_lw_law_309 : decode code 309 = .ok (.iaload, 1) := by decide +kernel
theorem d_lw_law_310 : decode code 310 = .ok (.aload_n 0, 1) := by decide +kernel
theorem d_lw_law_311 : decode code 311 = .ok (.iload_n 3, 1) := by decide +kernel
