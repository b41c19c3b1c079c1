/-! the law's cases -/
set_option maxHeartbeats 4000000 in
theorem lw_c0 {G : GT} {k z : Nat} {Q : QT} {S : ST} {M : MT} (ok : okST S) (h : RC S M) (g : RM S M) (i : Nat) (hi : i + 7 ≤ G.2.2.2.2.2.1) (hL : G.2.2.2.2.2.1 ≤ 448) (hk : k ≤ 600000) (hz : z ≤ 7302250) (kk : ∀ S' M', okST S' → RC S' M' → RM S' M' → Wp G J_lw_law k z 1367 [(0, pR 1001), (1, pR 0), (2, pR 101), (3, pI (i : Int))] [] NN RF M' Q) : Wp G J_lw_law k z 188 [(0, pR 1001), (1, pR 0), (2, pR 101), (3, pI (i : Int))] [] NN RF M Q := by
  refine wp_aload_n d_lw_law_188 rfl 1 rfl ?_
  refine lw_arg 1 (by omega) d_lw_law_189 d_lw_law_190 d_lw_law_191 d_lw_law_192 d_lw_law_193 hi hL ?_
  refine lw_arg 2 (by omega) d_lw_law_194 d_lw_law_195 d_lw_law_196 d_lw_law_197 d_lw_law_198 hi hL ?_
  refine wp_callV [pI _, pI _] 0 d_lw_law_199 jd_tl_type lk_lw_13 rfl s_0 rfl (Nat.le_of_ble_eq_true rfl) (Nat.le_of_ble_eq_true rfl) (rm_kz rfl hk hz) ?_
  refine clI_k (P := fun x M1 => Wp G J_lw_law k z 202 [(0, pR 1001), (1, pR 0), (2, pR 101), (3, pI (i : Int))] [pI x] NN RF M1 Q) (c_tl_type ok h _ _ (fun M1 f1 r1 => ?_)) (fun _ _ hx => hx)
  have g1 := g.fx f1
  refine wp_aload_n d_lw_law_202 rfl 2 rfl ?_
  refine lw_arg 1 (by omega) d_lw_law_203 d_lw_law_204 d_lw_law_205 d_lw_law_206 d_lw_law_207 hi hL ?_
  refine lw_arg 2 (by omega) d_lw_law_208 d_lw_law_209 d_lw_law_210 d_lw_law_211 d_lw_law_212 hi hL ?_
  refine wp_callV [pI _, pI _] 101 d_lw_law_213 jd_mo_type lk_lw_17 rfl s_101 rfl (Nat.le_of_ble_eq_true rfl) (Nat.le_of_ble_eq_true rfl) (rm_kz rfl hk hz) ?_
  refine clI_k (P := fun y M2 => Wp G J_lw_law k z 216 [(0, pR 1001), (1, pR 0), (2, pR 101), (3, pI (i : Int))] [pI y, pI _] NN RF M2 Q) (c_mo_type ok g1 _ _ (fun M2 f2 g2 => ?_)) (fun _ _ hx => hx)
  exact wp_icmp_eq 1367 d_lw_law_216 (by decide) (fun _ => kk _ M2 (ok_type ok _ _) (r1.fo (ok_type ok _ _) f2) g2) (fun c => absurd rfl c)
set_option maxHeartbeats 4000000 in
theorem lw_c1 {G : GT} {k z : Nat} {Q : QT} {S : ST} {M : MT} (ok : okST S) (h : RC S M) (g : RM S M) (i : Nat) (hi : i + 7 ≤ G.2.2.2.2.2.1) (hL : G.2.2.2.2.2.1 ≤ 448) (hk : k ≤ 600000) (hz : z ≤ 7302250) (kk : ∀ S' M', okST S' → RC S' M' → RM S' M' → Wp G J_lw_law k z 1367 [(0, pR 1001), (1, pR 0), (2, pR 101), (3, pI (i : Int))] [] NN RF M' Q) : Wp G J_lw_law k z 221 [(0, pR 1001), (1, pR 0), (2, pR 101), (3, pI (i : Int))] [] NN RF M Q := by
  refine wp_aload_n d_lw_law_221 rfl 1 rfl ?_
  refine lw_arg 1 (by omega) d_lw_law_222 d_lw_law_223 d_lw_law_224 d_lw_law_225 d_lw_law_226 hi hL ?_
  refine wp_callV [pI _] 0 d_lw_law_227 jd_tl_wipe lk_lw_18 rfl s_0 rfl (Nat.le_of_ble_eq_true rfl) (Nat.le_of_ble_eq_true rfl) (rm_kz rfl hk hz) ?_
  refine clI_k (P := fun x M1 => Wp G J_lw_law k z 230 [(0, pR 1001), (1, pR 0), (2, pR 101), (3, pI (i : Int))] [pI x] NN RF M1 Q) (c_tl_wipe ok h _ (fun M1 f1 r1 => ?_)) (fun _ _ hx => hx)
  have g1 := g.fx f1
  refine wp_aload_n d_lw_law_230 rfl 2 rfl ?_
  refine lw_arg 1 (by omega) d_lw_law_231 d_lw_law_232 d_lw_law_233 d_lw_law_234 d_lw_law_235 hi hL ?_
  refine wp_callV [pI _] 101 d_lw_law_236 jd_mo_wipe lk_lw_22 rfl s_101 rfl (Nat.le_of_ble_eq_true rfl) (Nat.le_of_ble_eq_true rfl) (rm_kz rfl hk hz) ?_
  refine clI_k (P := fun y M2 => Wp G J_lw_law k z 239 [(0, pR 1001), (1, pR 0), (2, pR 101), (3, pI (i : Int))] [pI y, pI _] NN RF M2 Q) (c_mo_wipe ok g1 _ (fun M2 f2 g2 => ?_)) (fun _ _ hx => hx)
  exact wp_icmp_eq 1367 d_lw_law_239 (by decide) (fun _ => kk _ M2 (ok_wipe ok _) (r1.fo (ok_wipe ok _) f2) g2) (fun c => absurd rfl c)
set_option maxHeartbeats 4000000 in
theorem lw_c2 {G : GT} {k z : Nat} {Q : QT} {S : ST} {M : MT} (ok : okST S) (h : RC S M) (g : RM S M) (i : Nat) (hi : i + 7 ≤ G.2.2.2.2.2.1) (hL : G.2.2.2.2.2.1 ≤ 448) (hk : k ≤ 600000) (hz : z ≤ 7302250) (kk : ∀ S' M', okST S' → RC S' M' → RM S' M' → Wp G J_lw_law k z 1367 [(0, pR 1001), (1, pR 0), (2, pR 101), (3, pI (i : Int))] [] NN RF M' Q) : Wp G J_lw_law k z 244 [(0, pR 1001), (1, pR 0), (2, pR 101), (3, pI (i : Int))] [] NN RF M Q := by
  refine wp_aload_n d_lw_law_244 rfl 1 rfl ?_
  refine lw_arg 1 (by omega) d_lw_law_245 d_lw_law_246 d_lw_law_247 d_lw_law_248 d_lw_law_249 hi hL ?_
  refine wp_callV [pI _] 0 d_lw_law_250 jd_tl_undo lk_lw_23 rfl s_0 rfl (Nat.le_of_ble_eq_true rfl) (Nat.le_of_ble_eq_true rfl) (rm_kz rfl hk hz) ?_
  refine clI_k (P := fun x M1 => Wp G J_lw_law k z 253 [(0, pR 1001), (1, pR 0), (2, pR 101), (3, pI (i : Int))] [pI x] NN RF M1 Q) (c_tl_undo ok h _ (fun M1 f1 r1 => ?_)) (fun _ _ hx => hx)
  have g1 := g.fx f1
  refine wp_aload_n d_lw_law_253 rfl 2 rfl ?_
  refine lw_arg 1 (by omega) d_lw_law_254 d_lw_law_255 d_lw_law_256 d_lw_law_257 d_lw_law_258 hi hL ?_
  refine wp_callV [pI _] 101 d_lw_law_259 jd_mo_undo lk_lw_26 rfl s_101 rfl (Nat.le_of_ble_eq_true rfl) (Nat.le_of_ble_eq_true rfl) (rm_kz rfl hk hz) ?_
  refine clI_k (P := fun y M2 => Wp G J_lw_law k z 262 [(0, pR 1001), (1, pR 0), (2, pR 101), (3, pI (i : Int))] [pI y, pI _] NN RF M2 Q) (c_mo_undo ok g1 _ (fun M2 f2 g2 => ?_)) (fun _ _ hx => hx)
  exact wp_icmp_eq 1367 d_lw_law_262 (by decide) (fun _ => kk _ M2 (ok_undo ok _) (r1.fo (ok_undo ok _) f2) g2) (fun c => absurd rfl c)
set_option maxHeartbeats 4000000 in
theorem lw_c3 {G : GT} {k z : Nat} {Q : QT} {S : ST} {M : MT} (ok : okST S) (h : RC S M) (g : RM S M) (i : Nat) (hi : i + 7 ≤ G.2.2.2.2.2.1) (hL : G.2.2.2.2.2.1 ≤ 448) (hk : k ≤ 600000) (hz : z ≤ 7302250) (kk : ∀ S' M', okST S' → RC S' M' → RM S' M' → Wp G J_lw_law k z 1367 [(0, pR 1001), (1, pR 0), (2, pR 101), (3, pI (i : Int))] [] NN RF M' Q) : Wp G J_lw_law k z 267 [(0, pR 1001), (1, pR 0), (2, pR 101), (3, pI (i : Int))] [] NN RF M Q := by
  refine wp_aload_n d_lw_law_267 rfl 1 rfl ?_
  refine lw_arg 1 (by omega) d_lw_law_268 d_lw_law_269 d_lw_law_270 d_lw_law_271 d_lw_law_272 hi hL ?_
  refine wp_callV [pI _] 0 d_lw_law_273 jd_tl_fault lk_lw_27 rfl s_0 rfl (Nat.le_of_ble_eq_true rfl) (Nat.le_of_ble_eq_true rfl) (rm_kz rfl hk hz) ?_
  refine clI_k (P := fun x M1 => Wp G J_lw_law k z 276 [(0, pR 1001), (1, pR 0), (2, pR 101), (3, pI (i : Int))] [pI x] NN RF M1 Q) (c_tl_fault h _ ?_) (fun _ _ hx => hx)
  have g1 := g
  have r1 := h
  refine wp_aload_n d_lw_law_276 rfl 2 rfl ?_
  refine lw_arg 1 (by omega) d_lw_law_277 d_lw_law_278 d_lw_law_279 d_lw_law_280 d_lw_law_281 hi hL ?_
  refine wp_callV [pI _] 101 d_lw_law_282 jd_mo_fault lk_lw_30 rfl s_101 rfl (Nat.le_of_ble_eq_true rfl) (Nat.le_of_ble_eq_true rfl) (rm_kz rfl hk hz) ?_
  refine clI_k (P := fun y M2 => Wp G J_lw_law k z 285 [(0, pR 1001), (1, pR 0), (2, pR 101), (3, pI (i : Int))] [pI y, pI _] NN RF M2 Q) (c_mo_fault ok g1 _ (fun M2 f2 => ?_)) (fun _ _ hx => hx)
  exact wp_icmp_eq 1367 d_lw_law_285 (by decide) (fun _ => kk S M2 ok (r1.fo ok f2.fo) (g1.fa f2)) (fun c => absurd rfl c)
set_option maxHeartbeats 4000000 in
theorem lw_c4 {G : GT} {k z : Nat} {Q : QT} {S : ST} {M : MT} (ok : okST S) (h : RC S M) (g : RM S M) (i : Nat) (hi : i + 7 ≤ G.2.2.2.2.2.1) (hL : G.2.2.2.2.2.1 ≤ 448) (hk : k ≤ 600000) (hz : z ≤ 7302250) (kk : ∀ S' M', okST S' → RC S' M' → RM S' M' → Wp G J_lw_law k z 1367 [(0, pR 1001), (1, pR 0), (2, pR 101), (3, pI (i : Int))] [] NN RF M' Q) : Wp G J_lw_law k z 290 [(0, pR 1001), (1, pR 0), (2, pR 101), (3, pI (i : Int))] [] NN RF M Q := by
  refine wp_aload_n d_lw_law_290 rfl 1 rfl ?_
  refine lw_arg 1 (by omega) d_lw_law_291 d_lw_law_292 d_lw_law_293 d_lw_law_294 d_lw_law_295 hi hL ?_
  refine lw_arg 2 (by omega) d_lw_law_296 d_lw_law_297 d_lw_law_298 d_lw_law_299 d_lw_law_300 hi hL ?_
  refine wp_callV [pI _, pI _] 0 d_lw_law_301 jd_tl_tune lk_lw_31 rfl s_0 rfl (Nat.le_of_ble_eq_true rfl) (Nat.le_of_ble_eq_true rfl) (rm_kz rfl hk hz) ?_
  refine clI_k (P := fun x M1 => Wp G J_lw_law k z 304 [(0, pR 1001), (1, pR 0), (2, pR 101), (3, pI (i : Int))] [pI x] NN RF M1 Q) (c_tl_tune ok.d h.cd _ _ ?_) (fun _ _ hx => hx)
  have g1 := g
  have r1 := h
  refine wp_aload_n d_lw_law_304 rfl 2 rfl ?_
  refine lw_arg 1 (by omega) d_lw_law_305 d_lw_law_306 d_lw_law_307 d_lw_law_308 d_lw_law_309 hi hL ?_
  refine lw_arg 2 (by omega) d_lw_law_310 d_lw_law_311 d_lw_law_312 d_lw_law_313 d_lw_law_314 hi hL ?_
  refine wp_callV [pI _, pI _] 101 d_lw_law_315 jd_mo_tune lk_lw_34 rfl s_101 rfl (Nat.le_of_ble_eq_true rfl) (Nat.le_of_ble_eq_true rfl) (rm_kz rfl hk hz) ?_
  refine clI_k (P := fun y M2 => Wp G J_lw_law k z 318 [(0, pR 1001), (1, pR 0), (2, pR 101), (3, pI (i : Int))] [pI y, pI _] NN RF M2 Q) (c_mo_tune ok.d (g1.rd ok) _ _ (fun M2 f2 => ?_)) (fun _ _ hx => hx)
  exact wp_icmp_eq 1367 d_lw_law_318 (by decide) (fun _ => kk S M2 ok (r1.fo ok f2.fo) (g1.fa f2)) (fun c => absurd rfl c)
set_option maxHeartbeats 4000000 in
theorem lw_c5 {G : GT} {k z : Nat} {Q : QT} {S : ST} {M : MT} (ok : okST S) (h : RC S M) (g : RM S M) (i : Nat) (hi : i + 7 ≤ G.2.2.2.2.2.1) (hL : G.2.2.2.2.2.1 ≤ 448) (hk : k ≤ 600000) (hz : z ≤ 7302250) (kk : ∀ S' M', okST S' → RC S' M' → RM S' M' → Wp G J_lw_law k z 1367 [(0, pR 1001), (1, pR 0), (2, pR 101), (3, pI (i : Int))] [] NN RF M' Q) : Wp G J_lw_law k z 323 [(0, pR 1001), (1, pR 0), (2, pR 101), (3, pI (i : Int))] [] NN RF M Q := by
  refine wp_aload_n d_lw_law_323 rfl 1 rfl ?_
  refine lw_arg 1 (by omega) d_lw_law_324 d_lw_law_325 d_lw_law_326 d_lw_law_327 d_lw_law_328 hi hL ?_
  refine lw_arg 2 (by omega) d_lw_law_329 d_lw_law_330 d_lw_law_331 d_lw_law_332 d_lw_law_333 hi hL ?_
  refine wp_callV [pI _, pI _] 0 d_lw_law_334 jd_tl_borrower lk_lw_35 rfl s_0 rfl (Nat.le_of_ble_eq_true rfl) (Nat.le_of_ble_eq_true rfl) (rm_kz rfl hk hz) ?_
  refine clI_k (P := fun x M1 => Wp G J_lw_law k z 337 [(0, pR 1001), (1, pR 0), (2, pR 101), (3, pI (i : Int))] [pI x] NN RF M1 Q) (c_tl_borrower ok.d h.cd _ _ ?_) (fun _ _ hx => hx)
  have g1 := g
  have r1 := h
  refine wp_aload_n d_lw_law_337 rfl 2 rfl ?_
  refine lw_arg 1 (by omega) d_lw_law_338 d_lw_law_339 d_lw_law_340 d_lw_law_341 d_lw_law_342 hi hL ?_
  refine lw_arg 2 (by omega) d_lw_law_343 d_lw_law_344 d_lw_law_345 d_lw_law_346 d_lw_law_347 hi hL ?_
  refine wp_callV [pI _, pI _] 101 d_lw_law_348 jd_mo_borrower lk_lw_38 rfl s_101 rfl (Nat.le_of_ble_eq_true rfl) (Nat.le_of_ble_eq_true rfl) (rm_kz rfl hk hz) ?_
  refine clI_k (P := fun y M2 => Wp G J_lw_law k z 351 [(0, pR 1001), (1, pR 0), (2, pR 101), (3, pI (i : Int))] [pI y, pI _] NN RF M2 Q) (c_mo_borrower ok.d (g1.rd ok) _ _ (fun M2 f2 => ?_)) (fun _ _ hx => hx)
  exact wp_icmp_eq 1367 d_lw_law_351 (by decide) (fun _ => kk S M2 ok (r1.fo ok f2.fo) (g1.fa f2)) (fun c => absurd rfl c)
set_option maxHeartbeats 4000000 in
theorem lw_c6 {G : GT} {k z : Nat} {Q : QT} {S : ST} {M : MT} (ok : okST S) (h : RC S M) (g : RM S M) (i : Nat) (hi : i + 7 ≤ G.2.2.2.2.2.1) (hL : G.2.2.2.2.2.1 ≤ 448) (hk : k ≤ 600000) (hz : z ≤ 7302250) (kk : ∀ S' M', okST S' → RC S' M' → RM S' M' → Wp G J_lw_law k z 1367 [(0, pR 1001), (1, pR 0), (2, pR 101), (3, pI (i : Int))] [] NN RF M' Q) : Wp G J_lw_law k z 356 [(0, pR 1001), (1, pR 0), (2, pR 101), (3, pI (i : Int))] [] NN RF M Q := by
  refine wp_aload_n d_lw_law_356 rfl 1 rfl ?_
  refine lw_arg 1 (by omega) d_lw_law_357 d_lw_law_358 d_lw_law_359 d_lw_law_360 d_lw_law_361 hi hL ?_
  refine lw_arg 2 (by omega) d_lw_law_362 d_lw_law_363 d_lw_law_364 d_lw_law_365 d_lw_law_366 hi hL ?_
  refine lw_arg 3 (by omega) d_lw_law_367 d_lw_law_368 d_lw_law_369 d_lw_law_370 d_lw_law_371 hi hL ?_
  refine lw_arg 4 (by omega) d_lw_law_372 d_lw_law_373 d_lw_law_374 d_lw_law_375 d_lw_law_376 hi hL ?_
  refine wp_callV [pI _, pI _, pI _, pI _] 0 d_lw_law_377 jd_tl_loan lk_lw_39 rfl s_0 rfl (Nat.le_of_ble_eq_true rfl) (Nat.le_of_ble_eq_true rfl) (rm_kz rfl hk hz) ?_
  refine clI_k (P := fun x M1 => Wp G J_lw_law k z 380 [(0, pR 1001), (1, pR 0), (2, pR 101), (3, pI (i : Int))] [pI x] NN RF M1 Q) (c_tl_loan ok h _ _ _ _ (fun M1 f1 _ r1 => ?_)) (fun _ _ hx => hx)
  have g1 := g.fx f1
  refine wp_aload_n d_lw_law_380 rfl 2 rfl ?_
  refine lw_arg 1 (by omega) d_lw_law_381 d_lw_law_382 d_lw_law_383 d_lw_law_384 d_lw_law_385 hi hL ?_
  refine lw_arg 2 (by omega) d_lw_law_386 d_lw_law_387 d_lw_law_388 d_lw_law_389 d_lw_law_390 hi hL ?_
  refine lw_arg 3 (by omega) d_lw_law_391 d_lw_law_392 d_lw_law_393 d_lw_law_394 d_lw_law_395 hi hL ?_
  refine lw_arg 4 (by omega) d_lw_law_396 d_lw_law_397 d_lw_law_398 d_lw_law_399 d_lw_law_400 hi hL ?_
  refine wp_callV [pI _, pI _, pI _, pI _] 101 d_lw_law_401 jd_mo_loan lk_lw_43 rfl s_101 rfl (Nat.le_of_ble_eq_true rfl) (Nat.le_of_ble_eq_true rfl) (rm_kz rfl hk hz) ?_
  refine clI_k (P := fun y M2 => Wp G J_lw_law k z 404 [(0, pR 1001), (1, pR 0), (2, pR 101), (3, pI (i : Int))] [pI y, pI _] NN RF M2 Q) (c_mo_loan ok g1 _ _ _ _ (fun M2 f2 _ g2 => ?_)) (fun _ _ hx => hx)
  exact wp_icmp_eq 1367 d_lw_law_404 (by decide) (fun _ => kk _ M2 (ok_loan ok _ _ _ _) (r1.fo (ok_loan ok _ _ _ _) f2) g2) (fun c => absurd rfl c)
