set_option maxRecDepth 20000 in
theorem wL_law_b264 {K : KX} {G : GX} {b : Nat} (C : Ok K G 800 cL_law R_law) (C2 : Ok K (bump G) 800 cL_law R_law) (hnl : G.2.2.2.2.2.2.2.2.2.2.2.2.2 = 7) (hnl2 : (bump G).2.2.2.2.2.2.2.2.2.2.2.2.2 = 7) {hv : HH} (E : EndL K G b) (E2 : EndL K (bump G) b) (F2 : ∀ xs L, ScrOK K G b xs L → ScrOK K (bump G) b xs L) {xs : Nat → Int32} {L : Nat} {x1 : Nat} {x2 : Nat} {x3 : Nat} {x4 : Int32} {self23 : Int32 → HH → Option (Bool × HH)} (Hself23 : ∀ G', (G' = G ∨ G' = bump G) → ∀ (x4 : Int32) (h : HH), self23 x4 h = some (true, hv) → At K G' 23 [(0, .ref b), (1, .ref (K.2.1 x1)), (2, .ref (K.2.1 x2)), (3, .ref (K.2.1 x3)), (4, .int x4)] [] h) (hXs : ScrOK K G b xs L) (kx1 : isK 8 x1) (kx2 : isK 9 x2) (kx3 : isK 12 x3) {h : HH} (hf : fL_law_b264 self23 xs L x1 x2 x3 x4 h = some (true, hv)) : At K G 264 [(0, .ref b), (1, .ref (K.2.1 x1)), (2, .ref (K.2.1 x2)), (3, .ref (K.2.1 x3)), (4, .int x4)] [] h := by
  unfold fL_law_b264 at hf
  refine A_aload_n C dL_law_264 (i := 1) rfl 1 rfl 265 rfl ?_
  refine A_aload_n C dL_law_265 (i := 0) rfl 0 rfl 266 rfl ?_
  refine A_iload C dL_law_266 4 rfl 268 rfl ?_
  refine A_iconst (v := 1) C dL_law_268 (by decide) 269 rfl ?_
  refine A_iadd C dL_law_269 270 rfl ?_
  refine A_sld C hXs dL_law_270 hf 271 rfl (fun hf => ?_)
  refine A_aload_n C dL_law_271 (i := 0) rfl 0 rfl 272 rfl ?_
  refine A_iload C dL_law_272 4 rfl 274 rfl ?_
  refine A_iconst (v := 2) C dL_law_274 (by decide) 275 rfl ?_
  refine A_iadd C dL_law_275 276 rfl ?_
  refine A_sld C hXs dL_law_276 hf 277 rfl (fun hf => ?_)
  refine A_aload_n C dL_law_277 (i := 0) rfl 0 rfl 278 rfl ?_
  refine A_iload C dL_law_278 4 rfl 280 rfl ?_
  refine A_iconst (v := 3) C dL_law_280 (by decide) 281 rfl ?_
  refine A_iadd C dL_law_281 282 rfl ?_
  refine A_sld C hXs dL_law_282 hf 283 rfl (fun hf => ?_)
  refine A_aload_n C dL_law_283 (i := 0) rfl 0 rfl 284 rfl ?_
  refine A_iload C dL_law_284 4 rfl 286 rfl ?_
  refine A_iconst (v := 4) C dL_law_286 (by decide) 287 rfl ?_
  refine A_iadd C dL_law_287 288 rfl ?_
  refine A_sld C hXs dL_law_288 hf 289 rfl (fun hf => ?_)
  refine A_aload_n C dL_law_289 (i := 0) rfl 0 rfl 290 rfl ?_
  refine A_iload C dL_law_290 4 rfl 292 rfl ?_
  refine A_iconst (v := 5) C dL_law_292 (by decide) 293 rfl ?_
  refine A_iadd C dL_law_293 294 rfl ?_
  refine A_sld C hXs dL_law_294 hf 295 rfl (fun hf => ?_)
  refine CVi C dL_law_295 8 kx1 (by decide) (r := (RX8, TX8, 19)) rfl rfl hf (fun _ _ e => mX8_feed kx1 e) lkR_law_19 (by decide) (by decide) rfl [] rfl (Nat.le_of_ble_eq_true rfl) 298 rfl (fun r295 h295 hf => ?_)
  refine A_aload_n C dL_law_298 (i := 2) rfl 2 rfl 299 rfl ?_
  refine A_aload_n C dL_law_299 (i := 0) rfl 0 rfl 300 rfl ?_
  refine A_iload C dL_law_300 4 rfl 302 rfl ?_
  refine A_iconst (v := 1) C dL_law_302 (by decide) 303 rfl ?_
  refine A_iadd C dL_law_303 304 rfl ?_
  refine A_sld C hXs dL_law_304 hf 305 rfl (fun hf => ?_)
  refine A_aload_n C dL_law_305 (i := 0) rfl 0 rfl 306 rfl ?_
  refine A_iload C dL_law_306 4 rfl 308 rfl ?_
  refine A_iconst (v := 2) C dL_law_308 (by decide) 309 rfl ?_
  refine A_iadd C dL_law_309 310 rfl ?_
  refine A_sld C hXs dL_law_310 hf 311 rfl (fun hf => ?_)
  refine A_aload_n C dL_law_311 (i := 0) rfl 0 rfl 312 rfl ?_
  refine A_iload C dL_law_312 4 rfl 314 rfl ?_
  refine A_iconst (v := 3) C dL_law_314 (by decide) 315 rfl ?_
  refine A_iadd C dL_law_315 316 rfl ?_
  refine A_sld C hXs dL_law_316 hf 317 rfl (fun hf => ?_)
  refine A_aload_n C dL_law_317 (i := 0) rfl 0 rfl 318 rfl ?_
  refine A_iload C dL_law_318 4 rfl 320 rfl ?_
  refine A_iconst (v := 4) C dL_law_320 (by decide) 321 rfl ?_
  refine A_iadd C dL_law_321 322 rfl ?_
  refine A_sld C hXs dL_law_322 hf 323 rfl (fun hf => ?_)
  refine A_aload_n C dL_law_323 (i := 0) rfl 0 rfl 324 rfl ?_
  refine A_iload C dL_law_324 4 rfl 326 rfl ?_
  refine A_iconst (v := 5) C dL_law_326 (by decide) 327 rfl ?_
  refine A_iadd C dL_law_327 328 rfl ?_
  refine A_sld C hXs dL_law_328 hf 329 rfl (fun hf => ?_)
  refine CVi C dL_law_329 9 kx2 (by decide) (r := (RX9, TX9, 44)) rfl rfl hf (fun _ _ e => mX9_feed kx2 e) lkR_law_23 (by decide) (by decide) rfl [.int r295] rfl (Nat.le_of_ble_eq_true rfl) 332 rfl (fun r329 h329 hf => ?_)
  refine A_icmp_eq C dL_law_332 2031 (by decide) 335 rfl hf (fun c332 hf => ?_) (fun c332 hf => ?_)
  · refine A_iinc (v := (x4 + 6)) C dL_law_2031 4 rfl rfl [(4, .int (x4 + 6)), (0, .ref b), (1, .ref (K.2.1 x1)), (2, .ref (K.2.1 x2)), (3, .ref (K.2.1 x3))] (lt_nl hnl (by decide)) rfl 2034 rfl ?_
    refine A_goto C dL_law_2034 23 (by decide) ?_
    refine A_sub [1, 2, 3, 4, 0] (lv' := [(0, .ref b), (1, .ref (K.2.1 x1)), (2, .ref (K.2.1 x2)), (3, .ref (K.2.1 x3)), (4, .int (x4 + 6))]) rfl ?_
    exact Hself23 _ (Or.inl rfl) _ _ hf
  refine A_iconst (v := 0) C dL_law_335 (by decide) 336 rfl ?_
  exact A_lawret0 hf
set_option maxRecDepth 20000 in
theorem wL_law_b337 {K : KX} {G : GX} {b : Nat} (C : Ok K G 800 cL_law R_law) (C2 : Ok K (bump G) 800 cL_law R_law) (hnl : G.2.2.2.2.2.2.2.2.2.2.2.2.2 = 7) (hnl2 : (bump G).2.2.2.2.2.2.2.2.2.2.2.2.2 = 7) {hv : HH} (E : EndL K G b) (E2 : EndL K (bump G) b) (F2 : ∀ xs L, ScrOK K G b xs L → ScrOK K (bump G) b xs L) {xs : Nat → Int32} {L : Nat} {x1 : Nat} {x2 : Nat} {x3 : Nat} {x4 : Int32} {self23 : Int32 → HH → Option (Bool × HH)} (Hself23 : ∀ G', (G' = G ∨ G' = bump G) → ∀ (x4 : Int32) (h : HH), self23 x4 h = some (true, hv) → At K G' 23 [(0, .ref b), (1, .ref (K.2.1 x1)), (2, .ref (K.2.1 x2)), (3, .ref (K.2.1 x3)), (4, .int x4)] [] h) (hXs : ScrOK K G b xs L) (kx1 : isK 8 x1) (kx2 : isK 9 x2) (kx3 : isK 12 x3) {h : HH} (hf : fL_law_b337 self23 xs L x1 x2 x3 x4 h = some (true, hv)) : At K G 337 [(0, .ref b), (1, .ref (K.2.1 x1)), (2, .ref (K.2.1 x2)), (3, .ref (K.2.1 x3)), (4, .int x4)] [] h := by
  unfold fL_law_b337 at hf
  refine A_aload_n C dL_law_337 (i := 1) rfl 1 rfl 338 rfl ?_
  refine A_aload_n C dL_law_338 (i := 0) rfl 0 rfl 339 rfl ?_
  refine A_iload C dL_law_339 4 rfl 341 rfl ?_
  refine A_iconst (v := 1) C dL_law_341 (by decide) 342 rfl ?_
  refine A_iadd C dL_law_342 343 rfl ?_
  refine A_sld C hXs dL_law_343 hf 344 rfl (fun hf => ?_)
  refine CVi C dL_law_344 8 kx1 (by decide) (r := (RX8, TX8, 19)) rfl rfl hf (fun _ _ e => mX8_dream kx1 e) lkR_law_24 (by decide) (by decide) rfl [] rfl (Nat.le_of_ble_eq_true rfl) 347 rfl (fun r344 h344 hf => ?_)
  refine A_aload_n C dL_law_347 (i := 2) rfl 2 rfl 348 rfl ?_
  refine A_aload_n C dL_law_348 (i := 0) rfl 0 rfl 349 rfl ?_
  refine A_iload C dL_law_349 4 rfl 351 rfl ?_
  refine A_iconst (v := 1) C dL_law_351 (by decide) 352 rfl ?_
  refine A_iadd C dL_law_352 353 rfl ?_
  refine A_sld C hXs dL_law_353 hf 354 rfl (fun hf => ?_)
  refine CVi C dL_law_354 9 kx2 (by decide) (r := (RX9, TX9, 44)) rfl rfl hf (fun _ _ e => mX9_dream kx2 e) lkR_law_27 (by decide) (by decide) rfl [.int r344] rfl (Nat.le_of_ble_eq_true rfl) 357 rfl (fun r354 h354 hf => ?_)
  refine A_icmp_eq C dL_law_357 2031 (by decide) 360 rfl hf (fun c357 hf => ?_) (fun c357 hf => ?_)
  · refine A_iinc (v := (x4 + 6)) C dL_law_2031 4 rfl rfl [(4, .int (x4 + 6)), (0, .ref b), (1, .ref (K.2.1 x1)), (2, .ref (K.2.1 x2)), (3, .ref (K.2.1 x3))] (lt_nl hnl (by decide)) rfl 2034 rfl ?_
    refine A_goto C dL_law_2034 23 (by decide) ?_
    refine A_sub [1, 2, 3, 4, 0] (lv' := [(0, .ref b), (1, .ref (K.2.1 x1)), (2, .ref (K.2.1 x2)), (3, .ref (K.2.1 x3)), (4, .int (x4 + 6))]) rfl ?_
    exact Hself23 _ (Or.inl rfl) _ _ hf
  refine A_iconst (v := 0) C dL_law_360 (by decide) 361 rfl ?_
  exact A_lawret0 hf
set_option maxRecDepth 20000 in
theorem wL_law_b362 {K : KX} {G : GX} {b : Nat} (C : Ok K G 800 cL_law R_law) (C2 : Ok K (bump G) 800 cL_law R_law) (hnl : G.2.2.2.2.2.2.2.2.2.2.2.2.2 = 7) (hnl2 : (bump G).2.2.2.2.2.2.2.2.2.2.2.2.2 = 7) {hv : HH} (E : EndL K G b) (E2 : EndL K (bump G) b) (F2 : ∀ xs L, ScrOK K G b xs L → ScrOK K (bump G) b xs L) {xs : Nat → Int32} {L : Nat} {x1 : Nat} {x2 : Nat} {x3 : Nat} {x4 : Int32} {self23 : Int32 → HH → Option (Bool × HH)} (Hself23 : ∀ G', (G' = G ∨ G' = bump G) → ∀ (x4 : Int32) (h : HH), self23 x4 h = some (true, hv) → At K G' 23 [(0, .ref b), (1, .ref (K.2.1 x1)), (2, .ref (K.2.1 x2)), (3, .ref (K.2.1 x3)), (4, .int x4)] [] h) (hXs : ScrOK K G b xs L) (kx1 : isK 8 x1) (kx2 : isK 9 x2) (kx3 : isK 12 x3) {h : HH} (hf : fL_law_b362 self23 xs L x1 x2 x3 x4 h = some (true, hv)) : At K G 362 [(0, .ref b), (1, .ref (K.2.1 x1)), (2, .ref (K.2.1 x2)), (3, .ref (K.2.1 x3)), (4, .int x4)] [] h := by
  unfold fL_law_b362 at hf
  refine A_aload_n C dL_law_362 (i := 1) rfl 1 rfl 363 rfl ?_
  refine CVi C dL_law_363 8 kx1 (by decide) (r := (RX8, TX8, 19)) rfl rfl hf (fun _ _ e => mX8_fault kx1 e) lkR_law_28 (by decide) (by decide) rfl [] rfl (Nat.le_of_ble_eq_true rfl) 366 rfl (fun r363 h363 hf => ?_)
  refine A_aload_n C dL_law_366 (i := 2) rfl 2 rfl 367 rfl ?_
  refine CVi C dL_law_367 9 kx2 (by decide) (r := (RX9, TX9, 44)) rfl rfl hf (fun _ _ e => mX9_fault kx2 e) lkR_law_32 (by decide) (by decide) rfl [.int r363] rfl (Nat.le_of_ble_eq_true rfl) 370 rfl (fun r367 h367 hf => ?_)
  refine A_icmp_eq C dL_law_370 2031 (by decide) 373 rfl hf (fun c370 hf => ?_) (fun c370 hf => ?_)
  · refine A_iinc (v := (x4 + 6)) C dL_law_2031 4 rfl rfl [(4, .int (x4 + 6)), (0, .ref b), (1, .ref (K.2.1 x1)), (2, .ref (K.2.1 x2)), (3, .ref (K.2.1 x3))] (lt_nl hnl (by decide)) rfl 2034 rfl ?_
    refine A_goto C dL_law_2034 23 (by decide) ?_
    refine A_sub [1, 2, 3, 4, 0] (lv' := [(0, .ref b), (1, .ref (K.2.1 x1)), (2, .ref (K.2.1 x2)), (3, .ref (K.2.1 x3)), (4, .int (x4 + 6))]) rfl ?_
    exact Hself23 _ (Or.inl rfl) _ _ hf
  refine A_iconst (v := 0) C dL_law_373 (by decide) 374 rfl ?_
  exact A_lawret0 hf
set_option maxRecDepth 20000 in
theorem wL_law_b375 {K : KX} {G : GX} {b : Nat} (C : Ok K G 800 cL_law R_law) (C2 : Ok K (bump G) 800 cL_law R_law) (hnl : G.2.2.2.2.2.2.2.2.2.2.2.2.2 = 7) (hnl2 : (bump G).2.2.2.2.2.2.2.2.2.2.2.2.2 = 7) {hv : HH} (E : EndL K G b) (E2 : EndL K (bump G) b) (F2 : ∀ xs L, ScrOK K G b xs L → ScrOK K (bump G) b xs L) {xs : Nat → Int32} {L : Nat} {x1 : Nat} {x2 : Nat} {x3 : Nat} {x4 : Int32} {self23 : Int32 → HH → Option (Bool × HH)} (Hself23 : ∀ G', (G' = G ∨ G' = bump G) → ∀ (x4 : Int32) (h : HH), self23 x4 h = some (true, hv) → At K G' 23 [(0, .ref b), (1, .ref (K.2.1 x1)), (2, .ref (K.2.1 x2)), (3, .ref (K.2.1 x3)), (4, .int x4)] [] h) (hXs : ScrOK K G b xs L) (kx1 : isK 8 x1) (kx2 : isK 9 x2) (kx3 : isK 12 x3) {h : HH} (hf : fL_law_b375 self23 xs L x1 x2 x3 x4 h = some (true, hv)) : At K G 375 [(0, .ref b), (1, .ref (K.2.1 x1)), (2, .ref (K.2.1 x2)), (3, .ref (K.2.1 x3)), (4, .int x4)] [] h := by
  unfold fL_law_b375 at hf
  refine A_aload_n C dL_law_375 (i := 1) rfl 1 rfl 376 rfl ?_
  refine CVi C dL_law_376 8 kx1 (by decide) (r := (RX8, TX8, 19)) rfl rfl hf (fun _ _ e => mX8_where kx1 e) lkR_law_33 (by decide) (by decide) rfl [] rfl (Nat.le_of_ble_eq_true rfl) 379 rfl (fun r376 h376 hf => ?_)
  refine A_aload_n C dL_law_379 (i := 2) rfl 2 rfl 380 rfl ?_
  refine CVi C dL_law_380 9 kx2 (by decide) (r := (RX9, TX9, 44)) rfl rfl hf (fun _ _ e => mX9_where kx2 e) lkR_law_36 (by decide) (by decide) rfl [.int r376] rfl (Nat.le_of_ble_eq_true rfl) 383 rfl (fun r380 h380 hf => ?_)
  refine A_icmp_eq C dL_law_383 2031 (by decide) 386 rfl hf (fun c383 hf => ?_) (fun c383 hf => ?_)
  · refine A_iinc (v := (x4 + 6)) C dL_law_2031 4 rfl rfl [(4, .int (x4 + 6)), (0, .ref b), (1, .ref (K.2.1 x1)), (2, .ref (K.2.1 x2)), (3, .ref (K.2.1 x3))] (lt_nl hnl (by decide)) rfl 2034 rfl ?_
    refine A_goto C dL_law_2034 23 (by decide) ?_
    refine A_sub [1, 2, 3, 4, 0] (lv' := [(0, .ref b), (1, .ref (K.2.1 x1)), (2, .ref (K.2.1 x2)), (3, .ref (K.2.1 x3)), (4, .int (x4 + 6))]) rfl ?_
    exact Hself23 _ (Or.inl rfl) _ _ hf
  refine A_iconst (v := 0) C dL_law_386 (by decide) 387 rfl ?_
  exact A_lawret0 hf
set_option maxRecDepth 20000 in
theorem wL_law_b388 {K : KX} {G : GX} {b : Nat} (C : Ok K G 800 cL_law R_law) (C2 : Ok K (bump G) 800 cL_law R_law) (hnl : G.2.2.2.2.2.2.2.2.2.2.2.2.2 = 7) (hnl2 : (bump G).2.2.2.2.2.2.2.2.2.2.2.2.2 = 7) {hv : HH} (E : EndL K G b) (E2 : EndL K (bump G) b) (F2 : ∀ xs L, ScrOK K G b xs L → ScrOK K (bump G) b xs L) {xs : Nat → Int32} {L : Nat} {x1 : Nat} {x2 : Nat} {x3 : Nat} {x4 : Int32} {self23 : Int32 → HH → Option (Bool × HH)} (Hself23 : ∀ G', (G' = G ∨ G' = bump G) → ∀ (x4 : Int32) (h : HH), self23 x4 h = some (true, hv) → At K G' 23 [(0, .ref b), (1, .ref (K.2.1 x1)), (2, .ref (K.2.1 x2)), (3, .ref (K.2.1 x3)), (4, .int x4)] [] h) (hXs : ScrOK K G b xs L) (kx1 : isK 8 x1) (kx2 : isK 9 x2) (kx3 : isK 12 x3) {h : HH} (hf : fL_law_b388 self23 xs L x1 x2 x3 x4 h = some (true, hv)) : At K G 388 [(0, .ref b), (1, .ref (K.2.1 x1)), (2, .ref (K.2.1 x2)), (3, .ref (K.2.1 x3)), (4, .int x4)] [] h := by
  unfold fL_law_b388 at hf
  refine A_aload_n C dL_law_388 (i := 1) rfl 1 rfl 389 rfl ?_
  refine A_aload_n C dL_law_389 (i := 0) rfl 0 rfl 390 rfl ?_
  refine A_iload C dL_law_390 4 rfl 392 rfl ?_
  refine A_iconst (v := 1) C dL_law_392 (by decide) 393 rfl ?_
  refine A_iadd C dL_law_393 394 rfl ?_
  refine A_sld C hXs dL_law_394 hf 395 rfl (fun hf => ?_)
  refine CVi C dL_law_395 8 kx1 (by decide) (r := (RX8, TX8, 19)) rfl rfl hf (fun _ _ e => mX8_quick kx1 e) lkR_law_37 (by decide) (by decide) rfl [] rfl (Nat.le_of_ble_eq_true rfl) 398 rfl (fun r395 h395 hf => ?_)
  refine A_aload_n C dL_law_398 (i := 2) rfl 2 rfl 399 rfl ?_
  refine A_aload_n C dL_law_399 (i := 0) rfl 0 rfl 400 rfl ?_
  refine A_iload C dL_law_400 4 rfl 402 rfl ?_
  refine A_iconst (v := 1) C dL_law_402 (by decide) 403 rfl ?_
  refine A_iadd C dL_law_403 404 rfl ?_
  refine A_sld C hXs dL_law_404 hf 405 rfl (fun hf => ?_)
  refine CVi C dL_law_405 9 kx2 (by decide) (r := (RX9, TX9, 44)) rfl rfl hf (fun _ _ e => mX9_quick kx2 e) lkR_law_40 (by decide) (by decide) rfl [.int r395] rfl (Nat.le_of_ble_eq_true rfl) 408 rfl (fun r405 h405 hf => ?_)
  refine A_icmp_eq C dL_law_408 2031 (by decide) 411 rfl hf (fun c408 hf => ?_) (fun c408 hf => ?_)
  · refine A_iinc (v := (x4 + 6)) C dL_law_2031 4 rfl rfl [(4, .int (x4 + 6)), (0, .ref b), (1, .ref (K.2.1 x1)), (2, .ref (K.2.1 x2)), (3, .ref (K.2.1 x3))] (lt_nl hnl (by decide)) rfl 2034 rfl ?_
    refine A_goto C dL_law_2034 23 (by decide) ?_
    refine A_sub [1, 2, 3, 4, 0] (lv' := [(0, .ref b), (1, .ref (K.2.1 x1)), (2, .ref (K.2.1 x2)), (3, .ref (K.2.1 x3)), (4, .int (x4 + 6))]) rfl ?_
    exact Hself23 _ (Or.inl rfl) _ _ hf
  refine A_iconst (v := 0) C dL_law_411 (by decide) 412 rfl ?_
  exact A_lawret0 hf
set_option maxRecDepth 20000 in
theorem wL_law_b413 {K : KX} {G : GX} {b : Nat} (C : Ok K G 800 cL_law R_law) (C2 : Ok K (bump G) 800 cL_law R_law) (hnl : G.2.2.2.2.2.2.2.2.2.2.2.2.2 = 7) (hnl2 : (bump G).2.2.2.2.2.2.2.2.2.2.2.2.2 = 7) {hv : HH} (E : EndL K G b) (E2 : EndL K (bump G) b) (F2 : ∀ xs L, ScrOK K G b xs L → ScrOK K (bump G) b xs L) {xs : Nat → Int32} {L : Nat} {x1 : Nat} {x2 : Nat} {x3 : Nat} {x4 : Int32} {self23 : Int32 → HH → Option (Bool × HH)} (Hself23 : ∀ G', (G' = G ∨ G' = bump G) → ∀ (x4 : Int32) (h : HH), self23 x4 h = some (true, hv) → At K G' 23 [(0, .ref b), (1, .ref (K.2.1 x1)), (2, .ref (K.2.1 x2)), (3, .ref (K.2.1 x3)), (4, .int x4)] [] h) (hXs : ScrOK K G b xs L) (kx1 : isK 8 x1) (kx2 : isK 9 x2) (kx3 : isK 12 x3) {h : HH} (hf : fL_law_b413 self23 xs L x1 x2 x3 x4 h = some (true, hv)) : At K G 413 [(0, .ref b), (1, .ref (K.2.1 x1)), (2, .ref (K.2.1 x2)), (3, .ref (K.2.1 x3)), (4, .int x4)] [] h := by
  unfold fL_law_b413 at hf
  refine A_aload_n C dL_law_413 (i := 1) rfl 1 rfl 414 rfl ?_
  refine A_aload_n C dL_law_414 (i := 0) rfl 0 rfl 415 rfl ?_
  refine A_iload C dL_law_415 4 rfl 417 rfl ?_
  refine A_iconst (v := 1) C dL_law_417 (by decide) 418 rfl ?_
  refine A_iadd C dL_law_418 419 rfl ?_
  refine A_sld C hXs dL_law_419 hf 420 rfl (fun hf => ?_)
  refine CVl C dL_law_420 8 kx1 (by decide) (r := (RX8, TX8, 19)) rfl rfl hf (fun _ _ e => mX8_clock kx1 e) lkR_law_41 (by decide) (by decide) rfl [] rfl (Nat.le_of_ble_eq_true rfl) 423 rfl (fun r420 h420 hf => ?_)
  refine A_aload_n C dL_law_423 (i := 2) rfl 2 rfl 424 rfl ?_
  refine A_aload_n C dL_law_424 (i := 0) rfl 0 rfl 425 rfl ?_
  refine A_iload C dL_law_425 4 rfl 427 rfl ?_
  refine A_iconst (v := 1) C dL_law_427 (by decide) 428 rfl ?_
  refine A_iadd C dL_law_428 429 rfl ?_
  refine A_sld C hXs dL_law_429 hf 430 rfl (fun hf => ?_)
  refine CVl C dL_law_430 9 kx2 (by decide) (r := (RX9, TX9, 44)) rfl rfl hf (fun _ _ e => mX9_clock kx2 e) lkR_law_45 (by decide) (by decide) rfl [.long r420] rfl (Nat.le_of_ble_eq_true rfl) 433 rfl (fun r430 h430 hf => ?_)
  refine A_l_eq C dL_law_433 dL_law_434 2031 (by decide) 437 rfl hf (fun c433 hf => ?_) (fun c433 hf => ?_)
  · refine A_iinc (v := (x4 + 6)) C dL_law_2031 4 rfl rfl [(4, .int (x4 + 6)), (0, .ref b), (1, .ref (K.2.1 x1)), (2, .ref (K.2.1 x2)), (3, .ref (K.2.1 x3))] (lt_nl hnl (by decide)) rfl 2034 rfl ?_
    refine A_goto C dL_law_2034 23 (by decide) ?_
    refine A_sub [1, 2, 3, 4, 0] (lv' := [(0, .ref b), (1, .ref (K.2.1 x1)), (2, .ref (K.2.1 x2)), (3, .ref (K.2.1 x3)), (4, .int (x4 + 6))]) rfl ?_
    exact Hself23 _ (Or.inl rfl) _ _ hf
  refine A_iconst (v := 0) C dL_law_437 (by decide) 438 rfl ?_
  exact A_lawret0 hf
set_option maxRecDepth 20000 in
theorem wL_law_b439 {K : KX} {G : GX} {b : Nat} (C : Ok K G 800 cL_law R_law) (C2 : Ok K (bump G) 800 cL_law R_law) (hnl : G.2.2.2.2.2.2.2.2.2.2.2.2.2 = 7) (hnl2 : (bump G).2.2.2.2.2.2.2.2.2.2.2.2.2 = 7) {hv : HH} (E : EndL K G b) (E2 : EndL K (bump G) b) (F2 : ∀ xs L, ScrOK K G b xs L → ScrOK K (bump G) b xs L) {xs : Nat → Int32} {L : Nat} {x1 : Nat} {x2 : Nat} {x3 : Nat} {x4 : Int32} {self23 : Int32 → HH → Option (Bool × HH)} (Hself23 : ∀ G', (G' = G ∨ G' = bump G) → ∀ (x4 : Int32) (h : HH), self23 x4 h = some (true, hv) → At K G' 23 [(0, .ref b), (1, .ref (K.2.1 x1)), (2, .ref (K.2.1 x2)), (3, .ref (K.2.1 x3)), (4, .int x4)] [] h) (hXs : ScrOK K G b xs L) (kx1 : isK 8 x1) (kx2 : isK 9 x2) (kx3 : isK 12 x3) {h : HH} (hf : fL_law_b439 self23 xs L x1 x2 x3 x4 h = some (true, hv)) : At K G 439 [(0, .ref b), (1, .ref (K.2.1 x1)), (2, .ref (K.2.1 x2)), (3, .ref (K.2.1 x3)), (4, .int x4)] [] h := by
  unfold fL_law_b439 at hf
  refine A_aload_n C dL_law_439 (i := 1) rfl 1 rfl 440 rfl ?_
  refine CVl C dL_law_440 8 kx1 (by decide) (r := (RX8, TX8, 19)) rfl rfl hf (fun _ _ e => mX8_ticks kx1 e) lkR_law_46 (by decide) (by decide) rfl [] rfl (Nat.le_of_ble_eq_true rfl) 443 rfl (fun r440 h440 hf => ?_)
  refine A_aload_n C dL_law_443 (i := 2) rfl 2 rfl 444 rfl ?_
  refine CVl C dL_law_444 9 kx2 (by decide) (r := (RX9, TX9, 44)) rfl rfl hf (fun _ _ e => mX9_ticks kx2 e) lkR_law_50 (by decide) (by decide) rfl [.long r440] rfl (Nat.le_of_ble_eq_true rfl) 447 rfl (fun r444 h444 hf => ?_)
  refine A_l_eq C dL_law_447 dL_law_448 2031 (by decide) 451 rfl hf (fun c447 hf => ?_) (fun c447 hf => ?_)
  · refine A_iinc (v := (x4 + 6)) C dL_law_2031 4 rfl rfl [(4, .int (x4 + 6)), (0, .ref b), (1, .ref (K.2.1 x1)), (2, .ref (K.2.1 x2)), (3, .ref (K.2.1 x3))] (lt_nl hnl (by decide)) rfl 2034 rfl ?_
    refine A_goto C dL_law_2034 23 (by decide) ?_
    refine A_sub [1, 2, 3, 4, 0] (lv' := [(0, .ref b), (1, .ref (K.2.1 x1)), (2, .ref (K.2.1 x2)), (3, .ref (K.2.1 x3)), (4, .int (x4 + 6))]) rfl ?_
    exact Hself23 _ (Or.inl rfl) _ _ hf
  refine A_iconst (v := 0) C dL_law_451 (by decide) 452 rfl ?_
  exact A_lawret0 hf
set_option maxRecDepth 20000 in
theorem wL_law_b453 {K : KX} {G : GX} {b : Nat} (C : Ok K G 800 cL_law R_law) (C2 : Ok K (bump G) 800 cL_law R_law) (hnl : G.2.2.2.2.2.2.2.2.2.2.2.2.2 = 7) (hnl2 : (bump G).2.2.2.2.2.2.2.2.2.2.2.2.2 = 7) {hv : HH} (E : EndL K G b) (E2 : EndL K (bump G) b) (F2 : ∀ xs L, ScrOK K G b xs L → ScrOK K (bump G) b xs L) {xs : Nat → Int32} {L : Nat} {x1 : Nat} {x2 : Nat} {x3 : Nat} {x4 : Int32} {self23 : Int32 → HH → Option (Bool × HH)} (Hself23 : ∀ G', (G' = G ∨ G' = bump G) → ∀ (x4 : Int32) (h : HH), self23 x4 h = some (true, hv) → At K G' 23 [(0, .ref b), (1, .ref (K.2.1 x1)), (2, .ref (K.2.1 x2)), (3, .ref (K.2.1 x3)), (4, .int x4)] [] h) (hXs : ScrOK K G b xs L) (kx1 : isK 8 x1) (kx2 : isK 9 x2) (kx3 : isK 12 x3) {h : HH} (hf : fL_law_b453 self23 xs L x1 x2 x3 x4 h = some (true, hv)) : At K G 453 [(0, .ref b), (1, .ref (K.2.1 x1)), (2, .ref (K.2.1 x2)), (3, .ref (K.2.1 x3)), (4, .int x4)] [] h := by
  unfold fL_law_b453 at hf
  refine A_aload_n C dL_law_453 (i := 1) rfl 1 rfl 454 rfl ?_
  refine A_aload_n C dL_law_454 (i := 0) rfl 0 rfl 455 rfl ?_
  refine A_iload C dL_law_455 4 rfl 457 rfl ?_
  refine A_iconst (v := 1) C dL_law_457 (by decide) 458 rfl ?_
  refine A_iadd C dL_law_458 459 rfl ?_
  refine A_sld C hXs dL_law_459 hf 460 rfl (fun hf => ?_)
  refine A_aload_n C dL_law_460 (i := 0) rfl 0 rfl 461 rfl ?_
  refine A_iload C dL_law_461 4 rfl 463 rfl ?_
  refine A_iconst (v := 2) C dL_law_463 (by decide) 464 rfl ?_
  refine A_iadd C dL_law_464 465 rfl ?_
  refine A_sld C hXs dL_law_465 hf 466 rfl (fun hf => ?_)
  refine A_aload_n C dL_law_466 (i := 0) rfl 0 rfl 467 rfl ?_
  refine A_iload C dL_law_467 4 rfl 469 rfl ?_
  refine A_iconst (v := 3) C dL_law_469 (by decide) 470 rfl ?_
  refine A_iadd C dL_law_470 471 rfl ?_
  refine A_sld C hXs dL_law_471 hf 472 rfl (fun hf => ?_)
  refine A_aload_n C dL_law_472 (i := 0) rfl 0 rfl 473 rfl ?_
  refine A_iload C dL_law_473 4 rfl 475 rfl ?_
  refine A_iconst (v := 4) C dL_law_475 (by decide) 476 rfl ?_
  refine A_iadd C dL_law_476 477 rfl ?_
  refine A_sld C hXs dL_law_477 hf 478 rfl (fun hf => ?_)
  refine A_if_eq C dL_law_478 485 (by decide) 481 rfl hf (fun c478 hf => ?_) (fun c478 hf => ?_)
  · refine A_iconst (v := 0) C dL_law_485 (by decide) 486 rfl ?_
    refine CVl C dL_law_486 8 kx1 (by decide) (r := (RX8, TX8, 19)) rfl rfl hf (fun _ _ e => mX8_minutes kx1 e) lkR_law_51 (by decide) (by decide) rfl [] rfl (Nat.le_of_ble_eq_true rfl) 489 rfl (fun r486 h486 hf => ?_)
    refine A_aload_n C dL_law_489 (i := 2) rfl 2 rfl 490 rfl ?_
    refine A_aload_n C dL_law_490 (i := 0) rfl 0 rfl 491 rfl ?_
    refine A_iload C dL_law_491 4 rfl 493 rfl ?_
    refine A_iconst (v := 1) C dL_law_493 (by decide) 494 rfl ?_
    refine A_iadd C dL_law_494 495 rfl ?_
    refine A_sld C hXs dL_law_495 hf 496 rfl (fun hf => ?_)
    refine A_aload_n C dL_law_496 (i := 0) rfl 0 rfl 497 rfl ?_
    refine A_iload C dL_law_497 4 rfl 499 rfl ?_
    refine A_iconst (v := 2) C dL_law_499 (by decide) 500 rfl ?_
    refine A_iadd C dL_law_500 501 rfl ?_
    refine A_sld C hXs dL_law_501 hf 502 rfl (fun hf => ?_)
    refine A_aload_n C dL_law_502 (i := 0) rfl 0 rfl 503 rfl ?_
    refine A_iload C dL_law_503 4 rfl 505 rfl ?_
    refine A_iconst (v := 3) C dL_law_505 (by decide) 506 rfl ?_
    refine A_iadd C dL_law_506 507 rfl ?_
    refine A_sld C hXs dL_law_507 hf 508 rfl (fun hf => ?_)
    refine A_aload_n C dL_law_508 (i := 0) rfl 0 rfl 509 rfl ?_
    refine A_iload C dL_law_509 4 rfl 511 rfl ?_
    refine A_iconst (v := 4) C dL_law_511 (by decide) 512 rfl ?_
    refine A_iadd C dL_law_512 513 rfl ?_
    refine A_sld C hXs dL_law_513 hf 514 rfl (fun hf => ?_)
    refine A_if_eq C dL_law_514 521 (by decide) 517 rfl hf (fun c514 hf => ?_) (fun c514 hf => ?_)
    · refine A_iconst (v := 0) C dL_law_521 (by decide) 522 rfl ?_
      refine CVl C dL_law_522 9 kx2 (by decide) (r := (RX9, TX9, 44)) rfl rfl hf (fun _ _ e => mX9_minutes kx2 e) lkR_law_55 (by decide) (by decide) rfl [.long r486] rfl (Nat.le_of_ble_eq_true rfl) 525 rfl (fun r522 h522 hf => ?_)
      refine A_l_eq C dL_law_525 dL_law_526 2031 (by decide) 529 rfl hf (fun c525 hf => ?_) (fun c525 hf => ?_)
      · refine A_iinc (v := (x4 + 6)) C dL_law_2031 4 rfl rfl [(4, .int (x4 + 6)), (0, .ref b), (1, .ref (K.2.1 x1)), (2, .ref (K.2.1 x2)), (3, .ref (K.2.1 x3))] (lt_nl hnl (by decide)) rfl 2034 rfl ?_
        refine A_goto C dL_law_2034 23 (by decide) ?_
        refine A_sub [1, 2, 3, 4, 0] (lv' := [(0, .ref b), (1, .ref (K.2.1 x1)), (2, .ref (K.2.1 x2)), (3, .ref (K.2.1 x3)), (4, .int (x4 + 6))]) rfl ?_
        exact Hself23 _ (Or.inl rfl) _ _ hf
      refine A_iconst (v := 0) C dL_law_529 (by decide) 530 rfl ?_
      exact A_lawret0 hf
    refine A_iconst (v := 1) C dL_law_517 (by decide) 518 rfl ?_
    refine A_goto C dL_law_518 522 (by decide) ?_
    refine CVl C dL_law_522 9 kx2 (by decide) (r := (RX9, TX9, 44)) rfl rfl hf (fun _ _ e => mX9_minutes kx2 e) lkR_law_55 (by decide) (by decide) rfl [.long r486] rfl (Nat.le_of_ble_eq_true rfl) 525 rfl (fun r522 h522 hf => ?_)
    refine A_l_eq C dL_law_525 dL_law_526 2031 (by decide) 529 rfl hf (fun c525 hf => ?_) (fun c525 hf => ?_)
    · refine A_iinc (v := (x4 + 6)) C dL_law_2031 4 rfl rfl [(4, .int (x4 + 6)), (0, .ref b), (1, .ref (K.2.1 x1)), (2, .ref (K.2.1 x2)), (3, .ref (K.2.1 x3))] (lt_nl hnl (by decide)) rfl 2034 rfl ?_
      refine A_goto C dL_law_2034 23 (by decide) ?_
      refine A_sub [1, 2, 3, 4, 0] (lv' := [(0, .ref b), (1, .ref (K.2.1 x1)), (2, .ref (K.2.1 x2)), (3, .ref (K.2.1 x3)), (4, .int (x4 + 6))]) rfl ?_
      exact Hself23 _ (Or.inl rfl) _ _ hf
    refine A_iconst (v := 0) C dL_law_529 (by decide) 530 rfl ?_
    exact A_lawret0 hf
  refine A_iconst (v := 1) C dL_law_481 (by decide) 482 rfl ?_
  refine A_goto C dL_law_482 486 (by decide) ?_
  refine CVl C dL_law_486 8 kx1 (by decide) (r := (RX8, TX8, 19)) rfl rfl hf (fun _ _ e => mX8_minutes kx1 e) lkR_law_51 (by decide) (by decide) rfl [] rfl (Nat.le_of_ble_eq_true rfl) 489 rfl (fun r486 h486 hf => ?_)
  refine A_aload_n C dL_law_489 (i := 2) rfl 2 rfl 490 rfl ?_
  refine A_aload_n C dL_law_490 (i := 0) rfl 0 rfl 491 rfl ?_
  refine A_iload C dL_law_491 4 rfl 493 rfl ?_
  refine A_iconst (v := 1) C dL_law_493 (by decide) 494 rfl ?_
  refine A_iadd C dL_law_494 495 rfl ?_
  refine A_sld C hXs dL_law_495 hf 496 rfl (fun hf => ?_)
  refine A_aload_n C dL_law_496 (i := 0) rfl 0 rfl 497 rfl ?_
  refine A_iload C dL_law_497 4 rfl 499 rfl ?_
  refine A_iconst (v := 2) C dL_law_499 (by decide) 500 rfl ?_
  refine A_iadd C dL_law_500 501 rfl ?_
  refine A_sld C hXs dL_law_501 hf 502 rfl (fun hf => ?_)
  refine A_aload_n C dL_law_502 (i := 0) rfl 0 rfl 503 rfl ?_
  refine A_iload C dL_law_503 4 rfl 505 rfl ?_
  refine A_iconst (v := 3) C dL_law_505 (by decide) 506 rfl ?_
  refine A_iadd C dL_law_506 507 rfl ?_
  refine A_sld C hXs dL_law_507 hf 508 rfl (fun hf => ?_)
  refine A_aload_n C dL_law_508 (i := 0) rfl 0 rfl 509 rfl ?_
  refine A_iload C dL_law_509 4 rfl 511 rfl ?_
  refine A_iconst (v := 4) C dL_law_511 (by decide) 512 rfl ?_
  refine A_iadd C dL_law_512 513 rfl ?_
  refine A_sld C hXs dL_law_513 hf 514 rfl (fun hf => ?_)
  refine A_if_eq C dL_law_514 521 (by decide) 517 rfl hf (fun c514 hf => ?_) (fun c514 hf => ?_)
  · refine A_iconst (v := 0) C dL_law_521 (by decide) 522 rfl ?_
    refine CVl C dL_law_522 9 kx2 (by decide) (r := (RX9, TX9, 44)) rfl rfl hf (fun _ _ e => mX9_minutes kx2 e) lkR_law_55 (by decide) (by decide) rfl [.long r486] rfl (Nat.le_of_ble_eq_true rfl) 525 rfl (fun r522 h522 hf => ?_)
    refine A_l_eq C dL_law_525 dL_law_526 2031 (by decide) 529 rfl hf (fun c525 hf => ?_) (fun c525 hf => ?_)
    · refine A_iinc (v := (x4 + 6)) C dL_law_2031 4 rfl rfl [(4, .int (x4 + 6)), (0, .ref b), (1, .ref (K.2.1 x1)), (2, .ref (K.2.1 x2)), (3, .ref (K.2.1 x3))] (lt_nl hnl (by decide)) rfl 2034 rfl ?_
      refine A_goto C dL_law_2034 23 (by decide) ?_
      refine A_sub [1, 2, 3, 4, 0] (lv' := [(0, .ref b), (1, .ref (K.2.1 x1)), (2, .ref (K.2.1 x2)), (3, .ref (K.2.1 x3)), (4, .int (x4 + 6))]) rfl ?_
      exact Hself23 _ (Or.inl rfl) _ _ hf
    refine A_iconst (v := 0) C dL_law_529 (by decide) 530 rfl ?_
    exact A_lawret0 hf
  refine A_iconst (v := 1) C dL_law_517 (by decide) 518 rfl ?_
  refine A_goto C dL_law_518 522 (by decide) ?_
  refine CVl C dL_law_522 9 kx2 (by decide) (r := (RX9, TX9, 44)) rfl rfl hf (fun _ _ e => mX9_minutes kx2 e) lkR_law_55 (by decide) (by decide) rfl [.long r486] rfl (Nat.le_of_ble_eq_true rfl) 525 rfl (fun r522 h522 hf => ?_)
  refine A_l_eq C dL_law_525 dL_law_526 2031 (by decide) 529 rfl hf (fun c525 hf => ?_) (fun c525 hf => ?_)
  · refine A_iinc (v := (x4 + 6)) C dL_law_2031 4 rfl rfl [(4, .int (x4 + 6)), (0, .ref b), (1, .ref (K.2.1 x1)), (2, .ref (K.2.1 x2)), (3, .ref (K.2.1 x3))] (lt_nl hnl (by decide)) rfl 2034 rfl ?_
    refine A_goto C dL_law_2034 23 (by decide) ?_
    refine A_sub [1, 2, 3, 4, 0] (lv' := [(0, .ref b), (1, .ref (K.2.1 x1)), (2, .ref (K.2.1 x2)), (3, .ref (K.2.1 x3)), (4, .int (x4 + 6))]) rfl ?_
    exact Hself23 _ (Or.inl rfl) _ _ hf
  refine A_iconst (v := 0) C dL_law_529 (by decide) 530 rfl ?_
  exact A_lawret0 hf
set_option maxRecDepth 20000 in
theorem wL_law_b531 {K : KX} {G : GX} {b : Nat} (C : Ok K G 800 cL_law R_law) (C2 : Ok K (bump G) 800 cL_law R_law) (hnl : G.2.2.2.2.2.2.2.2.2.2.2.2.2 = 7) (hnl2 : (bump G).2.2.2.2.2.2.2.2.2.2.2.2.2 = 7) {hv : HH} (E : EndL K G b) (E2 : EndL K (bump G) b) (F2 : ∀ xs L, ScrOK K G b xs L → ScrOK K (bump G) b xs L) {xs : Nat → Int32} {L : Nat} {x1 : Nat} {x2 : Nat} {x3 : Nat} {x4 : Int32} {self23 : Int32 → HH → Option (Bool × HH)} (Hself23 : ∀ G', (G' = G ∨ G' = bump G) → ∀ (x4 : Int32) (h : HH), self23 x4 h = some (true, hv) → At K G' 23 [(0, .ref b), (1, .ref (K.2.1 x1)), (2, .ref (K.2.1 x2)), (3, .ref (K.2.1 x3)), (4, .int x4)] [] h) (hXs : ScrOK K G b xs L) (kx1 : isK 8 x1) (kx2 : isK 9 x2) (kx3 : isK 12 x3) {h : HH} (hf : fL_law_b531 self23 xs L x1 x2 x3 x4 h = some (true, hv)) : At K G 531 [(0, .ref b), (1, .ref (K.2.1 x1)), (2, .ref (K.2.1 x2)), (3, .ref (K.2.1 x3)), (4, .int x4)] [] h := by
  unfold fL_law_b531 at hf
  refine A_aload_n C dL_law_531 (i := 1) rfl 1 rfl 532 rfl ?_
  refine A_aload_n C dL_law_532 (i := 0) rfl 0 rfl 533 rfl ?_
  refine A_iload C dL_law_533 4 rfl 535 rfl ?_
  refine A_iconst (v := 1) C dL_law_535 (by decide) 536 rfl ?_
  refine A_iadd C dL_law_536 537 rfl ?_
  refine A_sld C hXs dL_law_537 hf 538 rfl (fun hf => ?_)
  refine A_aload_n C dL_law_538 (i := 0) rfl 0 rfl 539 rfl ?_
  refine A_iload C dL_law_539 4 rfl 541 rfl ?_
  refine A_iconst (v := 2) C dL_law_541 (by decide) 542 rfl ?_
  refine A_iadd C dL_law_542 543 rfl ?_
  refine A_sld C hXs dL_law_543 hf 544 rfl (fun hf => ?_)
  refine CVi C dL_law_544 8 kx1 (by decide) (r := (RX8, TX8, 19)) rfl rfl hf (fun _ _ e => mX8_sleeper kx1 e) lkR_law_56 (by decide) (by decide) rfl [] rfl (Nat.le_of_ble_eq_true rfl) 547 rfl (fun r544 h544 hf => ?_)
  refine A_aload_n C dL_law_547 (i := 2) rfl 2 rfl 548 rfl ?_
  refine A_aload_n C dL_law_548 (i := 0) rfl 0 rfl 549 rfl ?_
  refine A_iload C dL_law_549 4 rfl 551 rfl ?_
  refine A_iconst (v := 1) C dL_law_551 (by decide) 552 rfl ?_
  refine A_iadd C dL_law_552 553 rfl ?_
  refine A_sld C hXs dL_law_553 hf 554 rfl (fun hf => ?_)
  refine A_aload_n C dL_law_554 (i := 0) rfl 0 rfl 555 rfl ?_
  refine A_iload C dL_law_555 4 rfl 557 rfl ?_
  refine A_iconst (v := 2) C dL_law_557 (by decide) 558 rfl ?_
  refine A_iadd C dL_law_558 559 rfl ?_
  refine A_sld C hXs dL_law_559 hf 560 rfl (fun hf => ?_)
  refine CVi C dL_law_560 9 kx2 (by decide) (r := (RX9, TX9, 44)) rfl rfl hf (fun _ _ e => mX9_sleeper kx2 e) lkR_law_60 (by decide) (by decide) rfl [.int r544] rfl (Nat.le_of_ble_eq_true rfl) 563 rfl (fun r560 h560 hf => ?_)
  refine A_icmp_eq C dL_law_563 2031 (by decide) 566 rfl hf (fun c563 hf => ?_) (fun c563 hf => ?_)
  · refine A_iinc (v := (x4 + 6)) C dL_law_2031 4 rfl rfl [(4, .int (x4 + 6)), (0, .ref b), (1, .ref (K.2.1 x1)), (2, .ref (K.2.1 x2)), (3, .ref (K.2.1 x3))] (lt_nl hnl (by decide)) rfl 2034 rfl ?_
    refine A_goto C dL_law_2034 23 (by decide) ?_
    refine A_sub [1, 2, 3, 4, 0] (lv' := [(0, .ref b), (1, .ref (K.2.1 x1)), (2, .ref (K.2.1 x2)), (3, .ref (K.2.1 x3)), (4, .int (x4 + 6))]) rfl ?_
    exact Hself23 _ (Or.inl rfl) _ _ hf
  refine A_iconst (v := 0) C dL_law_566 (by decide) 567 rfl ?_
  exact A_lawret0 hf
set_option maxRecDepth 20000 in
theorem wL_law_b568 {K : KX} {G : GX} {b : Nat} (C : Ok K G 800 cL_law R_law) (C2 : Ok K (bump G) 800 cL_law R_law) (hnl : G.2.2.2.2.2.2.2.2.2.2.2.2.2 = 7) (hnl2 : (bump G).2.2.2.2.2.2.2.2.2.2.2.2.2 = 7) {hv : HH} (E : EndL K G b) (E2 : EndL K (bump G) b) (F2 : ∀ xs L, ScrOK K G b xs L → ScrOK K (bump G) b xs L) {xs : Nat → Int32} {L : Nat} {x1 : Nat} {x2 : Nat} {x3 : Nat} {x4 : Int32} {self23 : Int32 → HH → Option (Bool × HH)} (Hself23 : ∀ G', (G' = G ∨ G' = bump G) → ∀ (x4 : Int32) (h : HH), self23 x4 h = some (true, hv) → At K G' 23 [(0, .ref b), (1, .ref (K.2.1 x1)), (2, .ref (K.2.1 x2)), (3, .ref (K.2.1 x3)), (4, .int x4)] [] h) (hXs : ScrOK K G b xs L) (kx1 : isK 8 x1) (kx2 : isK 9 x2) (kx3 : isK 12 x3) {h : HH} (hf : fL_law_b568 self23 xs L x1 x2 x3 x4 h = some (true, hv)) : At K G 568 [(0, .ref b), (1, .ref (K.2.1 x1)), (2, .ref (K.2.1 x2)), (3, .ref (K.2.1 x3)), (4, .int x4)] [] h := by
  unfold fL_law_b568 at hf
  refine A_aload_n C dL_law_568 (i := 1) rfl 1 rfl 569 rfl ?_
  refine A_aload_n C dL_law_569 (i := 0) rfl 0 rfl 570 rfl ?_
  refine A_iload C dL_law_570 4 rfl 572 rfl ?_
  refine A_iconst (v := 1) C dL_law_572 (by decide) 573 rfl ?_
  refine A_iadd C dL_law_573 574 rfl ?_
  refine A_sld C hXs dL_law_574 hf 575 rfl (fun hf => ?_)
  refine A_aload_n C dL_law_575 (i := 0) rfl 0 rfl 576 rfl ?_
  refine A_iload C dL_law_576 4 rfl 578 rfl ?_
  refine A_iconst (v := 2) C dL_law_578 (by decide) 579 rfl ?_
  refine A_iadd C dL_law_579 580 rfl ?_
  refine A_sld C hXs dL_law_580 hf 581 rfl (fun hf => ?_)
  refine A_if_eq C dL_law_581 588 (by decide) 584 rfl hf (fun c581 hf => ?_) (fun c581 hf => ?_)
  · refine A_iconst (v := 0) C dL_law_588 (by decide) 589 rfl ?_
    refine CVl C dL_law_589 8 kx1 (by decide) (r := (RX8, TX8, 19)) rfl rfl hf (fun _ _ e => mX8_lived kx1 e) lkR_law_61 (by decide) (by decide) rfl [] rfl (Nat.le_of_ble_eq_true rfl) 592 rfl (fun r589 h589 hf => ?_)
    refine A_aload_n C dL_law_592 (i := 2) rfl 2 rfl 593 rfl ?_
    refine A_aload_n C dL_law_593 (i := 0) rfl 0 rfl 594 rfl ?_
    refine A_iload C dL_law_594 4 rfl 596 rfl ?_
    refine A_iconst (v := 1) C dL_law_596 (by decide) 597 rfl ?_
    refine A_iadd C dL_law_597 598 rfl ?_
    refine A_sld C hXs dL_law_598 hf 599 rfl (fun hf => ?_)
    refine A_aload_n C dL_law_599 (i := 0) rfl 0 rfl 600 rfl ?_
    refine A_iload C dL_law_600 4 rfl 602 rfl ?_
    refine A_iconst (v := 2) C dL_law_602 (by decide) 603 rfl ?_
    refine A_iadd C dL_law_603 604 rfl ?_
    refine A_sld C hXs dL_law_604 hf 605 rfl (fun hf => ?_)
    refine A_if_eq C dL_law_605 612 (by decide) 608 rfl hf (fun c605 hf => ?_) (fun c605 hf => ?_)
    · refine A_iconst (v := 0) C dL_law_612 (by decide) 613 rfl ?_
      refine CVl C dL_law_613 9 kx2 (by decide) (r := (RX9, TX9, 44)) rfl rfl hf (fun _ _ e => mX9_lived kx2 e) lkR_law_65 (by decide) (by decide) rfl [.long r589] rfl (Nat.le_of_ble_eq_true rfl) 616 rfl (fun r613 h613 hf => ?_)
      refine A_l_eq C dL_law_616 dL_law_617 2031 (by decide) 620 rfl hf (fun c616 hf => ?_) (fun c616 hf => ?_)
      · refine A_iinc (v := (x4 + 6)) C dL_law_2031 4 rfl rfl [(4, .int (x4 + 6)), (0, .ref b), (1, .ref (K.2.1 x1)), (2, .ref (K.2.1 x2)), (3, .ref (K.2.1 x3))] (lt_nl hnl (by decide)) rfl 2034 rfl ?_
        refine A_goto C dL_law_2034 23 (by decide) ?_
        refine A_sub [1, 2, 3, 4, 0] (lv' := [(0, .ref b), (1, .ref (K.2.1 x1)), (2, .ref (K.2.1 x2)), (3, .ref (K.2.1 x3)), (4, .int (x4 + 6))]) rfl ?_
        exact Hself23 _ (Or.inl rfl) _ _ hf
      refine A_iconst (v := 0) C dL_law_620 (by decide) 621 rfl ?_
      exact A_lawret0 hf
    refine A_iconst (v := 1) C dL_law_608 (by decide) 609 rfl ?_
    refine A_goto C dL_law_609 613 (by decide) ?_
    refine CVl C dL_law_613 9 kx2 (by decide) (r := (RX9, TX9, 44)) rfl rfl hf (fun _ _ e => mX9_lived kx2 e) lkR_law_65 (by decide) (by decide) rfl [.long r589] rfl (Nat.le_of_ble_eq_true rfl) 616 rfl (fun r613 h613 hf => ?_)
    refine A_l_eq C dL_law_616 dL_law_617 2031 (by decide) 620 rfl hf (fun c616 hf => ?_) (fun c616 hf => ?_)
    · refine A_iinc (v := (x4 + 6)) C dL_law_2031 4 rfl rfl [(4, .int (x4 + 6)), (0, .ref b), (1, .ref (K.2.1 x1)), (2, .ref (K.2.1 x2)), (3, .ref (K.2.1 x3))] (lt_nl hnl (by decide)) rfl 2034 rfl ?_
      refine A_goto C dL_law_2034 23 (by decide) ?_
      refine A_sub [1, 2, 3, 4, 0] (lv' := [(0, .ref b), (1, .ref (K.2.1 x1)), (2, .ref (K.2.1 x2)), (3, .ref (K.2.1 x3)), (4, .int (x4 + 6))]) rfl ?_
      exact Hself23 _ (Or.inl rfl) _ _ hf
    refine A_iconst (v := 0) C dL_law_620 (by decide) 621 rfl ?_
    exact A_lawret0 hf
  refine A_iconst (v := 1) C dL_law_584 (by decide) 585 rfl ?_
  refine A_goto C dL_law_585 589 (by decide) ?_
  refine CVl C dL_law_589 8 kx1 (by decide) (r := (RX8, TX8, 19)) rfl rfl hf (fun _ _ e => mX8_lived kx1 e) lkR_law_61 (by decide) (by decide) rfl [] rfl (Nat.le_of_ble_eq_true rfl) 592 rfl (fun r589 h589 hf => ?_)
  refine A_aload_n C dL_law_592 (i := 2) rfl 2 rfl 593 rfl ?_
  refine A_aload_n C dL_law_593 (i := 0) rfl 0 rfl 594 rfl ?_
  refine A_iload C dL_law_594 4 rfl 596 rfl ?_
  refine A_iconst (v := 1) C dL_law_596 (by decide) 597 rfl ?_
  refine A_iadd C dL_law_597 598 rfl ?_
  refine A_sld C hXs dL_law_598 hf 599 rfl (fun hf => ?_)
  refine A_aload_n C dL_law_599 (i := 0) rfl 0 rfl 600 rfl ?_
  refine A_iload C dL_law_600 4 rfl 602 rfl ?_
  refine A_iconst (v := 2) C dL_law_602 (by decide) 603 rfl ?_
  refine A_iadd C dL_law_603 604 rfl ?_
  refine A_sld C hXs dL_law_604 hf 605 rfl (fun hf => ?_)
  refine A_if_eq C dL_law_605 612 (by decide) 608 rfl hf (fun c605 hf => ?_) (fun c605 hf => ?_)
  · refine A_iconst (v := 0) C dL_law_612 (by decide) 613 rfl ?_
    refine CVl C dL_law_613 9 kx2 (by decide) (r := (RX9, TX9, 44)) rfl rfl hf (fun _ _ e => mX9_lived kx2 e) lkR_law_65 (by decide) (by decide) rfl [.long r589] rfl (Nat.le_of_ble_eq_true rfl) 616 rfl (fun r613 h613 hf => ?_)
    refine A_l_eq C dL_law_616 dL_law_617 2031 (by decide) 620 rfl hf (fun c616 hf => ?_) (fun c616 hf => ?_)
    · refine A_iinc (v := (x4 + 6)) C dL_law_2031 4 rfl rfl [(4, .int (x4 + 6)), (0, .ref b), (1, .ref (K.2.1 x1)), (2, .ref (K.2.1 x2)), (3, .ref (K.2.1 x3))] (lt_nl hnl (by decide)) rfl 2034 rfl ?_
      refine A_goto C dL_law_2034 23 (by decide) ?_
      refine A_sub [1, 2, 3, 4, 0] (lv' := [(0, .ref b), (1, .ref (K.2.1 x1)), (2, .ref (K.2.1 x2)), (3, .ref (K.2.1 x3)), (4, .int (x4 + 6))]) rfl ?_
      exact Hself23 _ (Or.inl rfl) _ _ hf
    refine A_iconst (v := 0) C dL_law_620 (by decide) 621 rfl ?_
    exact A_lawret0 hf
  refine A_iconst (v := 1) C dL_law_608 (by decide) 609 rfl ?_
  refine A_goto C dL_law_609 613 (by decide) ?_
  refine CVl C dL_law_613 9 kx2 (by decide) (r := (RX9, TX9, 44)) rfl rfl hf (fun _ _ e => mX9_lived kx2 e) lkR_law_65 (by decide) (by decide) rfl [.long r589] rfl (Nat.le_of_ble_eq_true rfl) 616 rfl (fun r613 h613 hf => ?_)
  refine A_l_eq C dL_law_616 dL_law_617 2031 (by decide) 620 rfl hf (fun c616 hf => ?_) (fun c616 hf => ?_)
  · refine A_iinc (v := (x4 + 6)) C dL_law_2031 4 rfl rfl [(4, .int (x4 + 6)), (0, .ref b), (1, .ref (K.2.1 x1)), (2, .ref (K.2.1 x2)), (3, .ref (K.2.1 x3))] (lt_nl hnl (by decide)) rfl 2034 rfl ?_
    refine A_goto C dL_law_2034 23 (by decide) ?_
    refine A_sub [1, 2, 3, 4, 0] (lv' := [(0, .ref b), (1, .ref (K.2.1 x1)), (2, .ref (K.2.1 x2)), (3, .ref (K.2.1 x3)), (4, .int (x4 + 6))]) rfl ?_
    exact Hself23 _ (Or.inl rfl) _ _ hf
  refine A_iconst (v := 0) C dL_law_620 (by decide) 621 rfl ?_
  exact A_lawret0 hf
set_option maxRecDepth 20000 in
theorem wL_law_b622 {K : KX} {G : GX} {b : Nat} (C : Ok K G 800 cL_law R_law) (C2 : Ok K (bump G) 800 cL_law R_law) (hnl : G.2.2.2.2.2.2.2.2.2.2.2.2.2 = 7) (hnl2 : (bump G).2.2.2.2.2.2.2.2.2.2.2.2.2 = 7) {hv : HH} (E : EndL K G b) (E2 : EndL K (bump G) b) (F2 : ∀ xs L, ScrOK K G b xs L → ScrOK K (bump G) b xs L) {xs : Nat → Int32} {L : Nat} {x1 : Nat} {x2 : Nat} {x3 : Nat} {x4 : Int32} {self23 : Int32 → HH → Option (Bool × HH)} (Hself23 : ∀ G', (G' = G ∨ G' = bump G) → ∀ (x4 : Int32) (h : HH), self23 x4 h = some (true, hv) → At K G' 23 [(0, .ref b), (1, .ref (K.2.1 x1)), (2, .ref (K.2.1 x2)), (3, .ref (K.2.1 x3)), (4, .int x4)] [] h) (hXs : ScrOK K G b xs L) (kx1 : isK 8 x1) (kx2 : isK 9 x2) (kx3 : isK 12 x3) {h : HH} (hf : fL_law_b622 self23 xs L x1 x2 x3 x4 h = some (true, hv)) : At K G 622 [(0, .ref b), (1, .ref (K.2.1 x1)), (2, .ref (K.2.1 x2)), (3, .ref (K.2.1 x3)), (4, .int x4)] [] h := by
  unfold fL_law_b622 at hf
  refine A_aload_n C dL_law_622 (i := 1) rfl 1 rfl 623 rfl ?_
  refine A_aload_n C dL_law_623 (i := 0) rfl 0 rfl 624 rfl ?_
  refine A_iload C dL_law_624 4 rfl 626 rfl ?_
  refine A_iconst (v := 1) C dL_law_626 (by decide) 627 rfl ?_
  refine A_iadd C dL_law_627 628 rfl ?_
  refine A_sld C hXs dL_law_628 hf 629 rfl (fun hf => ?_)
  refine A_aload_n C dL_law_629 (i := 0) rfl 0 rfl 630 rfl ?_
  refine A_iload C dL_law_630 4 rfl 632 rfl ?_
  refine A_iconst (v := 2) C dL_law_632 (by decide) 633 rfl ?_
  refine A_iadd C dL_law_633 634 rfl ?_
  refine A_sld C hXs dL_law_634 hf 635 rfl (fun hf => ?_)
  refine CVi C dL_law_635 8 kx1 (by decide) (r := (RX8, TX8, 19)) rfl rfl hf (fun _ _ e => mX8_meet kx1 e) lkR_law_66 (by decide) (by decide) rfl [] rfl (Nat.le_of_ble_eq_true rfl) 638 rfl (fun r635 h635 hf => ?_)
  refine A_aload_n C dL_law_638 (i := 2) rfl 2 rfl 639 rfl ?_
  refine A_aload_n C dL_law_639 (i := 0) rfl 0 rfl 640 rfl ?_
  refine A_iload C dL_law_640 4 rfl 642 rfl ?_
  refine A_iconst (v := 1) C dL_law_642 (by decide) 643 rfl ?_
  refine A_iadd C dL_law_643 644 rfl ?_
  refine A_sld C hXs dL_law_644 hf 645 rfl (fun hf => ?_)
  refine A_aload_n C dL_law_645 (i := 0) rfl 0 rfl 646 rfl ?_
  refine A_iload C dL_law_646 4 rfl 648 rfl ?_
  refine A_iconst (v := 2) C dL_law_648 (by decide) 649 rfl ?_
  refine A_iadd C dL_law_649 650 rfl ?_
  refine A_sld C hXs dL_law_650 hf 651 rfl (fun hf => ?_)
  refine CVi C dL_law_651 9 kx2 (by decide) (r := (RX9, TX9, 44)) rfl rfl hf (fun _ _ e => mX9_meet kx2 e) lkR_law_69 (by decide) (by decide) rfl [.int r635] rfl (Nat.le_of_ble_eq_true rfl) 654 rfl (fun r651 h651 hf => ?_)
  refine A_icmp_eq C dL_law_654 2031 (by decide) 657 rfl hf (fun c654 hf => ?_) (fun c654 hf => ?_)
  · refine A_iinc (v := (x4 + 6)) C dL_law_2031 4 rfl rfl [(4, .int (x4 + 6)), (0, .ref b), (1, .ref (K.2.1 x1)), (2, .ref (K.2.1 x2)), (3, .ref (K.2.1 x3))] (lt_nl hnl (by decide)) rfl 2034 rfl ?_
    refine A_goto C dL_law_2034 23 (by decide) ?_
    refine A_sub [1, 2, 3, 4, 0] (lv' := [(0, .ref b), (1, .ref (K.2.1 x1)), (2, .ref (K.2.1 x2)), (3, .ref (K.2.1 x3)), (4, .int (x4 + 6))]) rfl ?_
    exact Hself23 _ (Or.inl rfl) _ _ hf
  refine A_iconst (v := 0) C dL_law_657 (by decide) 658 rfl ?_
  exact A_lawret0 hf
set_option maxRecDepth 20000 in
theorem wL_law_b659 {K : KX} {G : GX} {b : Nat} (C : Ok K G 800 cL_law R_law) (C2 : Ok K (bump G) 800 cL_law R_law) (hnl : G.2.2.2.2.2.2.2.2.2.2.2.2.2 = 7) (hnl2 : (bump G).2.2.2.2.2.2.2.2.2.2.2.2.2 = 7) {hv : HH} (E : EndL K G b) (E2 : EndL K (bump G) b) (F2 : ∀ xs L, ScrOK K G b xs L → ScrOK K (bump G) b xs L) {xs : Nat → Int32} {L : Nat} {x1 : Nat} {x2 : Nat} {x3 : Nat} {x4 : Int32} {self23 : Int32 → HH → Option (Bool × HH)} (Hself23 : ∀ G', (G' = G ∨ G' = bump G) → ∀ (x4 : Int32) (h : HH), self23 x4 h = some (true, hv) → At K G' 23 [(0, .ref b), (1, .ref (K.2.1 x1)), (2, .ref (K.2.1 x2)), (3, .ref (K.2.1 x3)), (4, .int x4)] [] h) (hXs : ScrOK K G b xs L) (kx1 : isK 8 x1) (kx2 : isK 9 x2) (kx3 : isK 12 x3) {h : HH} (hf : fL_law_b659 self23 xs L x1 x2 x3 x4 h = some (true, hv)) : At K G 659 [(0, .ref b), (1, .ref (K.2.1 x1)), (2, .ref (K.2.1 x2)), (3, .ref (K.2.1 x3)), (4, .int x4)] [] h := by
  unfold fL_law_b659 at hf
  refine A_aload_n C dL_law_659 (i := 1) rfl 1 rfl 660 rfl ?_
  refine CVi C dL_law_660 8 kx1 (by decide) (r := (RX8, TX8, 19)) rfl rfl hf (fun _ _ e => mX8_off kx1 e) lkR_law_70 (by decide) (by decide) rfl [] rfl (Nat.le_of_ble_eq_true rfl) 663 rfl (fun r660 h660 hf => ?_)
  refine A_aload_n C dL_law_663 (i := 2) rfl 2 rfl 664 rfl ?_
  refine CVi C dL_law_664 9 kx2 (by decide) (r := (RX9, TX9, 44)) rfl rfl hf (fun _ _ e => mX9_off kx2 e) lkR_law_73 (by decide) (by decide) rfl [.int r660] rfl (Nat.le_of_ble_eq_true rfl) 667 rfl (fun r664 h664 hf => ?_)
  refine A_icmp_eq C dL_law_667 2031 (by decide) 670 rfl hf (fun c667 hf => ?_) (fun c667 hf => ?_)
  · refine A_iinc (v := (x4 + 6)) C dL_law_2031 4 rfl rfl [(4, .int (x4 + 6)), (0, .ref b), (1, .ref (K.2.1 x1)), (2, .ref (K.2.1 x2)), (3, .ref (K.2.1 x3))] (lt_nl hnl (by decide)) rfl 2034 rfl ?_
    refine A_goto C dL_law_2034 23 (by decide) ?_
    refine A_sub [1, 2, 3, 4, 0] (lv' := [(0, .ref b), (1, .ref (K.2.1 x1)), (2, .ref (K.2.1 x2)), (3, .ref (K.2.1 x3)), (4, .int (x4 + 6))]) rfl ?_
    exact Hself23 _ (Or.inl rfl) _ _ hf
  refine A_iconst (v := 0) C dL_law_670 (by decide) 671 rfl ?_
  exact A_lawret0 hf
set_option maxRecDepth 20000 in
theorem wL_law_b672 {K : KX} {G : GX} {b : Nat} (C : Ok K G 800 cL_law R_law) (C2 : Ok K (bump G) 800 cL_law R_law) (hnl : G.2.2.2.2.2.2.2.2.2.2.2.2.2 = 7) (hnl2 : (bump G).2.2.2.2.2.2.2.2.2.2.2.2.2 = 7) {hv : HH} (E : EndL K G b) (E2 : EndL K (bump G) b) (F2 : ∀ xs L, ScrOK K G b xs L → ScrOK K (bump G) b xs L) {xs : Nat → Int32} {L : Nat} {x1 : Nat} {x2 : Nat} {x3 : Nat} {x4 : Int32} {self23 : Int32 → HH → Option (Bool × HH)} (Hself23 : ∀ G', (G' = G ∨ G' = bump G) → ∀ (x4 : Int32) (h : HH), self23 x4 h = some (true, hv) → At K G' 23 [(0, .ref b), (1, .ref (K.2.1 x1)), (2, .ref (K.2.1 x2)), (3, .ref (K.2.1 x3)), (4, .int x4)] [] h) (hXs : ScrOK K G b xs L) (kx1 : isK 8 x1) (kx2 : isK 9 x2) (kx3 : isK 12 x3) {h : HH} (hf : fL_law_b672 self23 xs L x1 x2 x3 x4 h = some (true, hv)) : At K G 672 [(0, .ref b), (1, .ref (K.2.1 x1)), (2, .ref (K.2.1 x2)), (3, .ref (K.2.1 x3)), (4, .int x4)] [] h := by
  unfold fL_law_b672 at hf
  refine A_aload_n C dL_law_672 (i := 1) rfl 1 rfl 673 rfl ?_
  refine A_aload_n C dL_law_673 (i := 0) rfl 0 rfl 674 rfl ?_
  refine A_iload C dL_law_674 4 rfl 676 rfl ?_
  refine A_iconst (v := 1) C dL_law_676 (by decide) 677 rfl ?_
  refine A_iadd C dL_law_677 678 rfl ?_
  refine A_sld C hXs dL_law_678 hf 679 rfl (fun hf => ?_)
  refine A_aload_n C dL_law_679 (i := 0) rfl 0 rfl 680 rfl ?_
  refine A_iload C dL_law_680 4 rfl 682 rfl ?_
  refine A_iconst (v := 2) C dL_law_682 (by decide) 683 rfl ?_
  refine A_iadd C dL_law_683 684 rfl ?_
  refine A_sld C hXs dL_law_684 hf 685 rfl (fun hf => ?_)
  refine CVi C dL_law_685 8 kx1 (by decide) (r := (RX8, TX8, 19)) rfl rfl hf (fun _ _ e => mX8_floorIn kx1 e) lkR_law_74 (by decide) (by decide) rfl [] rfl (Nat.le_of_ble_eq_true rfl) 688 rfl (fun r685 h685 hf => ?_)
  refine A_aload_n C dL_law_688 (i := 2) rfl 2 rfl 689 rfl ?_
  refine A_aload_n C dL_law_689 (i := 0) rfl 0 rfl 690 rfl ?_
  refine A_iload C dL_law_690 4 rfl 692 rfl ?_
  refine A_iconst (v := 1) C dL_law_692 (by decide) 693 rfl ?_
  refine A_iadd C dL_law_693 694 rfl ?_
  refine A_sld C hXs dL_law_694 hf 695 rfl (fun hf => ?_)
  refine A_aload_n C dL_law_695 (i := 0) rfl 0 rfl 696 rfl ?_
  refine A_iload C dL_law_696 4 rfl 698 rfl ?_
  refine A_iconst (v := 2) C dL_law_698 (by decide) 699 rfl ?_
  refine A_iadd C dL_law_699 700 rfl ?_
  refine A_sld C hXs dL_law_700 hf 701 rfl (fun hf => ?_)
  refine CVi C dL_law_701 9 kx2 (by decide) (r := (RX9, TX9, 44)) rfl rfl hf (fun _ _ e => mX9_floorIn kx2 e) lkR_law_77 (by decide) (by decide) rfl [.int r685] rfl (Nat.le_of_ble_eq_true rfl) 704 rfl (fun r701 h701 hf => ?_)
  refine A_icmp_eq C dL_law_704 2031 (by decide) 707 rfl hf (fun c704 hf => ?_) (fun c704 hf => ?_)
  · refine A_iinc (v := (x4 + 6)) C dL_law_2031 4 rfl rfl [(4, .int (x4 + 6)), (0, .ref b), (1, .ref (K.2.1 x1)), (2, .ref (K.2.1 x2)), (3, .ref (K.2.1 x3))] (lt_nl hnl (by decide)) rfl 2034 rfl ?_
    refine A_goto C dL_law_2034 23 (by decide) ?_
    refine A_sub [1, 2, 3, 4, 0] (lv' := [(0, .ref b), (1, .ref (K.2.1 x1)), (2, .ref (K.2.1 x2)), (3, .ref (K.2.1 x3)), (4, .int (x4 + 6))]) rfl ?_
    exact Hself23 _ (Or.inl rfl) _ _ hf
  refine A_iconst (v := 0) C dL_law_707 (by decide) 708 rfl ?_
  exact A_lawret0 hf
set_option maxRecDepth 20000 in
theorem wL_law_b709 {K : KX} {G : GX} {b : Nat} (C : Ok K G 800 cL_law R_law) (C2 : Ok K (bump G) 800 cL_law R_law) (hnl : G.2.2.2.2.2.2.2.2.2.2.2.2.2 = 7) (hnl2 : (bump G).2.2.2.2.2.2.2.2.2.2.2.2.2 = 7) {hv : HH} (E : EndL K G b) (E2 : EndL K (bump G) b) (F2 : ∀ xs L, ScrOK K G b xs L → ScrOK K (bump G) b xs L) {xs : Nat → Int32} {L : Nat} {x1 : Nat} {x2 : Nat} {x3 : Nat} {x4 : Int32} {self23 : Int32 → HH → Option (Bool × HH)} (Hself23 : ∀ G', (G' = G ∨ G' = bump G) → ∀ (x4 : Int32) (h : HH), self23 x4 h = some (true, hv) → At K G' 23 [(0, .ref b), (1, .ref (K.2.1 x1)), (2, .ref (K.2.1 x2)), (3, .ref (K.2.1 x3)), (4, .int x4)] [] h) (hXs : ScrOK K G b xs L) (kx1 : isK 8 x1) (kx2 : isK 9 x2) (kx3 : isK 12 x3) {h : HH} (hf : fL_law_b709 self23 xs L x1 x2 x3 x4 h = some (true, hv)) : At K G 709 [(0, .ref b), (1, .ref (K.2.1 x1)), (2, .ref (K.2.1 x2)), (3, .ref (K.2.1 x3)), (4, .int x4)] [] h := by
  unfold fL_law_b709 at hf
  refine A_aload_n C dL_law_709 (i := 1) rfl 1 rfl 710 rfl ?_
  refine A_aload_n C dL_law_710 (i := 0) rfl 0 rfl 711 rfl ?_
  refine A_iload C dL_law_711 4 rfl 713 rfl ?_
  refine A_iconst (v := 1) C dL_law_713 (by decide) 714 rfl ?_
  refine A_iadd C dL_law_714 715 rfl ?_
  refine A_sld C hXs dL_law_715 hf 716 rfl (fun hf => ?_)
  refine A_aload_n C dL_law_716 (i := 0) rfl 0 rfl 717 rfl ?_
  refine A_iload C dL_law_717 4 rfl 719 rfl ?_
  refine A_iconst (v := 2) C dL_law_719 (by decide) 720 rfl ?_
  refine A_iadd C dL_law_720 721 rfl ?_
  refine A_sld C hXs dL_law_721 hf 722 rfl (fun hf => ?_)
  refine CVi C dL_law_722 8 kx1 (by decide) (r := (RX8, TX8, 19)) rfl rfl hf (fun _ _ e => mX8_headIn kx1 e) lkR_law_78 (by decide) (by decide) rfl [] rfl (Nat.le_of_ble_eq_true rfl) 725 rfl (fun r722 h722 hf => ?_)
  refine A_aload_n C dL_law_725 (i := 2) rfl 2 rfl 726 rfl ?_
  refine A_aload_n C dL_law_726 (i := 0) rfl 0 rfl 727 rfl ?_
  refine A_iload C dL_law_727 4 rfl 729 rfl ?_
  refine A_iconst (v := 1) C dL_law_729 (by decide) 730 rfl ?_
  refine A_iadd C dL_law_730 731 rfl ?_
  refine A_sld C hXs dL_law_731 hf 732 rfl (fun hf => ?_)
  refine A_aload_n C dL_law_732 (i := 0) rfl 0 rfl 733 rfl ?_
  refine A_iload C dL_law_733 4 rfl 735 rfl ?_
  refine A_iconst (v := 2) C dL_law_735 (by decide) 736 rfl ?_
  refine A_iadd C dL_law_736 737 rfl ?_
  refine A_sld C hXs dL_law_737 hf 738 rfl (fun hf => ?_)
  refine CVi C dL_law_738 9 kx2 (by decide) (r := (RX9, TX9, 44)) rfl rfl hf (fun _ _ e => mX9_headIn kx2 e) lkR_law_81 (by decide) (by decide) rfl [.int r722] rfl (Nat.le_of_ble_eq_true rfl) 741 rfl (fun r738 h738 hf => ?_)
  refine A_icmp_eq C dL_law_741 2031 (by decide) 744 rfl hf (fun c741 hf => ?_) (fun c741 hf => ?_)
  · refine A_iinc (v := (x4 + 6)) C dL_law_2031 4 rfl rfl [(4, .int (x4 + 6)), (0, .ref b), (1, .ref (K.2.1 x1)), (2, .ref (K.2.1 x2)), (3, .ref (K.2.1 x3))] (lt_nl hnl (by decide)) rfl 2034 rfl ?_
    refine A_goto C dL_law_2034 23 (by decide) ?_
    refine A_sub [1, 2, 3, 4, 0] (lv' := [(0, .ref b), (1, .ref (K.2.1 x1)), (2, .ref (K.2.1 x2)), (3, .ref (K.2.1 x3)), (4, .int (x4 + 6))]) rfl ?_
    exact Hself23 _ (Or.inl rfl) _ _ hf
  refine A_iconst (v := 0) C dL_law_744 (by decide) 745 rfl ?_
  exact A_lawret0 hf
set_option maxRecDepth 20000 in
theorem wL_law_b746 {K : KX} {G : GX} {b : Nat} (C : Ok K G 800 cL_law R_law) (C2 : Ok K (bump G) 800 cL_law R_law) (hnl : G.2.2.2.2.2.2.2.2.2.2.2.2.2 = 7) (hnl2 : (bump G).2.2.2.2.2.2.2.2.2.2.2.2.2 = 7) {hv : HH} (E : EndL K G b) (E2 : EndL K (bump G) b) (F2 : ∀ xs L, ScrOK K G b xs L → ScrOK K (bump G) b xs L) {xs : Nat → Int32} {L : Nat} {x1 : Nat} {x2 : Nat} {x3 : Nat} {x4 : Int32} {self23 : Int32 → HH → Option (Bool × HH)} (Hself23 : ∀ G', (G' = G ∨ G' = bump G) → ∀ (x4 : Int32) (h : HH), self23 x4 h = some (true, hv) → At K G' 23 [(0, .ref b), (1, .ref (K.2.1 x1)), (2, .ref (K.2.1 x2)), (3, .ref (K.2.1 x3)), (4, .int x4)] [] h) (hXs : ScrOK K G b xs L) (kx1 : isK 8 x1) (kx2 : isK 9 x2) (kx3 : isK 12 x3) {h : HH} (hf : fL_law_b746 self23 xs L x1 x2 x3 x4 h = some (true, hv)) : At K G 746 [(0, .ref b), (1, .ref (K.2.1 x1)), (2, .ref (K.2.1 x2)), (3, .ref (K.2.1 x3)), (4, .int x4)] [] h := by
  unfold fL_law_b746 at hf
  refine A_aload_n C dL_law_746 (i := 1) rfl 1 rfl 747 rfl ?_
  refine A_aload_n C dL_law_747 (i := 0) rfl 0 rfl 748 rfl ?_
  refine A_iload C dL_law_748 4 rfl 750 rfl ?_
  refine A_iconst (v := 1) C dL_law_750 (by decide) 751 rfl ?_
  refine A_iadd C dL_law_751 752 rfl ?_
  refine A_sld C hXs dL_law_752 hf 753 rfl (fun hf => ?_)
  refine A_aload_n C dL_law_753 (i := 0) rfl 0 rfl 754 rfl ?_
  refine A_iload C dL_law_754 4 rfl 756 rfl ?_
  refine A_iconst (v := 2) C dL_law_756 (by decide) 757 rfl ?_
  refine A_iadd C dL_law_757 758 rfl ?_
  refine A_sld C hXs dL_law_758 hf 759 rfl (fun hf => ?_)
  refine A_aload_n C dL_law_759 (i := 0) rfl 0 rfl 760 rfl ?_
  refine A_iload C dL_law_760 4 rfl 762 rfl ?_
  refine A_iconst (v := 3) C dL_law_762 (by decide) 763 rfl ?_
  refine A_iadd C dL_law_763 764 rfl ?_
  refine A_sld C hXs dL_law_764 hf 765 rfl (fun hf => ?_)
  refine CVi C dL_law_765 8 kx1 (by decide) (r := (RX8, TX8, 19)) rfl rfl hf (fun _ _ e => mX8_meetsIn kx1 e) lkR_law_82 (by decide) (by decide) rfl [] rfl (Nat.le_of_ble_eq_true rfl) 768 rfl (fun r765 h765 hf => ?_)
  refine A_aload_n C dL_law_768 (i := 2) rfl 2 rfl 769 rfl ?_
  refine A_aload_n C dL_law_769 (i := 0) rfl 0 rfl 770 rfl ?_
  refine A_iload C dL_law_770 4 rfl 772 rfl ?_
  refine A_iconst (v := 1) C dL_law_772 (by decide) 773 rfl ?_
  refine A_iadd C dL_law_773 774 rfl ?_
  refine A_sld C hXs dL_law_774 hf 775 rfl (fun hf => ?_)
  refine A_aload_n C dL_law_775 (i := 0) rfl 0 rfl 776 rfl ?_
  refine A_iload C dL_law_776 4 rfl 778 rfl ?_
  refine A_iconst (v := 2) C dL_law_778 (by decide) 779 rfl ?_
  refine A_iadd C dL_law_779 780 rfl ?_
  refine A_sld C hXs dL_law_780 hf 781 rfl (fun hf => ?_)
  refine A_aload_n C dL_law_781 (i := 0) rfl 0 rfl 782 rfl ?_
  refine A_iload C dL_law_782 4 rfl 784 rfl ?_
  refine A_iconst (v := 3) C dL_law_784 (by decide) 785 rfl ?_
  refine A_iadd C dL_law_785 786 rfl ?_
  refine A_sld C hXs dL_law_786 hf 787 rfl (fun hf => ?_)
  refine CVi C dL_law_787 9 kx2 (by decide) (r := (RX9, TX9, 44)) rfl rfl hf (fun _ _ e => mX9_meetsIn kx2 e) lkR_law_86 (by decide) (by decide) rfl [.int r765] rfl (Nat.le_of_ble_eq_true rfl) 790 rfl (fun r787 h787 hf => ?_)
  refine A_icmp_eq C dL_law_790 2031 (by decide) 793 rfl hf (fun c790 hf => ?_) (fun c790 hf => ?_)
  · refine A_iinc (v := (x4 + 6)) C dL_law_2031 4 rfl rfl [(4, .int (x4 + 6)), (0, .ref b), (1, .ref (K.2.1 x1)), (2, .ref (K.2.1 x2)), (3, .ref (K.2.1 x3))] (lt_nl hnl (by decide)) rfl 2034 rfl ?_
    refine A_goto C dL_law_2034 23 (by decide) ?_
    refine A_sub [1, 2, 3, 4, 0] (lv' := [(0, .ref b), (1, .ref (K.2.1 x1)), (2, .ref (K.2.1 x2)), (3, .ref (K.2.1 x3)), (4, .int (x4 + 6))]) rfl ?_
    exact Hself23 _ (Or.inl rfl) _ _ hf
  refine A_iconst (v := 0) C dL_law_793 (by decide) 794 rfl ?_
  exact A_lawret0 hf
set_option maxRecDepth 20000 in
theorem wL_law_b795 {K : KX} {G : GX} {b : Nat} (C : Ok K G 800 cL_law R_law) (C2 : Ok K (bump G) 800 cL_law R_law) (hnl : G.2.2.2.2.2.2.2.2.2.2.2.2.2 = 7) (hnl2 : (bump G).2.2.2.2.2.2.2.2.2.2.2.2.2 = 7) {hv : HH} (E : EndL K G b) (E2 : EndL K (bump G) b) (F2 : ∀ xs L, ScrOK K G b xs L → ScrOK K (bump G) b xs L) {xs : Nat → Int32} {L : Nat} {x1 : Nat} {x2 : Nat} {x3 : Nat} {x4 : Int32} {self23 : Int32 → HH → Option (Bool × HH)} (Hself23 : ∀ G', (G' = G ∨ G' = bump G) → ∀ (x4 : Int32) (h : HH), self23 x4 h = some (true, hv) → At K G' 23 [(0, .ref b), (1, .ref (K.2.1 x1)), (2, .ref (K.2.1 x2)), (3, .ref (K.2.1 x3)), (4, .int x4)] [] h) (hXs : ScrOK K G b xs L) (kx1 : isK 8 x1) (kx2 : isK 9 x2) (kx3 : isK 12 x3) {h : HH} (hf : fL_law_b795 self23 xs L x1 x2 x3 x4 h = some (true, hv)) : At K G 795 [(0, .ref b), (1, .ref (K.2.1 x1)), (2, .ref (K.2.1 x2)), (3, .ref (K.2.1 x3)), (4, .int x4)] [] h := by
  unfold fL_law_b795 at hf
  refine A_aload_n C dL_law_795 (i := 1) rfl 1 rfl 796 rfl ?_
  refine A_aload_n C dL_law_796 (i := 0) rfl 0 rfl 797 rfl ?_
  refine A_iload C dL_law_797 4 rfl 799 rfl ?_
  refine A_iconst (v := 1) C dL_law_799 (by decide) 800 rfl ?_
  refine A_iadd C dL_law_800 801 rfl ?_
  refine A_sld C hXs dL_law_801 hf 802 rfl (fun hf => ?_)
  refine A_aload_n C dL_law_802 (i := 0) rfl 0 rfl 803 rfl ?_
  refine A_iload C dL_law_803 4 rfl 805 rfl ?_
  refine A_iconst (v := 2) C dL_law_805 (by decide) 806 rfl ?_
  refine A_iadd C dL_law_806 807 rfl ?_
  refine A_sld C hXs dL_law_807 hf 808 rfl (fun hf => ?_)
  refine CVi C dL_law_808 8 kx1 (by decide) (r := (RX8, TX8, 19)) rfl rfl hf (fun _ _ e => mX8_awakeIn kx1 e) lkR_law_87 (by decide) (by decide) rfl [] rfl (Nat.le_of_ble_eq_true rfl) 811 rfl (fun r808 h808 hf => ?_)
  refine A_aload_n C dL_law_811 (i := 2) rfl 2 rfl 812 rfl ?_
  refine A_aload_n C dL_law_812 (i := 0) rfl 0 rfl 813 rfl ?_
  refine A_iload C dL_law_813 4 rfl 815 rfl ?_
  refine A_iconst (v := 1) C dL_law_815 (by decide) 816 rfl ?_
  refine A_iadd C dL_law_816 817 rfl ?_
  refine A_sld C hXs dL_law_817 hf 818 rfl (fun hf => ?_)
  refine A_aload_n C dL_law_818 (i := 0) rfl 0 rfl 819 rfl ?_
  refine A_iload C dL_law_819 4 rfl 821 rfl ?_
  refine A_iconst (v := 2) C dL_law_821 (by decide) 822 rfl ?_
  refine A_iadd C dL_law_822 823 rfl ?_
  refine A_sld C hXs dL_law_823 hf 824 rfl (fun hf => ?_)
  refine CVi C dL_law_824 9 kx2 (by decide) (r := (RX9, TX9, 44)) rfl rfl hf (fun _ _ e => mX9_awakeIn kx2 e) lkR_law_90 (by decide) (by decide) rfl [.int r808] rfl (Nat.le_of_ble_eq_true rfl) 827 rfl (fun r824 h824 hf => ?_)
  refine A_icmp_eq C dL_law_827 2031 (by decide) 830 rfl hf (fun c827 hf => ?_) (fun c827 hf => ?_)
  · refine A_iinc (v := (x4 + 6)) C dL_law_2031 4 rfl rfl [(4, .int (x4 + 6)), (0, .ref b), (1, .ref (K.2.1 x1)), (2, .ref (K.2.1 x2)), (3, .ref (K.2.1 x3))] (lt_nl hnl (by decide)) rfl 2034 rfl ?_
    refine A_goto C dL_law_2034 23 (by decide) ?_
    refine A_sub [1, 2, 3, 4, 0] (lv' := [(0, .ref b), (1, .ref (K.2.1 x1)), (2, .ref (K.2.1 x2)), (3, .ref (K.2.1 x3)), (4, .int (x4 + 6))]) rfl ?_
    exact Hself23 _ (Or.inl rfl) _ _ hf
  refine A_iconst (v := 0) C dL_law_830 (by decide) 831 rfl ?_
  exact A_lawret0 hf
set_option maxRecDepth 20000 in
theorem wL_law_b832 {K : KX} {G : GX} {b : Nat} (C : Ok K G 800 cL_law R_law) (C2 : Ok K (bump G) 800 cL_law R_law) (hnl : G.2.2.2.2.2.2.2.2.2.2.2.2.2 = 7) (hnl2 : (bump G).2.2.2.2.2.2.2.2.2.2.2.2.2 = 7) {hv : HH} (E : EndL K G b) (E2 : EndL K (bump G) b) (F2 : ∀ xs L, ScrOK K G b xs L → ScrOK K (bump G) b xs L) {xs : Nat → Int32} {L : Nat} {x1 : Nat} {x2 : Nat} {x3 : Nat} {x4 : Int32} {self23 : Int32 → HH → Option (Bool × HH)} (Hself23 : ∀ G', (G' = G ∨ G' = bump G) → ∀ (x4 : Int32) (h : HH), self23 x4 h = some (true, hv) → At K G' 23 [(0, .ref b), (1, .ref (K.2.1 x1)), (2, .ref (K.2.1 x2)), (3, .ref (K.2.1 x3)), (4, .int x4)] [] h) (hXs : ScrOK K G b xs L) (kx1 : isK 8 x1) (kx2 : isK 9 x2) (kx3 : isK 12 x3) {h : HH} (hf : fL_law_b832 self23 xs L x1 x2 x3 x4 h = some (true, hv)) : At K G 832 [(0, .ref b), (1, .ref (K.2.1 x1)), (2, .ref (K.2.1 x2)), (3, .ref (K.2.1 x3)), (4, .int x4)] [] h := by
  unfold fL_law_b832 at hf
  refine A_aload_n C dL_law_832 (i := 1) rfl 1 rfl 833 rfl ?_
  refine A_aload_n C dL_law_833 (i := 0) rfl 0 rfl 834 rfl ?_
  refine A_iload C dL_law_834 4 rfl 836 rfl ?_
  refine A_iconst (v := 1) C dL_law_836 (by decide) 837 rfl ?_
  refine A_iadd C dL_law_837 838 rfl ?_
  refine A_sld C hXs dL_law_838 hf 839 rfl (fun hf => ?_)
  refine A_aload_n C dL_law_839 (i := 0) rfl 0 rfl 840 rfl ?_
  refine A_iload C dL_law_840 4 rfl 842 rfl ?_
  refine A_iconst (v := 2) C dL_law_842 (by decide) 843 rfl ?_
  refine A_iadd C dL_law_843 844 rfl ?_
  refine A_sld C hXs dL_law_844 hf 845 rfl (fun hf => ?_)
  refine CVi C dL_law_845 8 kx1 (by decide) (r := (RX8, TX8, 19)) rfl rfl hf (fun _ _ e => mX8_lonely kx1 e) lkR_law_91 (by decide) (by decide) rfl [] rfl (Nat.le_of_ble_eq_true rfl) 848 rfl (fun r845 h845 hf => ?_)
  refine A_aload_n C dL_law_848 (i := 2) rfl 2 rfl 849 rfl ?_
  refine A_aload_n C dL_law_849 (i := 0) rfl 0 rfl 850 rfl ?_
  refine A_iload C dL_law_850 4 rfl 852 rfl ?_
  refine A_iconst (v := 1) C dL_law_852 (by decide) 853 rfl ?_
  refine A_iadd C dL_law_853 854 rfl ?_
  refine A_sld C hXs dL_law_854 hf 855 rfl (fun hf => ?_)
  refine A_aload_n C dL_law_855 (i := 0) rfl 0 rfl 856 rfl ?_
  refine A_iload C dL_law_856 4 rfl 858 rfl ?_
  refine A_iconst (v := 2) C dL_law_858 (by decide) 859 rfl ?_
  refine A_iadd C dL_law_859 860 rfl ?_
  refine A_sld C hXs dL_law_860 hf 861 rfl (fun hf => ?_)
  refine CVi C dL_law_861 9 kx2 (by decide) (r := (RX9, TX9, 44)) rfl rfl hf (fun _ _ e => mX9_lonely kx2 e) lkR_law_94 (by decide) (by decide) rfl [.int r845] rfl (Nat.le_of_ble_eq_true rfl) 864 rfl (fun r861 h861 hf => ?_)
  refine A_icmp_eq C dL_law_864 2031 (by decide) 867 rfl hf (fun c864 hf => ?_) (fun c864 hf => ?_)
  · refine A_iinc (v := (x4 + 6)) C dL_law_2031 4 rfl rfl [(4, .int (x4 + 6)), (0, .ref b), (1, .ref (K.2.1 x1)), (2, .ref (K.2.1 x2)), (3, .ref (K.2.1 x3))] (lt_nl hnl (by decide)) rfl 2034 rfl ?_
    refine A_goto C dL_law_2034 23 (by decide) ?_
    refine A_sub [1, 2, 3, 4, 0] (lv' := [(0, .ref b), (1, .ref (K.2.1 x1)), (2, .ref (K.2.1 x2)), (3, .ref (K.2.1 x3)), (4, .int (x4 + 6))]) rfl ?_
    exact Hself23 _ (Or.inl rfl) _ _ hf
  refine A_iconst (v := 0) C dL_law_867 (by decide) 868 rfl ?_
  exact A_lawret0 hf
set_option maxRecDepth 20000 in
theorem wL_law_b869 {K : KX} {G : GX} {b : Nat} (C : Ok K G 800 cL_law R_law) (C2 : Ok K (bump G) 800 cL_law R_law) (hnl : G.2.2.2.2.2.2.2.2.2.2.2.2.2 = 7) (hnl2 : (bump G).2.2.2.2.2.2.2.2.2.2.2.2.2 = 7) {hv : HH} (E : EndL K G b) (E2 : EndL K (bump G) b) (F2 : ∀ xs L, ScrOK K G b xs L → ScrOK K (bump G) b xs L) {xs : Nat → Int32} {L : Nat} {x1 : Nat} {x2 : Nat} {x3 : Nat} {x4 : Int32} {self23 : Int32 → HH → Option (Bool × HH)} (Hself23 : ∀ G', (G' = G ∨ G' = bump G) → ∀ (x4 : Int32) (h : HH), self23 x4 h = some (true, hv) → At K G' 23 [(0, .ref b), (1, .ref (K.2.1 x1)), (2, .ref (K.2.1 x2)), (3, .ref (K.2.1 x3)), (4, .int x4)] [] h) (hXs : ScrOK K G b xs L) (kx1 : isK 8 x1) (kx2 : isK 9 x2) (kx3 : isK 12 x3) {h : HH} (hf : fL_law_b869 self23 xs L x1 x2 x3 x4 h = some (true, hv)) : At K G 869 [(0, .ref b), (1, .ref (K.2.1 x1)), (2, .ref (K.2.1 x2)), (3, .ref (K.2.1 x3)), (4, .int x4)] [] h := by
  unfold fL_law_b869 at hf
  refine A_aload_n C dL_law_869 (i := 1) rfl 1 rfl 870 rfl ?_
  refine A_aload_n C dL_law_870 (i := 0) rfl 0 rfl 871 rfl ?_
  refine A_iload C dL_law_871 4 rfl 873 rfl ?_
  refine A_iconst (v := 1) C dL_law_873 (by decide) 874 rfl ?_
  refine A_iadd C dL_law_874 875 rfl ?_
  refine A_sld C hXs dL_law_875 hf 876 rfl (fun hf => ?_)
  refine CVi C dL_law_876 8 kx1 (by decide) (r := (RX8, TX8, 19)) rfl rfl hf (fun _ _ e => mX8_crowd kx1 e) lkR_law_95 (by decide) (by decide) rfl [] rfl (Nat.le_of_ble_eq_true rfl) 879 rfl (fun r876 h876 hf => ?_)
  refine A_aload_n C dL_law_879 (i := 2) rfl 2 rfl 880 rfl ?_
  refine A_aload_n C dL_law_880 (i := 0) rfl 0 rfl 881 rfl ?_
  refine A_iload C dL_law_881 4 rfl 883 rfl ?_
  refine A_iconst (v := 1) C dL_law_883 (by decide) 884 rfl ?_
  refine A_iadd C dL_law_884 885 rfl ?_
  refine A_sld C hXs dL_law_885 hf 886 rfl (fun hf => ?_)
  refine CVi C dL_law_886 9 kx2 (by decide) (r := (RX9, TX9, 44)) rfl rfl hf (fun _ _ e => mX9_crowd kx2 e) lkR_law_98 (by decide) (by decide) rfl [.int r876] rfl (Nat.le_of_ble_eq_true rfl) 889 rfl (fun r886 h886 hf => ?_)
  refine A_icmp_eq C dL_law_889 2031 (by decide) 892 rfl hf (fun c889 hf => ?_) (fun c889 hf => ?_)
  · refine A_iinc (v := (x4 + 6)) C dL_law_2031 4 rfl rfl [(4, .int (x4 + 6)), (0, .ref b), (1, .ref (K.2.1 x1)), (2, .ref (K.2.1 x2)), (3, .ref (K.2.1 x3))] (lt_nl hnl (by decide)) rfl 2034 rfl ?_
    refine A_goto C dL_law_2034 23 (by decide) ?_
    refine A_sub [1, 2, 3, 4, 0] (lv' := [(0, .ref b), (1, .ref (K.2.1 x1)), (2, .ref (K.2.1 x2)), (3, .ref (K.2.1 x3)), (4, .int (x4 + 6))]) rfl ?_
    exact Hself23 _ (Or.inl rfl) _ _ hf
  refine A_iconst (v := 0) C dL_law_892 (by decide) 893 rfl ?_
  exact A_lawret0 hf
set_option maxRecDepth 20000 in
theorem wL_law_b894 {K : KX} {G : GX} {b : Nat} (C : Ok K G 800 cL_law R_law) (C2 : Ok K (bump G) 800 cL_law R_law) (hnl : G.2.2.2.2.2.2.2.2.2.2.2.2.2 = 7) (hnl2 : (bump G).2.2.2.2.2.2.2.2.2.2.2.2.2 = 7) {hv : HH} (E : EndL K G b) (E2 : EndL K (bump G) b) (F2 : ∀ xs L, ScrOK K G b xs L → ScrOK K (bump G) b xs L) {xs : Nat → Int32} {L : Nat} {x1 : Nat} {x2 : Nat} {x3 : Nat} {x4 : Int32} {self23 : Int32 → HH → Option (Bool × HH)} (Hself23 : ∀ G', (G' = G ∨ G' = bump G) → ∀ (x4 : Int32) (h : HH), self23 x4 h = some (true, hv) → At K G' 23 [(0, .ref b), (1, .ref (K.2.1 x1)), (2, .ref (K.2.1 x2)), (3, .ref (K.2.1 x3)), (4, .int x4)] [] h) (hXs : ScrOK K G b xs L) (kx1 : isK 8 x1) (kx2 : isK 9 x2) (kx3 : isK 12 x3) {h : HH} (hf : fL_law_b894 self23 xs L x1 x2 x3 x4 h = some (true, hv)) : At K G 894 [(0, .ref b), (1, .ref (K.2.1 x1)), (2, .ref (K.2.1 x2)), (3, .ref (K.2.1 x3)), (4, .int x4)] [] h := by
  unfold fL_law_b894 at hf
  refine A_aload_n C dL_law_894 (i := 1) rfl 1 rfl 895 rfl ?_
  refine CVi C dL_law_895 8 kx1 (by decide) (r := (RX8, TX8, 19)) rfl rfl hf (fun _ _ e => mX8_left kx1 e) lkR_law_99 (by decide) (by decide) rfl [] rfl (Nat.le_of_ble_eq_true rfl) 898 rfl (fun r895 h895 hf => ?_)
  refine A_aload_n C dL_law_898 (i := 2) rfl 2 rfl 899 rfl ?_
  refine CVi C dL_law_899 9 kx2 (by decide) (r := (RX9, TX9, 44)) rfl rfl hf (fun _ _ e => mX9_left kx2 e) lkR_law_102 (by decide) (by decide) rfl [.int r895] rfl (Nat.le_of_ble_eq_true rfl) 902 rfl (fun r899 h899 hf => ?_)
  refine A_icmp_eq C dL_law_902 2031 (by decide) 905 rfl hf (fun c902 hf => ?_) (fun c902 hf => ?_)
  · refine A_iinc (v := (x4 + 6)) C dL_law_2031 4 rfl rfl [(4, .int (x4 + 6)), (0, .ref b), (1, .ref (K.2.1 x1)), (2, .ref (K.2.1 x2)), (3, .ref (K.2.1 x3))] (lt_nl hnl (by decide)) rfl 2034 rfl ?_
    refine A_goto C dL_law_2034 23 (by decide) ?_
    refine A_sub [1, 2, 3, 4, 0] (lv' := [(0, .ref b), (1, .ref (K.2.1 x1)), (2, .ref (K.2.1 x2)), (3, .ref (K.2.1 x3)), (4, .int (x4 + 6))]) rfl ?_
    exact Hself23 _ (Or.inl rfl) _ _ hf
  refine A_iconst (v := 0) C dL_law_905 (by decide) 906 rfl ?_
  exact A_lawret0 hf
set_option maxRecDepth 20000 in
theorem wL_law_b907 {K : KX} {G : GX} {b : Nat} (C : Ok K G 800 cL_law R_law) (C2 : Ok K (bump G) 800 cL_law R_law) (hnl : G.2.2.2.2.2.2.2.2.2.2.2.2.2 = 7) (hnl2 : (bump G).2.2.2.2.2.2.2.2.2.2.2.2.2 = 7) {hv : HH} (E : EndL K G b) (E2 : EndL K (bump G) b) (F2 : ∀ xs L, ScrOK K G b xs L → ScrOK K (bump G) b xs L) {xs : Nat → Int32} {L : Nat} {x1 : Nat} {x2 : Nat} {x3 : Nat} {x4 : Int32} {self23 : Int32 → HH → Option (Bool × HH)} (Hself23 : ∀ G', (G' = G ∨ G' = bump G) → ∀ (x4 : Int32) (h : HH), self23 x4 h = some (true, hv) → At K G' 23 [(0, .ref b), (1, .ref (K.2.1 x1)), (2, .ref (K.2.1 x2)), (3, .ref (K.2.1 x3)), (4, .int x4)] [] h) (hXs : ScrOK K G b xs L) (kx1 : isK 8 x1) (kx2 : isK 9 x2) (kx3 : isK 12 x3) {h : HH} (hf : fL_law_b907 self23 xs L x1 x2 x3 x4 h = some (true, hv)) : At K G 907 [(0, .ref b), (1, .ref (K.2.1 x1)), (2, .ref (K.2.1 x2)), (3, .ref (K.2.1 x3)), (4, .int x4)] [] h := by
  unfold fL_law_b907 at hf
  refine A_aload_n C dL_law_907 (i := 1) rfl 1 rfl 908 rfl ?_
  refine A_aload_n C dL_law_908 (i := 0) rfl 0 rfl 909 rfl ?_
  refine A_iload C dL_law_909 4 rfl 911 rfl ?_
  refine A_iconst (v := 1) C dL_law_911 (by decide) 912 rfl ?_
  refine A_iadd C dL_law_912 913 rfl ?_
  refine A_sld C hXs dL_law_913 hf 914 rfl (fun hf => ?_)
  refine A_aload_n C dL_law_914 (i := 0) rfl 0 rfl 915 rfl ?_
  refine A_iload C dL_law_915 4 rfl 917 rfl ?_
  refine A_iconst (v := 2) C dL_law_917 (by decide) 918 rfl ?_
  refine A_iadd C dL_law_918 919 rfl ?_
  refine A_sld C hXs dL_law_919 hf 920 rfl (fun hf => ?_)
  refine CVi C dL_law_920 8 kx1 (by decide) (r := (RX8, TX8, 19)) rfl rfl hf (fun _ _ e => mX8_woken kx1 e) lkR_law_103 (by decide) (by decide) rfl [] rfl (Nat.le_of_ble_eq_true rfl) 923 rfl (fun r920 h920 hf => ?_)
  refine A_aload_n C dL_law_923 (i := 2) rfl 2 rfl 924 rfl ?_
  refine A_aload_n C dL_law_924 (i := 0) rfl 0 rfl 925 rfl ?_
  refine A_iload C dL_law_925 4 rfl 927 rfl ?_
  refine A_iconst (v := 1) C dL_law_927 (by decide) 928 rfl ?_
  refine A_iadd C dL_law_928 929 rfl ?_
  refine A_sld C hXs dL_law_929 hf 930 rfl (fun hf => ?_)
  refine A_aload_n C dL_law_930 (i := 0) rfl 0 rfl 931 rfl ?_
  refine A_iload C dL_law_931 4 rfl 933 rfl ?_
  refine A_iconst (v := 2) C dL_law_933 (by decide) 934 rfl ?_
  refine A_iadd C dL_law_934 935 rfl ?_
  refine A_sld C hXs dL_law_935 hf 936 rfl (fun hf => ?_)
  refine CVi C dL_law_936 9 kx2 (by decide) (r := (RX9, TX9, 44)) rfl rfl hf (fun _ _ e => mX9_woken kx2 e) lkR_law_106 (by decide) (by decide) rfl [.int r920] rfl (Nat.le_of_ble_eq_true rfl) 939 rfl (fun r936 h936 hf => ?_)
  refine A_icmp_eq C dL_law_939 2031 (by decide) 942 rfl hf (fun c939 hf => ?_) (fun c939 hf => ?_)
  · refine A_iinc (v := (x4 + 6)) C dL_law_2031 4 rfl rfl [(4, .int (x4 + 6)), (0, .ref b), (1, .ref (K.2.1 x1)), (2, .ref (K.2.1 x2)), (3, .ref (K.2.1 x3))] (lt_nl hnl (by decide)) rfl 2034 rfl ?_
    refine A_goto C dL_law_2034 23 (by decide) ?_
    refine A_sub [1, 2, 3, 4, 0] (lv' := [(0, .ref b), (1, .ref (K.2.1 x1)), (2, .ref (K.2.1 x2)), (3, .ref (K.2.1 x3)), (4, .int (x4 + 6))]) rfl ?_
    exact Hself23 _ (Or.inl rfl) _ _ hf
  refine A_iconst (v := 0) C dL_law_942 (by decide) 943 rfl ?_
  exact A_lawret0 hf
set_option maxRecDepth 20000 in
theorem wL_law_b944 {K : KX} {G : GX} {b : Nat} (C : Ok K G 800 cL_law R_law) (C2 : Ok K (bump G) 800 cL_law R_law) (hnl : G.2.2.2.2.2.2.2.2.2.2.2.2.2 = 7) (hnl2 : (bump G).2.2.2.2.2.2.2.2.2.2.2.2.2 = 7) {hv : HH} (E : EndL K G b) (E2 : EndL K (bump G) b) (F2 : ∀ xs L, ScrOK K G b xs L → ScrOK K (bump G) b xs L) {xs : Nat → Int32} {L : Nat} {x1 : Nat} {x2 : Nat} {x3 : Nat} {x4 : Int32} {self23 : Int32 → HH → Option (Bool × HH)} (Hself23 : ∀ G', (G' = G ∨ G' = bump G) → ∀ (x4 : Int32) (h : HH), self23 x4 h = some (true, hv) → At K G' 23 [(0, .ref b), (1, .ref (K.2.1 x1)), (2, .ref (K.2.1 x2)), (3, .ref (K.2.1 x3)), (4, .int x4)] [] h) (hXs : ScrOK K G b xs L) (kx1 : isK 8 x1) (kx2 : isK 9 x2) (kx3 : isK 12 x3) {h : HH} (hf : fL_law_b944 self23 xs L x1 x2 x3 x4 h = some (true, hv)) : At K G 944 [(0, .ref b), (1, .ref (K.2.1 x1)), (2, .ref (K.2.1 x2)), (3, .ref (K.2.1 x3)), (4, .int x4)] [] h := by
  unfold fL_law_b944 at hf
  refine A_aload_n C dL_law_944 (i := 1) rfl 1 rfl 945 rfl ?_
  refine A_aload_n C dL_law_945 (i := 0) rfl 0 rfl 946 rfl ?_
  refine A_iload C dL_law_946 4 rfl 948 rfl ?_
  refine A_iconst (v := 1) C dL_law_948 (by decide) 949 rfl ?_
  refine A_iadd C dL_law_949 950 rfl ?_
  refine A_sld C hXs dL_law_950 hf 951 rfl (fun hf => ?_)
  refine A_aload_n C dL_law_951 (i := 0) rfl 0 rfl 952 rfl ?_
  refine A_iload C dL_law_952 4 rfl 954 rfl ?_
  refine A_iconst (v := 2) C dL_law_954 (by decide) 955 rfl ?_
  refine A_iadd C dL_law_955 956 rfl ?_
  refine A_sld C hXs dL_law_956 hf 957 rfl (fun hf => ?_)
  refine A_aload_n C dL_law_957 (i := 0) rfl 0 rfl 958 rfl ?_
  refine A_iload C dL_law_958 4 rfl 960 rfl ?_
  refine A_iconst (v := 3) C dL_law_960 (by decide) 961 rfl ?_
  refine A_iadd C dL_law_961 962 rfl ?_
  refine A_sld C hXs dL_law_962 hf 963 rfl (fun hf => ?_)
  refine CVl C dL_law_963 8 kx1 (by decide) (r := (RX8, TX8, 19)) rfl rfl hf (fun _ _ e => mX8_felt kx1 e) lkR_law_107 (by decide) (by decide) rfl [] rfl (Nat.le_of_ble_eq_true rfl) 966 rfl (fun r963 h963 hf => ?_)
  refine A_aload_n C dL_law_966 (i := 2) rfl 2 rfl 967 rfl ?_
  refine A_aload_n C dL_law_967 (i := 0) rfl 0 rfl 968 rfl ?_
  refine A_iload C dL_law_968 4 rfl 970 rfl ?_
  refine A_iconst (v := 1) C dL_law_970 (by decide) 971 rfl ?_
  refine A_iadd C dL_law_971 972 rfl ?_
  refine A_sld C hXs dL_law_972 hf 973 rfl (fun hf => ?_)
  refine A_aload_n C dL_law_973 (i := 0) rfl 0 rfl 974 rfl ?_
  refine A_iload C dL_law_974 4 rfl 976 rfl ?_
  refine A_iconst (v := 2) C dL_law_976 (by decide) 977 rfl ?_
  refine A_iadd C dL_law_977 978 rfl ?_
  refine A_sld C hXs dL_law_978 hf 979 rfl (fun hf => ?_)
  refine A_aload_n C dL_law_979 (i := 0) rfl 0 rfl 980 rfl ?_
  refine A_iload C dL_law_980 4 rfl 982 rfl ?_
  refine A_iconst (v := 3) C dL_law_982 (by decide) 983 rfl ?_
  refine A_iadd C dL_law_983 984 rfl ?_
  refine A_sld C hXs dL_law_984 hf 985 rfl (fun hf => ?_)
  refine CVl C dL_law_985 9 kx2 (by decide) (r := (RX9, TX9, 44)) rfl rfl hf (fun _ _ e => mX9_felt kx2 e) lkR_law_111 (by decide) (by decide) rfl [.long r963] rfl (Nat.le_of_ble_eq_true rfl) 988 rfl (fun r985 h985 hf => ?_)
  refine A_l_eq C dL_law_988 dL_law_989 2031 (by decide) 992 rfl hf (fun c988 hf => ?_) (fun c988 hf => ?_)
  · refine A_iinc (v := (x4 + 6)) C dL_law_2031 4 rfl rfl [(4, .int (x4 + 6)), (0, .ref b), (1, .ref (K.2.1 x1)), (2, .ref (K.2.1 x2)), (3, .ref (K.2.1 x3))] (lt_nl hnl (by decide)) rfl 2034 rfl ?_
    refine A_goto C dL_law_2034 23 (by decide) ?_
    refine A_sub [1, 2, 3, 4, 0] (lv' := [(0, .ref b), (1, .ref (K.2.1 x1)), (2, .ref (K.2.1 x2)), (3, .ref (K.2.1 x3)), (4, .int (x4 + 6))]) rfl ?_
    exact Hself23 _ (Or.inl rfl) _ _ hf
  refine A_iconst (v := 0) C dL_law_992 (by decide) 993 rfl ?_
  exact A_lawret0 hf
set_option maxRecDepth 20000 in
theorem wL_law_b994 {K : KX} {G : GX} {b : Nat} (C : Ok K G 800 cL_law R_law) (C2 : Ok K (bump G) 800 cL_law R_law) (hnl : G.2.2.2.2.2.2.2.2.2.2.2.2.2 = 7) (hnl2 : (bump G).2.2.2.2.2.2.2.2.2.2.2.2.2 = 7) {hv : HH} (E : EndL K G b) (E2 : EndL K (bump G) b) (F2 : ∀ xs L, ScrOK K G b xs L → ScrOK K (bump G) b xs L) {xs : Nat → Int32} {L : Nat} {x1 : Nat} {x2 : Nat} {x3 : Nat} {x4 : Int32} {self23 : Int32 → HH → Option (Bool × HH)} (Hself23 : ∀ G', (G' = G ∨ G' = bump G) → ∀ (x4 : Int32) (h : HH), self23 x4 h = some (true, hv) → At K G' 23 [(0, .ref b), (1, .ref (K.2.1 x1)), (2, .ref (K.2.1 x2)), (3, .ref (K.2.1 x3)), (4, .int x4)] [] h) (hXs : ScrOK K G b xs L) (kx1 : isK 8 x1) (kx2 : isK 9 x2) (kx3 : isK 12 x3) {h : HH} (hf : fL_law_b994 self23 xs L x1 x2 x3 x4 h = some (true, hv)) : At K G 994 [(0, .ref b), (1, .ref (K.2.1 x1)), (2, .ref (K.2.1 x2)), (3, .ref (K.2.1 x3)), (4, .int x4)] [] h := by
  unfold fL_law_b994 at hf
  refine A_aload_n C dL_law_994 (i := 1) rfl 1 rfl 995 rfl ?_
  refine A_aload_n C dL_law_995 (i := 0) rfl 0 rfl 996 rfl ?_
  refine A_iload C dL_law_996 4 rfl 998 rfl ?_
  refine A_iconst (v := 1) C dL_law_998 (by decide) 999 rfl ?_
  refine A_iadd C dL_law_999 1000 rfl ?_
  refine A_sld C hXs dL_law_1000 hf 1001 rfl (fun hf => ?_)
  refine CVi C dL_law_1001 8 kx1 (by decide) (r := (RX8, TX8, 19)) rfl rfl hf (fun _ _ e => mX8_task kx1 e) lkR_law_112 (by decide) (by decide) rfl [] rfl (Nat.le_of_ble_eq_true rfl) 1004 rfl (fun r1001 h1001 hf => ?_)
  refine A_aload_n C dL_law_1004 (i := 2) rfl 2 rfl 1005 rfl ?_
  refine A_aload_n C dL_law_1005 (i := 0) rfl 0 rfl 1006 rfl ?_
  refine A_iload C dL_law_1006 4 rfl 1008 rfl ?_
  refine A_iconst (v := 1) C dL_law_1008 (by decide) 1009 rfl ?_
  refine A_iadd C dL_law_1009 1010 rfl ?_
  refine A_sld C hXs dL_law_1010 hf 1011 rfl (fun hf => ?_)
  refine CVi C dL_law_1011 9 kx2 (by decide) (r := (RX9, TX9, 44)) rfl rfl hf (fun _ _ e => mX9_task kx2 e) lkR_law_115 (by decide) (by decide) rfl [.int r1001] rfl (Nat.le_of_ble_eq_true rfl) 1014 rfl (fun r1011 h1011 hf => ?_)
  refine A_icmp_eq C dL_law_1014 2031 (by decide) 1017 rfl hf (fun c1014 hf => ?_) (fun c1014 hf => ?_)
  · refine A_iinc (v := (x4 + 6)) C dL_law_2031 4 rfl rfl [(4, .int (x4 + 6)), (0, .ref b), (1, .ref (K.2.1 x1)), (2, .ref (K.2.1 x2)), (3, .ref (K.2.1 x3))] (lt_nl hnl (by decide)) rfl 2034 rfl ?_
    refine A_goto C dL_law_2034 23 (by decide) ?_
    refine A_sub [1, 2, 3, 4, 0] (lv' := [(0, .ref b), (1, .ref (K.2.1 x1)), (2, .ref (K.2.1 x2)), (3, .ref (K.2.1 x3)), (4, .int (x4 + 6))]) rfl ?_
    exact Hself23 _ (Or.inl rfl) _ _ hf
  refine A_iconst (v := 0) C dL_law_1017 (by decide) 1018 rfl ?_
  exact A_lawret0 hf
set_option maxRecDepth 20000 in
theorem wL_law_b1019 {K : KX} {G : GX} {b : Nat} (C : Ok K G 800 cL_law R_law) (C2 : Ok K (bump G) 800 cL_law R_law) (hnl : G.2.2.2.2.2.2.2.2.2.2.2.2.2 = 7) (hnl2 : (bump G).2.2.2.2.2.2.2.2.2.2.2.2.2 = 7) {hv : HH} (E : EndL K G b) (E2 : EndL K (bump G) b) (F2 : ∀ xs L, ScrOK K G b xs L → ScrOK K (bump G) b xs L) {xs : Nat → Int32} {L : Nat} {x1 : Nat} {x2 : Nat} {x3 : Nat} {x4 : Int32} {self23 : Int32 → HH → Option (Bool × HH)} (Hself23 : ∀ G', (G' = G ∨ G' = bump G) → ∀ (x4 : Int32) (h : HH), self23 x4 h = some (true, hv) → At K G' 23 [(0, .ref b), (1, .ref (K.2.1 x1)), (2, .ref (K.2.1 x2)), (3, .ref (K.2.1 x3)), (4, .int x4)] [] h) (hXs : ScrOK K G b xs L) (kx1 : isK 8 x1) (kx2 : isK 9 x2) (kx3 : isK 12 x3) {h : HH} (hf : fL_law_b1019 self23 xs L x1 x2 x3 x4 h = some (true, hv)) : At K G 1019 [(0, .ref b), (1, .ref (K.2.1 x1)), (2, .ref (K.2.1 x2)), (3, .ref (K.2.1 x3)), (4, .int x4)] [] h := by
  unfold fL_law_b1019 at hf
  refine A_aload_n C dL_law_1019 (i := 1) rfl 1 rfl 1020 rfl ?_
  refine A_aload_n C dL_law_1020 (i := 0) rfl 0 rfl 1021 rfl ?_
  refine A_iload C dL_law_1021 4 rfl 1023 rfl ?_
  refine A_iconst (v := 1) C dL_law_1023 (by decide) 1024 rfl ?_
  refine A_iadd C dL_law_1024 1025 rfl ?_
  refine A_sld C hXs dL_law_1025 hf 1026 rfl (fun hf => ?_)
  refine CVl C dL_law_1026 8 kx1 (by decide) (r := (RX8, TX8, 19)) rfl rfl hf (fun _ _ e => mX8_best kx1 e) lkR_law_116 (by decide) (by decide) rfl [] rfl (Nat.le_of_ble_eq_true rfl) 1029 rfl (fun r1026 h1026 hf => ?_)
  refine A_aload_n C dL_law_1029 (i := 2) rfl 2 rfl 1030 rfl ?_
  refine A_aload_n C dL_law_1030 (i := 0) rfl 0 rfl 1031 rfl ?_
  refine A_iload C dL_law_1031 4 rfl 1033 rfl ?_
  refine A_iconst (v := 1) C dL_law_1033 (by decide) 1034 rfl ?_
  refine A_iadd C dL_law_1034 1035 rfl ?_
  refine A_sld C hXs dL_law_1035 hf 1036 rfl (fun hf => ?_)
  refine CVl C dL_law_1036 9 kx2 (by decide) (r := (RX9, TX9, 44)) rfl rfl hf (fun _ _ e => mX9_best kx2 e) lkR_law_119 (by decide) (by decide) rfl [.long r1026] rfl (Nat.le_of_ble_eq_true rfl) 1039 rfl (fun r1036 h1036 hf => ?_)
  refine A_l_eq C dL_law_1039 dL_law_1040 2031 (by decide) 1043 rfl hf (fun c1039 hf => ?_) (fun c1039 hf => ?_)
  · refine A_iinc (v := (x4 + 6)) C dL_law_2031 4 rfl rfl [(4, .int (x4 + 6)), (0, .ref b), (1, .ref (K.2.1 x1)), (2, .ref (K.2.1 x2)), (3, .ref (K.2.1 x3))] (lt_nl hnl (by decide)) rfl 2034 rfl ?_
    refine A_goto C dL_law_2034 23 (by decide) ?_
    refine A_sub [1, 2, 3, 4, 0] (lv' := [(0, .ref b), (1, .ref (K.2.1 x1)), (2, .ref (K.2.1 x2)), (3, .ref (K.2.1 x3)), (4, .int (x4 + 6))]) rfl ?_
    exact Hself23 _ (Or.inl rfl) _ _ hf
  refine A_iconst (v := 0) C dL_law_1043 (by decide) 1044 rfl ?_
  exact A_lawret0 hf
set_option maxRecDepth 20000 in
theorem wL_law_b1045 {K : KX} {G : GX} {b : Nat} (C : Ok K G 800 cL_law R_law) (C2 : Ok K (bump G) 800 cL_law R_law) (hnl : G.2.2.2.2.2.2.2.2.2.2.2.2.2 = 7) (hnl2 : (bump G).2.2.2.2.2.2.2.2.2.2.2.2.2 = 7) {hv : HH} (E : EndL K G b) (E2 : EndL K (bump G) b) (F2 : ∀ xs L, ScrOK K G b xs L → ScrOK K (bump G) b xs L) {xs : Nat → Int32} {L : Nat} {x1 : Nat} {x2 : Nat} {x3 : Nat} {x4 : Int32} {self23 : Int32 → HH → Option (Bool × HH)} (Hself23 : ∀ G', (G' = G ∨ G' = bump G) → ∀ (x4 : Int32) (h : HH), self23 x4 h = some (true, hv) → At K G' 23 [(0, .ref b), (1, .ref (K.2.1 x1)), (2, .ref (K.2.1 x2)), (3, .ref (K.2.1 x3)), (4, .int x4)] [] h) (hXs : ScrOK K G b xs L) (kx1 : isK 8 x1) (kx2 : isK 9 x2) (kx3 : isK 12 x3) {h : HH} (hf : fL_law_b1045 self23 xs L x1 x2 x3 x4 h = some (true, hv)) : At K G 1045 [(0, .ref b), (1, .ref (K.2.1 x1)), (2, .ref (K.2.1 x2)), (3, .ref (K.2.1 x3)), (4, .int x4)] [] h := by
  unfold fL_law_b1045 at hf
  refine A_aload_n C dL_law_1045 (i := 1) rfl 1 rfl 1046 rfl ?_
  refine CVl C dL_law_1046 8 kx1 (by decide) (r := (RX8, TX8, 19)) rfl rfl hf (fun _ _ e => mX8_soonest kx1 e) lkR_law_120 (by decide) (by decide) rfl [] rfl (Nat.le_of_ble_eq_true rfl) 1049 rfl (fun r1046 h1046 hf => ?_)
  refine A_aload_n C dL_law_1049 (i := 2) rfl 2 rfl 1050 rfl ?_
  refine CVl C dL_law_1050 9 kx2 (by decide) (r := (RX9, TX9, 44)) rfl rfl hf (fun _ _ e => mX9_soonest kx2 e) lkR_law_123 (by decide) (by decide) rfl [.long r1046] rfl (Nat.le_of_ble_eq_true rfl) 1053 rfl (fun r1050 h1050 hf => ?_)
  refine A_l_eq C dL_law_1053 dL_law_1054 2031 (by decide) 1057 rfl hf (fun c1053 hf => ?_) (fun c1053 hf => ?_)
  · refine A_iinc (v := (x4 + 6)) C dL_law_2031 4 rfl rfl [(4, .int (x4 + 6)), (0, .ref b), (1, .ref (K.2.1 x1)), (2, .ref (K.2.1 x2)), (3, .ref (K.2.1 x3))] (lt_nl hnl (by decide)) rfl 2034 rfl ?_
    refine A_goto C dL_law_2034 23 (by decide) ?_
    refine A_sub [1, 2, 3, 4, 0] (lv' := [(0, .ref b), (1, .ref (K.2.1 x1)), (2, .ref (K.2.1 x2)), (3, .ref (K.2.1 x3)), (4, .int (x4 + 6))]) rfl ?_
    exact Hself23 _ (Or.inl rfl) _ _ hf
  refine A_iconst (v := 0) C dL_law_1057 (by decide) 1058 rfl ?_
  exact A_lawret0 hf
set_option maxRecDepth 20000 in
theorem wL_law_b1059 {K : KX} {G : GX} {b : Nat} (C : Ok K G 800 cL_law R_law) (C2 : Ok K (bump G) 800 cL_law R_law) (hnl : G.2.2.2.2.2.2.2.2.2.2.2.2.2 = 7) (hnl2 : (bump G).2.2.2.2.2.2.2.2.2.2.2.2.2 = 7) {hv : HH} (E : EndL K G b) (E2 : EndL K (bump G) b) (F2 : ∀ xs L, ScrOK K G b xs L → ScrOK K (bump G) b xs L) {xs : Nat → Int32} {L : Nat} {x1 : Nat} {x2 : Nat} {x3 : Nat} {x4 : Int32} {self23 : Int32 → HH → Option (Bool × HH)} (Hself23 : ∀ G', (G' = G ∨ G' = bump G) → ∀ (x4 : Int32) (h : HH), self23 x4 h = some (true, hv) → At K G' 23 [(0, .ref b), (1, .ref (K.2.1 x1)), (2, .ref (K.2.1 x2)), (3, .ref (K.2.1 x3)), (4, .int x4)] [] h) (hXs : ScrOK K G b xs L) (kx1 : isK 8 x1) (kx2 : isK 9 x2) (kx3 : isK 12 x3) {h : HH} (hf : fL_law_b1059 self23 xs L x1 x2 x3 x4 h = some (true, hv)) : At K G 1059 [(0, .ref b), (1, .ref (K.2.1 x1)), (2, .ref (K.2.1 x2)), (3, .ref (K.2.1 x3)), (4, .int x4)] [] h := by
  unfold fL_law_b1059 at hf
  refine A_aload_n C dL_law_1059 (i := 1) rfl 1 rfl 1060 rfl ?_
  refine A_aload_n C dL_law_1060 (i := 0) rfl 0 rfl 1061 rfl ?_
  refine A_iload C dL_law_1061 4 rfl 1063 rfl ?_
  refine A_iconst (v := 1) C dL_law_1063 (by decide) 1064 rfl ?_
  refine A_iadd C dL_law_1064 1065 rfl ?_
  refine A_sld C hXs dL_law_1065 hf 1066 rfl (fun hf => ?_)
  refine CVi C dL_law_1066 8 kx1 (by decide) (r := (RX8, TX8, 19)) rfl rfl hf (fun _ _ e => mX8_together kx1 e) lkR_law_124 (by decide) (by decide) rfl [] rfl (Nat.le_of_ble_eq_true rfl) 1069 rfl (fun r1066 h1066 hf => ?_)
  refine A_aload_n C dL_law_1069 (i := 2) rfl 2 rfl 1070 rfl ?_
  refine A_aload_n C dL_law_1070 (i := 0) rfl 0 rfl 1071 rfl ?_
  refine A_iload C dL_law_1071 4 rfl 1073 rfl ?_
  refine A_iconst (v := 1) C dL_law_1073 (by decide) 1074 rfl ?_
  refine A_iadd C dL_law_1074 1075 rfl ?_
  refine A_sld C hXs dL_law_1075 hf 1076 rfl (fun hf => ?_)
  refine CVi C dL_law_1076 9 kx2 (by decide) (r := (RX9, TX9, 44)) rfl rfl hf (fun _ _ e => mX9_together kx2 e) lkR_law_127 (by decide) (by decide) rfl [.int r1066] rfl (Nat.le_of_ble_eq_true rfl) 1079 rfl (fun r1076 h1076 hf => ?_)
  refine A_icmp_eq C dL_law_1079 2031 (by decide) 1082 rfl hf (fun c1079 hf => ?_) (fun c1079 hf => ?_)
  · refine A_iinc (v := (x4 + 6)) C dL_law_2031 4 rfl rfl [(4, .int (x4 + 6)), (0, .ref b), (1, .ref (K.2.1 x1)), (2, .ref (K.2.1 x2)), (3, .ref (K.2.1 x3))] (lt_nl hnl (by decide)) rfl 2034 rfl ?_
    refine A_goto C dL_law_2034 23 (by decide) ?_
    refine A_sub [1, 2, 3, 4, 0] (lv' := [(0, .ref b), (1, .ref (K.2.1 x1)), (2, .ref (K.2.1 x2)), (3, .ref (K.2.1 x3)), (4, .int (x4 + 6))]) rfl ?_
    exact Hself23 _ (Or.inl rfl) _ _ hf
  refine A_iconst (v := 0) C dL_law_1082 (by decide) 1083 rfl ?_
  exact A_lawret0 hf
set_option maxRecDepth 20000 in
theorem wL_law_b1084 {K : KX} {G : GX} {b : Nat} (C : Ok K G 800 cL_law R_law) (C2 : Ok K (bump G) 800 cL_law R_law) (hnl : G.2.2.2.2.2.2.2.2.2.2.2.2.2 = 7) (hnl2 : (bump G).2.2.2.2.2.2.2.2.2.2.2.2.2 = 7) {hv : HH} (E : EndL K G b) (E2 : EndL K (bump G) b) (F2 : ∀ xs L, ScrOK K G b xs L → ScrOK K (bump G) b xs L) {xs : Nat → Int32} {L : Nat} {x1 : Nat} {x2 : Nat} {x3 : Nat} {x4 : Int32} {self23 : Int32 → HH → Option (Bool × HH)} (Hself23 : ∀ G', (G' = G ∨ G' = bump G) → ∀ (x4 : Int32) (h : HH), self23 x4 h = some (true, hv) → At K G' 23 [(0, .ref b), (1, .ref (K.2.1 x1)), (2, .ref (K.2.1 x2)), (3, .ref (K.2.1 x3)), (4, .int x4)] [] h) (hXs : ScrOK K G b xs L) (kx1 : isK 8 x1) (kx2 : isK 9 x2) (kx3 : isK 12 x3) {h : HH} (hf : fL_law_b1084 self23 xs L x1 x2 x3 x4 h = some (true, hv)) : At K G 1084 [(0, .ref b), (1, .ref (K.2.1 x1)), (2, .ref (K.2.1 x2)), (3, .ref (K.2.1 x3)), (4, .int x4)] [] h := by
  unfold fL_law_b1084 at hf
  refine A_aload_n C dL_law_1084 (i := 1) rfl 1 rfl 1085 rfl ?_
  refine A_aload_n C dL_law_1085 (i := 0) rfl 0 rfl 1086 rfl ?_
  refine A_iload C dL_law_1086 4 rfl 1088 rfl ?_
  refine A_iconst (v := 1) C dL_law_1088 (by decide) 1089 rfl ?_
  refine A_iadd C dL_law_1089 1090 rfl ?_
  refine A_sld C hXs dL_law_1090 hf 1091 rfl (fun hf => ?_)
  refine A_aload_n C dL_law_1091 (i := 0) rfl 0 rfl 1092 rfl ?_
  refine A_iload C dL_law_1092 4 rfl 1094 rfl ?_
  refine A_iconst (v := 2) C dL_law_1094 (by decide) 1095 rfl ?_
  refine A_iadd C dL_law_1095 1096 rfl ?_
  refine A_sld C hXs dL_law_1096 hf 1097 rfl (fun hf => ?_)
  refine CVi C dL_law_1097 8 kx1 (by decide) (r := (RX8, TX8, 19)) rfl rfl hf (fun _ _ e => mX8_togetherAt kx1 e) lkR_law_128 (by decide) (by decide) rfl [] rfl (Nat.le_of_ble_eq_true rfl) 1100 rfl (fun r1097 h1097 hf => ?_)
  refine A_aload_n C dL_law_1100 (i := 2) rfl 2 rfl 1101 rfl ?_
  refine A_aload_n C dL_law_1101 (i := 0) rfl 0 rfl 1102 rfl ?_
  refine A_iload C dL_law_1102 4 rfl 1104 rfl ?_
  refine A_iconst (v := 1) C dL_law_1104 (by decide) 1105 rfl ?_
  refine A_iadd C dL_law_1105 1106 rfl ?_
  refine A_sld C hXs dL_law_1106 hf 1107 rfl (fun hf => ?_)
  refine A_aload_n C dL_law_1107 (i := 0) rfl 0 rfl 1108 rfl ?_
  refine A_iload C dL_law_1108 4 rfl 1110 rfl ?_
  refine A_iconst (v := 2) C dL_law_1110 (by decide) 1111 rfl ?_
  refine A_iadd C dL_law_1111 1112 rfl ?_
  refine A_sld C hXs dL_law_1112 hf 1113 rfl (fun hf => ?_)
  refine CVi C dL_law_1113 9 kx2 (by decide) (r := (RX9, TX9, 44)) rfl rfl hf (fun _ _ e => mX9_togetherAt kx2 e) lkR_law_131 (by decide) (by decide) rfl [.int r1097] rfl (Nat.le_of_ble_eq_true rfl) 1116 rfl (fun r1113 h1113 hf => ?_)
  refine A_icmp_eq C dL_law_1116 2031 (by decide) 1119 rfl hf (fun c1116 hf => ?_) (fun c1116 hf => ?_)
  · refine A_iinc (v := (x4 + 6)) C dL_law_2031 4 rfl rfl [(4, .int (x4 + 6)), (0, .ref b), (1, .ref (K.2.1 x1)), (2, .ref (K.2.1 x2)), (3, .ref (K.2.1 x3))] (lt_nl hnl (by decide)) rfl 2034 rfl ?_
    refine A_goto C dL_law_2034 23 (by decide) ?_
    refine A_sub [1, 2, 3, 4, 0] (lv' := [(0, .ref b), (1, .ref (K.2.1 x1)), (2, .ref (K.2.1 x2)), (3, .ref (K.2.1 x3)), (4, .int (x4 + 6))]) rfl ?_
    exact Hself23 _ (Or.inl rfl) _ _ hf
  refine A_iconst (v := 0) C dL_law_1119 (by decide) 1120 rfl ?_
  exact A_lawret0 hf
set_option maxRecDepth 20000 in
theorem wL_law_b1121 {K : KX} {G : GX} {b : Nat} (C : Ok K G 800 cL_law R_law) (C2 : Ok K (bump G) 800 cL_law R_law) (hnl : G.2.2.2.2.2.2.2.2.2.2.2.2.2 = 7) (hnl2 : (bump G).2.2.2.2.2.2.2.2.2.2.2.2.2 = 7) {hv : HH} (E : EndL K G b) (E2 : EndL K (bump G) b) (F2 : ∀ xs L, ScrOK K G b xs L → ScrOK K (bump G) b xs L) {xs : Nat → Int32} {L : Nat} {x1 : Nat} {x2 : Nat} {x3 : Nat} {x4 : Int32} {self23 : Int32 → HH → Option (Bool × HH)} (Hself23 : ∀ G', (G' = G ∨ G' = bump G) → ∀ (x4 : Int32) (h : HH), self23 x4 h = some (true, hv) → At K G' 23 [(0, .ref b), (1, .ref (K.2.1 x1)), (2, .ref (K.2.1 x2)), (3, .ref (K.2.1 x3)), (4, .int x4)] [] h) (hXs : ScrOK K G b xs L) (kx1 : isK 8 x1) (kx2 : isK 9 x2) (kx3 : isK 12 x3) {h : HH} (hf : fL_law_b1121 self23 xs L x1 x2 x3 x4 h = some (true, hv)) : At K G 1121 [(0, .ref b), (1, .ref (K.2.1 x1)), (2, .ref (K.2.1 x2)), (3, .ref (K.2.1 x3)), (4, .int x4)] [] h := by
  unfold fL_law_b1121 at hf
  refine A_aload_n C dL_law_1121 (i := 1) rfl 1 rfl 1122 rfl ?_
  refine CVi C dL_law_1122 8 kx1 (by decide) (r := (RX8, TX8, 19)) rfl rfl hf (fun _ _ e => mX8_deep kx1 e) lkR_law_132 (by decide) (by decide) rfl [] rfl (Nat.le_of_ble_eq_true rfl) 1125 rfl (fun r1122 h1122 hf => ?_)
  refine A_aload_n C dL_law_1125 (i := 2) rfl 2 rfl 1126 rfl ?_
  refine CVi C dL_law_1126 9 kx2 (by decide) (r := (RX9, TX9, 44)) rfl rfl hf (fun _ _ e => mX9_deep kx2 e) lkR_law_135 (by decide) (by decide) rfl [.int r1122] rfl (Nat.le_of_ble_eq_true rfl) 1129 rfl (fun r1126 h1126 hf => ?_)
  refine A_icmp_eq C dL_law_1129 2031 (by decide) 1132 rfl hf (fun c1129 hf => ?_) (fun c1129 hf => ?_)
  · refine A_iinc (v := (x4 + 6)) C dL_law_2031 4 rfl rfl [(4, .int (x4 + 6)), (0, .ref b), (1, .ref (K.2.1 x1)), (2, .ref (K.2.1 x2)), (3, .ref (K.2.1 x3))] (lt_nl hnl (by decide)) rfl 2034 rfl ?_
    refine A_goto C dL_law_2034 23 (by decide) ?_
    refine A_sub [1, 2, 3, 4, 0] (lv' := [(0, .ref b), (1, .ref (K.2.1 x1)), (2, .ref (K.2.1 x2)), (3, .ref (K.2.1 x3)), (4, .int (x4 + 6))]) rfl ?_
    exact Hself23 _ (Or.inl rfl) _ _ hf
  refine A_iconst (v := 0) C dL_law_1132 (by decide) 1133 rfl ?_
  exact A_lawret0 hf
set_option maxRecDepth 20000 in
theorem wL_law_b1134 {K : KX} {G : GX} {b : Nat} (C : Ok K G 800 cL_law R_law) (C2 : Ok K (bump G) 800 cL_law R_law) (hnl : G.2.2.2.2.2.2.2.2.2.2.2.2.2 = 7) (hnl2 : (bump G).2.2.2.2.2.2.2.2.2.2.2.2.2 = 7) {hv : HH} (E : EndL K G b) (E2 : EndL K (bump G) b) (F2 : ∀ xs L, ScrOK K G b xs L → ScrOK K (bump G) b xs L) {xs : Nat → Int32} {L : Nat} {x1 : Nat} {x2 : Nat} {x3 : Nat} {x4 : Int32} {self23 : Int32 → HH → Option (Bool × HH)} (Hself23 : ∀ G', (G' = G ∨ G' = bump G) → ∀ (x4 : Int32) (h : HH), self23 x4 h = some (true, hv) → At K G' 23 [(0, .ref b), (1, .ref (K.2.1 x1)), (2, .ref (K.2.1 x2)), (3, .ref (K.2.1 x3)), (4, .int x4)] [] h) (hXs : ScrOK K G b xs L) (kx1 : isK 8 x1) (kx2 : isK 9 x2) (kx3 : isK 12 x3) {h : HH} (hf : fL_law_b1134 self23 xs L x1 x2 x3 x4 h = some (true, hv)) : At K G 1134 [(0, .ref b), (1, .ref (K.2.1 x1)), (2, .ref (K.2.1 x2)), (3, .ref (K.2.1 x3)), (4, .int x4)] [] h := by
  unfold fL_law_b1134 at hf
  refine A_aload_n C dL_law_1134 (i := 1) rfl 1 rfl 1135 rfl ?_
  refine CVi C dL_law_1135 8 kx1 (by decide) (r := (RX8, TX8, 19)) rfl rfl hf (fun _ _ e => mX8_ask kx1 e) lkR_law_136 (by decide) (by decide) rfl [] rfl (Nat.le_of_ble_eq_true rfl) 1138 rfl (fun r1135 h1135 hf => ?_)
  refine A_aload_n C dL_law_1138 (i := 2) rfl 2 rfl 1139 rfl ?_
  refine CVi C dL_law_1139 9 kx2 (by decide) (r := (RX9, TX9, 44)) rfl rfl hf (fun _ _ e => mX9_ask kx2 e) lkR_law_139 (by decide) (by decide) rfl [.int r1135] rfl (Nat.le_of_ble_eq_true rfl) 1142 rfl (fun r1139 h1139 hf => ?_)
  refine A_icmp_eq C dL_law_1142 2031 (by decide) 1145 rfl hf (fun c1142 hf => ?_) (fun c1142 hf => ?_)
  · refine A_iinc (v := (x4 + 6)) C dL_law_2031 4 rfl rfl [(4, .int (x4 + 6)), (0, .ref b), (1, .ref (K.2.1 x1)), (2, .ref (K.2.1 x2)), (3, .ref (K.2.1 x3))] (lt_nl hnl (by decide)) rfl 2034 rfl ?_
    refine A_goto C dL_law_2034 23 (by decide) ?_
    refine A_sub [1, 2, 3, 4, 0] (lv' := [(0, .ref b), (1, .ref (K.2.1 x1)), (2, .ref (K.2.1 x2)), (3, .ref (K.2.1 x3)), (4, .int (x4 + 6))]) rfl ?_
    exact Hself23 _ (Or.inl rfl) _ _ hf
  refine A_iconst (v := 0) C dL_law_1145 (by decide) 1146 rfl ?_
  exact A_lawret0 hf
set_option maxRecDepth 20000 in
theorem wL_law_b1147 {K : KX} {G : GX} {b : Nat} (C : Ok K G 800 cL_law R_law) (C2 : Ok K (bump G) 800 cL_law R_law) (hnl : G.2.2.2.2.2.2.2.2.2.2.2.2.2 = 7) (hnl2 : (bump G).2.2.2.2.2.2.2.2.2.2.2.2.2 = 7) {hv : HH} (E : EndL K G b) (E2 : EndL K (bump G) b) (F2 : ∀ xs L, ScrOK K G b xs L → ScrOK K (bump G) b xs L) {xs : Nat → Int32} {L : Nat} {x1 : Nat} {x2 : Nat} {x3 : Nat} {x4 : Int32} {self23 : Int32 → HH → Option (Bool × HH)} (Hself23 : ∀ G', (G' = G ∨ G' = bump G) → ∀ (x4 : Int32) (h : HH), self23 x4 h = some (true, hv) → At K G' 23 [(0, .ref b), (1, .ref (K.2.1 x1)), (2, .ref (K.2.1 x2)), (3, .ref (K.2.1 x3)), (4, .int x4)] [] h) (hXs : ScrOK K G b xs L) (kx1 : isK 8 x1) (kx2 : isK 9 x2) (kx3 : isK 12 x3) {h : HH} (hf : fL_law_b1147 self23 xs L x1 x2 x3 x4 h = some (true, hv)) : At K G 1147 [(0, .ref b), (1, .ref (K.2.1 x1)), (2, .ref (K.2.1 x2)), (3, .ref (K.2.1 x3)), (4, .int x4)] [] h := by
  unfold fL_law_b1147 at hf
  refine A_aload_n C dL_law_1147 (i := 1) rfl 1 rfl 1148 rfl ?_
  refine CVi C dL_law_1148 8 kx1 (by decide) (r := (RX8, TX8, 19)) rfl rfl hf (fun _ _ e => mX8_askMost kx1 e) lkR_law_140 (by decide) (by decide) rfl [] rfl (Nat.le_of_ble_eq_true rfl) 1151 rfl (fun r1148 h1148 hf => ?_)
  refine A_aload_n C dL_law_1151 (i := 2) rfl 2 rfl 1152 rfl ?_
  refine CVi C dL_law_1152 9 kx2 (by decide) (r := (RX9, TX9, 44)) rfl rfl hf (fun _ _ e => mX9_askMost kx2 e) lkR_law_143 (by decide) (by decide) rfl [.int r1148] rfl (Nat.le_of_ble_eq_true rfl) 1155 rfl (fun r1152 h1152 hf => ?_)
  refine A_icmp_eq C dL_law_1155 2031 (by decide) 1158 rfl hf (fun c1155 hf => ?_) (fun c1155 hf => ?_)
  · refine A_iinc (v := (x4 + 6)) C dL_law_2031 4 rfl rfl [(4, .int (x4 + 6)), (0, .ref b), (1, .ref (K.2.1 x1)), (2, .ref (K.2.1 x2)), (3, .ref (K.2.1 x3))] (lt_nl hnl (by decide)) rfl 2034 rfl ?_
    refine A_goto C dL_law_2034 23 (by decide) ?_
    refine A_sub [1, 2, 3, 4, 0] (lv' := [(0, .ref b), (1, .ref (K.2.1 x1)), (2, .ref (K.2.1 x2)), (3, .ref (K.2.1 x3)), (4, .int (x4 + 6))]) rfl ?_
    exact Hself23 _ (Or.inl rfl) _ _ hf
  refine A_iconst (v := 0) C dL_law_1158 (by decide) 1159 rfl ?_
  exact A_lawret0 hf
set_option maxRecDepth 20000 in
theorem wL_law_b1160 {K : KX} {G : GX} {b : Nat} (C : Ok K G 800 cL_law R_law) (C2 : Ok K (bump G) 800 cL_law R_law) (hnl : G.2.2.2.2.2.2.2.2.2.2.2.2.2 = 7) (hnl2 : (bump G).2.2.2.2.2.2.2.2.2.2.2.2.2 = 7) {hv : HH} (E : EndL K G b) (E2 : EndL K (bump G) b) (F2 : ∀ xs L, ScrOK K G b xs L → ScrOK K (bump G) b xs L) {xs : Nat → Int32} {L : Nat} {x1 : Nat} {x2 : Nat} {x3 : Nat} {x4 : Int32} {self23 : Int32 → HH → Option (Bool × HH)} (Hself23 : ∀ G', (G' = G ∨ G' = bump G) → ∀ (x4 : Int32) (h : HH), self23 x4 h = some (true, hv) → At K G' 23 [(0, .ref b), (1, .ref (K.2.1 x1)), (2, .ref (K.2.1 x2)), (3, .ref (K.2.1 x3)), (4, .int x4)] [] h) (hXs : ScrOK K G b xs L) (kx1 : isK 8 x1) (kx2 : isK 9 x2) (kx3 : isK 12 x3) {h : HH} (hf : fL_law_b1160 self23 xs L x1 x2 x3 x4 h = some (true, hv)) : At K G 1160 [(0, .ref b), (1, .ref (K.2.1 x1)), (2, .ref (K.2.1 x2)), (3, .ref (K.2.1 x3)), (4, .int x4)] [] h := by
  unfold fL_law_b1160 at hf
  refine A_aload_n C dL_law_1160 (i := 1) rfl 1 rfl 1161 rfl ?_
  refine A_aload_n C dL_law_1161 (i := 0) rfl 0 rfl 1162 rfl ?_
  refine A_iload C dL_law_1162 4 rfl 1164 rfl ?_
  refine A_iconst (v := 1) C dL_law_1164 (by decide) 1165 rfl ?_
  refine A_iadd C dL_law_1165 1166 rfl ?_
  refine A_sld C hXs dL_law_1166 hf 1167 rfl (fun hf => ?_)
  refine A_aload_n C dL_law_1167 (i := 0) rfl 0 rfl 1168 rfl ?_
  refine A_iload C dL_law_1168 4 rfl 1170 rfl ?_
  refine A_iconst (v := 2) C dL_law_1170 (by decide) 1171 rfl ?_
  refine A_iadd C dL_law_1171 1172 rfl ?_
  refine A_sld C hXs dL_law_1172 hf 1173 rfl (fun hf => ?_)
  refine A_aload_n C dL_law_1173 (i := 0) rfl 0 rfl 1174 rfl ?_
  refine A_iload C dL_law_1174 4 rfl 1176 rfl ?_
  refine A_iconst (v := 3) C dL_law_1176 (by decide) 1177 rfl ?_
  refine A_iadd C dL_law_1177 1178 rfl ?_
  refine A_sld C hXs dL_law_1178 hf 1179 rfl (fun hf => ?_)
  refine CVi C dL_law_1179 8 kx1 (by decide) (r := (RX8, TX8, 19)) rfl rfl hf (fun _ _ e => mX8_letter kx1 e) lkR_law_144 (by decide) (by decide) rfl [] rfl (Nat.le_of_ble_eq_true rfl) 1182 rfl (fun r1179 h1179 hf => ?_)
  refine A_aload_n C dL_law_1182 (i := 2) rfl 2 rfl 1183 rfl ?_
  refine A_aload_n C dL_law_1183 (i := 0) rfl 0 rfl 1184 rfl ?_
  refine A_iload C dL_law_1184 4 rfl 1186 rfl ?_
  refine A_iconst (v := 1) C dL_law_1186 (by decide) 1187 rfl ?_
  refine A_iadd C dL_law_1187 1188 rfl ?_
  refine A_sld C hXs dL_law_1188 hf 1189 rfl (fun hf => ?_)
  refine A_aload_n C dL_law_1189 (i := 0) rfl 0 rfl 1190 rfl ?_
  refine A_iload C dL_law_1190 4 rfl 1192 rfl ?_
  refine A_iconst (v := 2) C dL_law_1192 (by decide) 1193 rfl ?_
  refine A_iadd C dL_law_1193 1194 rfl ?_
  refine A_sld C hXs dL_law_1194 hf 1195 rfl (fun hf => ?_)
  refine A_aload_n C dL_law_1195 (i := 0) rfl 0 rfl 1196 rfl ?_
  refine A_iload C dL_law_1196 4 rfl 1198 rfl ?_
  refine A_iconst (v := 3) C dL_law_1198 (by decide) 1199 rfl ?_
  refine A_iadd C dL_law_1199 1200 rfl ?_
  refine A_sld C hXs dL_law_1200 hf 1201 rfl (fun hf => ?_)
  refine CVi C dL_law_1201 9 kx2 (by decide) (r := (RX9, TX9, 44)) rfl rfl hf (fun _ _ e => mX9_letter kx2 e) lkR_law_147 (by decide) (by decide) rfl [.int r1179] rfl (Nat.le_of_ble_eq_true rfl) 1204 rfl (fun r1201 h1201 hf => ?_)
  refine A_icmp_eq C dL_law_1204 2031 (by decide) 1207 rfl hf (fun c1204 hf => ?_) (fun c1204 hf => ?_)
  · refine A_iinc (v := (x4 + 6)) C dL_law_2031 4 rfl rfl [(4, .int (x4 + 6)), (0, .ref b), (1, .ref (K.2.1 x1)), (2, .ref (K.2.1 x2)), (3, .ref (K.2.1 x3))] (lt_nl hnl (by decide)) rfl 2034 rfl ?_
    refine A_goto C dL_law_2034 23 (by decide) ?_
    refine A_sub [1, 2, 3, 4, 0] (lv' := [(0, .ref b), (1, .ref (K.2.1 x1)), (2, .ref (K.2.1 x2)), (3, .ref (K.2.1 x3)), (4, .int (x4 + 6))]) rfl ?_
    exact Hself23 _ (Or.inl rfl) _ _ hf
  refine A_iconst (v := 0) C dL_law_1207 (by decide) 1208 rfl ?_
  exact A_lawret0 hf
set_option maxRecDepth 20000 in
theorem wL_law_b1209 {K : KX} {G : GX} {b : Nat} (C : Ok K G 800 cL_law R_law) (C2 : Ok K (bump G) 800 cL_law R_law) (hnl : G.2.2.2.2.2.2.2.2.2.2.2.2.2 = 7) (hnl2 : (bump G).2.2.2.2.2.2.2.2.2.2.2.2.2 = 7) {hv : HH} (E : EndL K G b) (E2 : EndL K (bump G) b) (F2 : ∀ xs L, ScrOK K G b xs L → ScrOK K (bump G) b xs L) {xs : Nat → Int32} {L : Nat} {x1 : Nat} {x2 : Nat} {x3 : Nat} {x4 : Int32} {self23 : Int32 → HH → Option (Bool × HH)} (Hself23 : ∀ G', (G' = G ∨ G' = bump G) → ∀ (x4 : Int32) (h : HH), self23 x4 h = some (true, hv) → At K G' 23 [(0, .ref b), (1, .ref (K.2.1 x1)), (2, .ref (K.2.1 x2)), (3, .ref (K.2.1 x3)), (4, .int x4)] [] h) (hXs : ScrOK K G b xs L) (kx1 : isK 8 x1) (kx2 : isK 9 x2) (kx3 : isK 12 x3) {h : HH} (hf : fL_law_b1209 self23 xs L x1 x2 x3 x4 h = some (true, hv)) : At K G 1209 [(0, .ref b), (1, .ref (K.2.1 x1)), (2, .ref (K.2.1 x2)), (3, .ref (K.2.1 x3)), (4, .int x4)] [] h := by
  unfold fL_law_b1209 at hf
  refine A_aload_n C dL_law_1209 (i := 1) rfl 1 rfl 1210 rfl ?_
  refine A_aload_n C dL_law_1210 (i := 0) rfl 0 rfl 1211 rfl ?_
  refine A_iload C dL_law_1211 4 rfl 1213 rfl ?_
  refine A_iconst (v := 1) C dL_law_1213 (by decide) 1214 rfl ?_
  refine A_iadd C dL_law_1214 1215 rfl ?_
  refine A_sld C hXs dL_law_1215 hf 1216 rfl (fun hf => ?_)
  refine A_aload_n C dL_law_1216 (i := 0) rfl 0 rfl 1217 rfl ?_
  refine A_iload C dL_law_1217 4 rfl 1219 rfl ?_
  refine A_iconst (v := 2) C dL_law_1219 (by decide) 1220 rfl ?_
  refine A_iadd C dL_law_1220 1221 rfl ?_
  refine A_sld C hXs dL_law_1221 hf 1222 rfl (fun hf => ?_)
  refine A_aload_n C dL_law_1222 (i := 0) rfl 0 rfl 1223 rfl ?_
  refine A_iload C dL_law_1223 4 rfl 1225 rfl ?_
  refine A_iconst (v := 3) C dL_law_1225 (by decide) 1226 rfl ?_
  refine A_iadd C dL_law_1226 1227 rfl ?_
  refine A_sld C hXs dL_law_1227 hf 1228 rfl (fun hf => ?_)
  refine A_aload_n C dL_law_1228 (i := 0) rfl 0 rfl 1229 rfl ?_
  refine A_iload C dL_law_1229 4 rfl 1231 rfl ?_
  refine A_iconst (v := 4) C dL_law_1231 (by decide) 1232 rfl ?_
  refine A_iadd C dL_law_1232 1233 rfl ?_
  refine A_sld C hXs dL_law_1233 hf 1234 rfl (fun hf => ?_)
  refine CVi C dL_law_1234 8 kx1 (by decide) (r := (RX8, TX8, 19)) rfl rfl hf (fun _ _ e => mX8_tells kx1 e) lkR_law_148 (by decide) (by decide) rfl [] rfl (Nat.le_of_ble_eq_true rfl) 1237 rfl (fun r1234 h1234 hf => ?_)
  refine A_aload_n C dL_law_1237 (i := 2) rfl 2 rfl 1238 rfl ?_
  refine A_aload_n C dL_law_1238 (i := 0) rfl 0 rfl 1239 rfl ?_
  refine A_iload C dL_law_1239 4 rfl 1241 rfl ?_
  refine A_iconst (v := 1) C dL_law_1241 (by decide) 1242 rfl ?_
  refine A_iadd C dL_law_1242 1243 rfl ?_
  refine A_sld C hXs dL_law_1243 hf 1244 rfl (fun hf => ?_)
  refine A_aload_n C dL_law_1244 (i := 0) rfl 0 rfl 1245 rfl ?_
  refine A_iload C dL_law_1245 4 rfl 1247 rfl ?_
  refine A_iconst (v := 2) C dL_law_1247 (by decide) 1248 rfl ?_
  refine A_iadd C dL_law_1248 1249 rfl ?_
  refine A_sld C hXs dL_law_1249 hf 1250 rfl (fun hf => ?_)
  refine A_aload_n C dL_law_1250 (i := 0) rfl 0 rfl 1251 rfl ?_
  refine A_iload C dL_law_1251 4 rfl 1253 rfl ?_
  refine A_iconst (v := 3) C dL_law_1253 (by decide) 1254 rfl ?_
  refine A_iadd C dL_law_1254 1255 rfl ?_
  refine A_sld C hXs dL_law_1255 hf 1256 rfl (fun hf => ?_)
  refine A_aload_n C dL_law_1256 (i := 0) rfl 0 rfl 1257 rfl ?_
  refine A_iload C dL_law_1257 4 rfl 1259 rfl ?_
  refine A_iconst (v := 4) C dL_law_1259 (by decide) 1260 rfl ?_
  refine A_iadd C dL_law_1260 1261 rfl ?_
  refine A_sld C hXs dL_law_1261 hf 1262 rfl (fun hf => ?_)
  refine CVi C dL_law_1262 9 kx2 (by decide) (r := (RX9, TX9, 44)) rfl rfl hf (fun _ _ e => mX9_tells kx2 e) lkR_law_152 (by decide) (by decide) rfl [.int r1234] rfl (Nat.le_of_ble_eq_true rfl) 1265 rfl (fun r1262 h1262 hf => ?_)
  refine A_icmp_eq C dL_law_1265 2031 (by decide) 1268 rfl hf (fun c1265 hf => ?_) (fun c1265 hf => ?_)
  · refine A_iinc (v := (x4 + 6)) C dL_law_2031 4 rfl rfl [(4, .int (x4 + 6)), (0, .ref b), (1, .ref (K.2.1 x1)), (2, .ref (K.2.1 x2)), (3, .ref (K.2.1 x3))] (lt_nl hnl (by decide)) rfl 2034 rfl ?_
    refine A_goto C dL_law_2034 23 (by decide) ?_
    refine A_sub [1, 2, 3, 4, 0] (lv' := [(0, .ref b), (1, .ref (K.2.1 x1)), (2, .ref (K.2.1 x2)), (3, .ref (K.2.1 x3)), (4, .int (x4 + 6))]) rfl ?_
    exact Hself23 _ (Or.inl rfl) _ _ hf
  refine A_iconst (v := 0) C dL_law_1268 (by decide) 1269 rfl ?_
  exact A_lawret0 hf
set_option maxRecDepth 20000 in
theorem wL_law_b1270 {K : KX} {G : GX} {b : Nat} (C : Ok K G 800 cL_law R_law) (C2 : Ok K (bump G) 800 cL_law R_law) (hnl : G.2.2.2.2.2.2.2.2.2.2.2.2.2 = 7) (hnl2 : (bump G).2.2.2.2.2.2.2.2.2.2.2.2.2 = 7) {hv : HH} (E : EndL K G b) (E2 : EndL K (bump G) b) (F2 : ∀ xs L, ScrOK K G b xs L → ScrOK K (bump G) b xs L) {xs : Nat → Int32} {L : Nat} {x1 : Nat} {x2 : Nat} {x3 : Nat} {x4 : Int32} {self23 : Int32 → HH → Option (Bool × HH)} (Hself23 : ∀ G', (G' = G ∨ G' = bump G) → ∀ (x4 : Int32) (h : HH), self23 x4 h = some (true, hv) → At K G' 23 [(0, .ref b), (1, .ref (K.2.1 x1)), (2, .ref (K.2.1 x2)), (3, .ref (K.2.1 x3)), (4, .int x4)] [] h) (hXs : ScrOK K G b xs L) (kx1 : isK 8 x1) (kx2 : isK 9 x2) (kx3 : isK 12 x3) {h : HH} (hf : fL_law_b1270 self23 xs L x1 x2 x3 x4 h = some (true, hv)) : At K G 1270 [(0, .ref b), (1, .ref (K.2.1 x1)), (2, .ref (K.2.1 x2)), (3, .ref (K.2.1 x3)), (4, .int x4)] [] h := by
  unfold fL_law_b1270 at hf
  refine A_aload_n C dL_law_1270 (i := 1) rfl 1 rfl 1271 rfl ?_
  refine A_aload_n C dL_law_1271 (i := 0) rfl 0 rfl 1272 rfl ?_
  refine A_iload C dL_law_1272 4 rfl 1274 rfl ?_
  refine A_iconst (v := 1) C dL_law_1274 (by decide) 1275 rfl ?_
  refine A_iadd C dL_law_1275 1276 rfl ?_
  refine A_sld C hXs dL_law_1276 hf 1277 rfl (fun hf => ?_)
  refine A_aload_n C dL_law_1277 (i := 0) rfl 0 rfl 1278 rfl ?_
  refine A_iload C dL_law_1278 4 rfl 1280 rfl ?_
  refine A_iconst (v := 2) C dL_law_1280 (by decide) 1281 rfl ?_
  refine A_iadd C dL_law_1281 1282 rfl ?_
  refine A_sld C hXs dL_law_1282 hf 1283 rfl (fun hf => ?_)
  refine A_aload_n C dL_law_1283 (i := 0) rfl 0 rfl 1284 rfl ?_
  refine A_iload C dL_law_1284 4 rfl 1286 rfl ?_
  refine A_iconst (v := 3) C dL_law_1286 (by decide) 1287 rfl ?_
  refine A_iadd C dL_law_1287 1288 rfl ?_
  refine A_sld C hXs dL_law_1288 hf 1289 rfl (fun hf => ?_)
  refine A_aload_n C dL_law_1289 (i := 0) rfl 0 rfl 1290 rfl ?_
  refine A_iload C dL_law_1290 4 rfl 1292 rfl ?_
  refine A_iconst (v := 4) C dL_law_1292 (by decide) 1293 rfl ?_
  refine A_iadd C dL_law_1293 1294 rfl ?_
  refine A_sld C hXs dL_law_1294 hf 1295 rfl (fun hf => ?_)
  refine CVl C dL_law_1295 8 kx1 (by decide) (r := (RX8, TX8, 19)) rfl rfl hf (fun _ _ e => mX8_words kx1 e) lkR_law_153 (by decide) (by decide) rfl [] rfl (Nat.le_of_ble_eq_true rfl) 1298 rfl (fun r1295 h1295 hf => ?_)
  refine A_aload_n C dL_law_1298 (i := 2) rfl 2 rfl 1299 rfl ?_
  refine A_aload_n C dL_law_1299 (i := 0) rfl 0 rfl 1300 rfl ?_
  refine A_iload C dL_law_1300 4 rfl 1302 rfl ?_
  refine A_iconst (v := 1) C dL_law_1302 (by decide) 1303 rfl ?_
  refine A_iadd C dL_law_1303 1304 rfl ?_
  refine A_sld C hXs dL_law_1304 hf 1305 rfl (fun hf => ?_)
  refine A_aload_n C dL_law_1305 (i := 0) rfl 0 rfl 1306 rfl ?_
  refine A_iload C dL_law_1306 4 rfl 1308 rfl ?_
  refine A_iconst (v := 2) C dL_law_1308 (by decide) 1309 rfl ?_
  refine A_iadd C dL_law_1309 1310 rfl ?_
  refine A_sld C hXs dL_law_1310 hf 1311 rfl (fun hf => ?_)
  refine A_aload_n C dL_law_1311 (i := 0) rfl 0 rfl 1312 rfl ?_
  refine A_iload C dL_law_1312 4 rfl 1314 rfl ?_
  refine A_iconst (v := 3) C dL_law_1314 (by decide) 1315 rfl ?_
  refine A_iadd C dL_law_1315 1316 rfl ?_
  refine A_sld C hXs dL_law_1316 hf 1317 rfl (fun hf => ?_)
  refine A_aload_n C dL_law_1317 (i := 0) rfl 0 rfl 1318 rfl ?_
  refine A_iload C dL_law_1318 4 rfl 1320 rfl ?_
  refine A_iconst (v := 4) C dL_law_1320 (by decide) 1321 rfl ?_
  refine A_iadd C dL_law_1321 1322 rfl ?_
  refine A_sld C hXs dL_law_1322 hf 1323 rfl (fun hf => ?_)
  refine CVl C dL_law_1323 9 kx2 (by decide) (r := (RX9, TX9, 44)) rfl rfl hf (fun _ _ e => mX9_words kx2 e) lkR_law_157 (by decide) (by decide) rfl [.long r1295] rfl (Nat.le_of_ble_eq_true rfl) 1326 rfl (fun r1323 h1323 hf => ?_)
  refine A_l_eq C dL_law_1326 dL_law_1327 2031 (by decide) 1330 rfl hf (fun c1326 hf => ?_) (fun c1326 hf => ?_)
  · refine A_iinc (v := (x4 + 6)) C dL_law_2031 4 rfl rfl [(4, .int (x4 + 6)), (0, .ref b), (1, .ref (K.2.1 x1)), (2, .ref (K.2.1 x2)), (3, .ref (K.2.1 x3))] (lt_nl hnl (by decide)) rfl 2034 rfl ?_
    refine A_goto C dL_law_2034 23 (by decide) ?_
    refine A_sub [1, 2, 3, 4, 0] (lv' := [(0, .ref b), (1, .ref (K.2.1 x1)), (2, .ref (K.2.1 x2)), (3, .ref (K.2.1 x3)), (4, .int (x4 + 6))]) rfl ?_
    exact Hself23 _ (Or.inl rfl) _ _ hf
  refine A_iconst (v := 0) C dL_law_1330 (by decide) 1331 rfl ?_
  exact A_lawret0 hf
set_option maxRecDepth 20000 in
theorem wL_law_b1332 {K : KX} {G : GX} {b : Nat} (C : Ok K G 800 cL_law R_law) (C2 : Ok K (bump G) 800 cL_law R_law) (hnl : G.2.2.2.2.2.2.2.2.2.2.2.2.2 = 7) (hnl2 : (bump G).2.2.2.2.2.2.2.2.2.2.2.2.2 = 7) {hv : HH} (E : EndL K G b) (E2 : EndL K (bump G) b) (F2 : ∀ xs L, ScrOK K G b xs L → ScrOK K (bump G) b xs L) {xs : Nat → Int32} {L : Nat} {x1 : Nat} {x2 : Nat} {x3 : Nat} {x4 : Int32} {self23 : Int32 → HH → Option (Bool × HH)} (Hself23 : ∀ G', (G' = G ∨ G' = bump G) → ∀ (x4 : Int32) (h : HH), self23 x4 h = some (true, hv) → At K G' 23 [(0, .ref b), (1, .ref (K.2.1 x1)), (2, .ref (K.2.1 x2)), (3, .ref (K.2.1 x3)), (4, .int x4)] [] h) (hXs : ScrOK K G b xs L) (kx1 : isK 8 x1) (kx2 : isK 9 x2) (kx3 : isK 12 x3) {h : HH} (hf : fL_law_b1332 self23 xs L x1 x2 x3 x4 h = some (true, hv)) : At K G 1332 [(0, .ref b), (1, .ref (K.2.1 x1)), (2, .ref (K.2.1 x2)), (3, .ref (K.2.1 x3)), (4, .int x4)] [] h := by
  unfold fL_law_b1332 at hf
  refine A_aload_n C dL_law_1332 (i := 1) rfl 1 rfl 1333 rfl ?_
  refine A_aload_n C dL_law_1333 (i := 0) rfl 0 rfl 1334 rfl ?_
  refine A_iload C dL_law_1334 4 rfl 1336 rfl ?_
  refine A_iconst (v := 1) C dL_law_1336 (by decide) 1337 rfl ?_
  refine A_iadd C dL_law_1337 1338 rfl ?_
  refine A_sld C hXs dL_law_1338 hf 1339 rfl (fun hf => ?_)
  refine A_aload_n C dL_law_1339 (i := 0) rfl 0 rfl 1340 rfl ?_
  refine A_iload C dL_law_1340 4 rfl 1342 rfl ?_
  refine A_iconst (v := 2) C dL_law_1342 (by decide) 1343 rfl ?_
  refine A_iadd C dL_law_1343 1344 rfl ?_
  refine A_sld C hXs dL_law_1344 hf 1345 rfl (fun hf => ?_)
  refine A_aload_n C dL_law_1345 (i := 0) rfl 0 rfl 1346 rfl ?_
  refine A_iload C dL_law_1346 4 rfl 1348 rfl ?_
  refine A_iconst (v := 3) C dL_law_1348 (by decide) 1349 rfl ?_
  refine A_iadd C dL_law_1349 1350 rfl ?_
  refine A_sld C hXs dL_law_1350 hf 1351 rfl (fun hf => ?_)
  refine CVl C dL_law_1351 8 kx1 (by decide) (r := (RX8, TX8, 19)) rfl rfl hf (fun _ _ e => mX8_meeting kx1 e) lkR_law_158 (by decide) (by decide) rfl [] rfl (Nat.le_of_ble_eq_true rfl) 1354 rfl (fun r1351 h1351 hf => ?_)
  refine A_aload_n C dL_law_1354 (i := 2) rfl 2 rfl 1355 rfl ?_
  refine A_aload_n C dL_law_1355 (i := 0) rfl 0 rfl 1356 rfl ?_
  refine A_iload C dL_law_1356 4 rfl 1358 rfl ?_
  refine A_iconst (v := 1) C dL_law_1358 (by decide) 1359 rfl ?_
  refine A_iadd C dL_law_1359 1360 rfl ?_
  refine A_sld C hXs dL_law_1360 hf 1361 rfl (fun hf => ?_)
  refine A_aload_n C dL_law_1361 (i := 0) rfl 0 rfl 1362 rfl ?_
  refine A_iload C dL_law_1362 4 rfl 1364 rfl ?_
  refine A_iconst (v := 2) C dL_law_1364 (by decide) 1365 rfl ?_
  refine A_iadd C dL_law_1365 1366 rfl ?_
  refine A_sld C hXs dL_law_1366 hf 1367 rfl (fun hf => ?_)
  refine A_aload_n C dL_law_1367 (i := 0) rfl 0 rfl 1368 rfl ?_
  refine A_iload C dL_law_1368 4 rfl 1370 rfl ?_
  refine A_iconst (v := 3) C dL_law_1370 (by decide) 1371 rfl ?_
  refine A_iadd C dL_law_1371 1372 rfl ?_
  refine A_sld C hXs dL_law_1372 hf 1373 rfl (fun hf => ?_)
  refine CVl C dL_law_1373 9 kx2 (by decide) (r := (RX9, TX9, 44)) rfl rfl hf (fun _ _ e => mX9_meeting kx2 e) lkR_law_161 (by decide) (by decide) rfl [.long r1351] rfl (Nat.le_of_ble_eq_true rfl) 1376 rfl (fun r1373 h1373 hf => ?_)
  refine A_l_eq C dL_law_1376 dL_law_1377 2031 (by decide) 1380 rfl hf (fun c1376 hf => ?_) (fun c1376 hf => ?_)
  · refine A_iinc (v := (x4 + 6)) C dL_law_2031 4 rfl rfl [(4, .int (x4 + 6)), (0, .ref b), (1, .ref (K.2.1 x1)), (2, .ref (K.2.1 x2)), (3, .ref (K.2.1 x3))] (lt_nl hnl (by decide)) rfl 2034 rfl ?_
    refine A_goto C dL_law_2034 23 (by decide) ?_
    refine A_sub [1, 2, 3, 4, 0] (lv' := [(0, .ref b), (1, .ref (K.2.1 x1)), (2, .ref (K.2.1 x2)), (3, .ref (K.2.1 x3)), (4, .int (x4 + 6))]) rfl ?_
    exact Hself23 _ (Or.inl rfl) _ _ hf
  refine A_iconst (v := 0) C dL_law_1380 (by decide) 1381 rfl ?_
  exact A_lawret0 hf
set_option maxRecDepth 20000 in
theorem wL_law_b1382 {K : KX} {G : GX} {b : Nat} (C : Ok K G 800 cL_law R_law) (C2 : Ok K (bump G) 800 cL_law R_law) (hnl : G.2.2.2.2.2.2.2.2.2.2.2.2.2 = 7) (hnl2 : (bump G).2.2.2.2.2.2.2.2.2.2.2.2.2 = 7) {hv : HH} (E : EndL K G b) (E2 : EndL K (bump G) b) (F2 : ∀ xs L, ScrOK K G b xs L → ScrOK K (bump G) b xs L) {xs : Nat → Int32} {L : Nat} {x1 : Nat} {x2 : Nat} {x3 : Nat} {x4 : Int32} {self23 : Int32 → HH → Option (Bool × HH)} (Hself23 : ∀ G', (G' = G ∨ G' = bump G) → ∀ (x4 : Int32) (h : HH), self23 x4 h = some (true, hv) → At K G' 23 [(0, .ref b), (1, .ref (K.2.1 x1)), (2, .ref (K.2.1 x2)), (3, .ref (K.2.1 x3)), (4, .int x4)] [] h) (hXs : ScrOK K G b xs L) (kx1 : isK 8 x1) (kx2 : isK 9 x2) (kx3 : isK 12 x3) {h : HH} (hf : fL_law_b1382 self23 xs L x1 x2 x3 x4 h = some (true, hv)) : At K G 1382 [(0, .ref b), (1, .ref (K.2.1 x1)), (2, .ref (K.2.1 x2)), (3, .ref (K.2.1 x3)), (4, .int x4)] [] h := by
  unfold fL_law_b1382 at hf
  refine A_aload_n C dL_law_1382 (i := 1) rfl 1 rfl 1383 rfl ?_
  refine A_aload_n C dL_law_1383 (i := 0) rfl 0 rfl 1384 rfl ?_
  refine A_iload C dL_law_1384 4 rfl 1386 rfl ?_
  refine A_iconst (v := 1) C dL_law_1386 (by decide) 1387 rfl ?_
  refine A_iadd C dL_law_1387 1388 rfl ?_
  refine A_sld C hXs dL_law_1388 hf 1389 rfl (fun hf => ?_)
  refine A_aload_n C dL_law_1389 (i := 0) rfl 0 rfl 1390 rfl ?_
  refine A_iload C dL_law_1390 4 rfl 1392 rfl ?_
  refine A_iconst (v := 2) C dL_law_1392 (by decide) 1393 rfl ?_
  refine A_iadd C dL_law_1393 1394 rfl ?_
  refine A_sld C hXs dL_law_1394 hf 1395 rfl (fun hf => ?_)
  refine A_aload_n C dL_law_1395 (i := 0) rfl 0 rfl 1396 rfl ?_
  refine A_iload C dL_law_1396 4 rfl 1398 rfl ?_
  refine A_iconst (v := 3) C dL_law_1398 (by decide) 1399 rfl ?_
  refine A_iadd C dL_law_1399 1400 rfl ?_
  refine A_sld C hXs dL_law_1400 hf 1401 rfl (fun hf => ?_)
  refine CVi C dL_law_1401 8 kx1 (by decide) (r := (RX8, TX8, 19)) rfl rfl hf (fun _ _ e => mX8_meetingHead kx1 e) lkR_law_162 (by decide) (by decide) rfl [] rfl (Nat.le_of_ble_eq_true rfl) 1404 rfl (fun r1401 h1401 hf => ?_)
  refine A_aload_n C dL_law_1404 (i := 2) rfl 2 rfl 1405 rfl ?_
  refine A_aload_n C dL_law_1405 (i := 0) rfl 0 rfl 1406 rfl ?_
  refine A_iload C dL_law_1406 4 rfl 1408 rfl ?_
  refine A_iconst (v := 1) C dL_law_1408 (by decide) 1409 rfl ?_
  refine A_iadd C dL_law_1409 1410 rfl ?_
  refine A_sld C hXs dL_law_1410 hf 1411 rfl (fun hf => ?_)
  refine A_aload_n C dL_law_1411 (i := 0) rfl 0 rfl 1412 rfl ?_
  refine A_iload C dL_law_1412 4 rfl 1414 rfl ?_
  refine A_iconst (v := 2) C dL_law_1414 (by decide) 1415 rfl ?_
  refine A_iadd C dL_law_1415 1416 rfl ?_
  refine A_sld C hXs dL_law_1416 hf 1417 rfl (fun hf => ?_)
  refine A_aload_n C dL_law_1417 (i := 0) rfl 0 rfl 1418 rfl ?_
  refine A_iload C dL_law_1418 4 rfl 1420 rfl ?_
  refine A_iconst (v := 3) C dL_law_1420 (by decide) 1421 rfl ?_
  refine A_iadd C dL_law_1421 1422 rfl ?_
  refine A_sld C hXs dL_law_1422 hf 1423 rfl (fun hf => ?_)
  refine CVi C dL_law_1423 9 kx2 (by decide) (r := (RX9, TX9, 44)) rfl rfl hf (fun _ _ e => mX9_meetingHead kx2 e) lkR_law_165 (by decide) (by decide) rfl [.int r1401] rfl (Nat.le_of_ble_eq_true rfl) 1426 rfl (fun r1423 h1423 hf => ?_)
  refine A_icmp_eq C dL_law_1426 2031 (by decide) 1429 rfl hf (fun c1426 hf => ?_) (fun c1426 hf => ?_)
  · refine A_iinc (v := (x4 + 6)) C dL_law_2031 4 rfl rfl [(4, .int (x4 + 6)), (0, .ref b), (1, .ref (K.2.1 x1)), (2, .ref (K.2.1 x2)), (3, .ref (K.2.1 x3))] (lt_nl hnl (by decide)) rfl 2034 rfl ?_
    refine A_goto C dL_law_2034 23 (by decide) ?_
    refine A_sub [1, 2, 3, 4, 0] (lv' := [(0, .ref b), (1, .ref (K.2.1 x1)), (2, .ref (K.2.1 x2)), (3, .ref (K.2.1 x3)), (4, .int (x4 + 6))]) rfl ?_
    exact Hself23 _ (Or.inl rfl) _ _ hf
  refine A_iconst (v := 0) C dL_law_1429 (by decide) 1430 rfl ?_
  exact A_lawret0 hf
set_option maxRecDepth 20000 in
theorem wL_law_b1431 {K : KX} {G : GX} {b : Nat} (C : Ok K G 800 cL_law R_law) (C2 : Ok K (bump G) 800 cL_law R_law) (hnl : G.2.2.2.2.2.2.2.2.2.2.2.2.2 = 7) (hnl2 : (bump G).2.2.2.2.2.2.2.2.2.2.2.2.2 = 7) {hv : HH} (E : EndL K G b) (E2 : EndL K (bump G) b) (F2 : ∀ xs L, ScrOK K G b xs L → ScrOK K (bump G) b xs L) {xs : Nat → Int32} {L : Nat} {x1 : Nat} {x2 : Nat} {x3 : Nat} {x4 : Int32} {self23 : Int32 → HH → Option (Bool × HH)} (Hself23 : ∀ G', (G' = G ∨ G' = bump G) → ∀ (x4 : Int32) (h : HH), self23 x4 h = some (true, hv) → At K G' 23 [(0, .ref b), (1, .ref (K.2.1 x1)), (2, .ref (K.2.1 x2)), (3, .ref (K.2.1 x3)), (4, .int x4)] [] h) (hXs : ScrOK K G b xs L) (kx1 : isK 8 x1) (kx2 : isK 9 x2) (kx3 : isK 12 x3) {h : HH} (hf : fL_law_b1431 self23 xs L x1 x2 x3 x4 h = some (true, hv)) : At K G 1431 [(0, .ref b), (1, .ref (K.2.1 x1)), (2, .ref (K.2.1 x2)), (3, .ref (K.2.1 x3)), (4, .int x4)] [] h := by
  unfold fL_law_b1431 at hf
  refine A_aload_n C dL_law_1431 (i := 1) rfl 1 rfl 1432 rfl ?_
  refine A_aload_n C dL_law_1432 (i := 0) rfl 0 rfl 1433 rfl ?_
  refine A_iload C dL_law_1433 4 rfl 1435 rfl ?_
  refine A_iconst (v := 1) C dL_law_1435 (by decide) 1436 rfl ?_
  refine A_iadd C dL_law_1436 1437 rfl ?_
  refine A_sld C hXs dL_law_1437 hf 1438 rfl (fun hf => ?_)
  refine CVi C dL_law_1438 8 kx1 (by decide) (r := (RX8, TX8, 19)) rfl rfl hf (fun _ _ e => mX8_takes kx1 e) lkR_law_166 (by decide) (by decide) rfl [] rfl (Nat.le_of_ble_eq_true rfl) 1441 rfl (fun r1438 h1438 hf => ?_)
  refine A_aload_n C dL_law_1441 (i := 2) rfl 2 rfl 1442 rfl ?_
  refine A_aload_n C dL_law_1442 (i := 0) rfl 0 rfl 1443 rfl ?_
  refine A_iload C dL_law_1443 4 rfl 1445 rfl ?_
  refine A_iconst (v := 1) C dL_law_1445 (by decide) 1446 rfl ?_
  refine A_iadd C dL_law_1446 1447 rfl ?_
  refine A_sld C hXs dL_law_1447 hf 1448 rfl (fun hf => ?_)
  refine CVi C dL_law_1448 9 kx2 (by decide) (r := (RX9, TX9, 44)) rfl rfl hf (fun _ _ e => mX9_takes kx2 e) lkR_law_169 (by decide) (by decide) rfl [.int r1438] rfl (Nat.le_of_ble_eq_true rfl) 1451 rfl (fun r1448 h1448 hf => ?_)
  refine A_icmp_eq C dL_law_1451 2031 (by decide) 1454 rfl hf (fun c1451 hf => ?_) (fun c1451 hf => ?_)
  · refine A_iinc (v := (x4 + 6)) C dL_law_2031 4 rfl rfl [(4, .int (x4 + 6)), (0, .ref b), (1, .ref (K.2.1 x1)), (2, .ref (K.2.1 x2)), (3, .ref (K.2.1 x3))] (lt_nl hnl (by decide)) rfl 2034 rfl ?_
    refine A_goto C dL_law_2034 23 (by decide) ?_
    refine A_sub [1, 2, 3, 4, 0] (lv' := [(0, .ref b), (1, .ref (K.2.1 x1)), (2, .ref (K.2.1 x2)), (3, .ref (K.2.1 x3)), (4, .int (x4 + 6))]) rfl ?_
    exact Hself23 _ (Or.inl rfl) _ _ hf
  refine A_iconst (v := 0) C dL_law_1454 (by decide) 1455 rfl ?_
  exact A_lawret0 hf
set_option maxRecDepth 20000 in
theorem wL_law_b1456 {K : KX} {G : GX} {b : Nat} (C : Ok K G 800 cL_law R_law) (C2 : Ok K (bump G) 800 cL_law R_law) (hnl : G.2.2.2.2.2.2.2.2.2.2.2.2.2 = 7) (hnl2 : (bump G).2.2.2.2.2.2.2.2.2.2.2.2.2 = 7) {hv : HH} (E : EndL K G b) (E2 : EndL K (bump G) b) (F2 : ∀ xs L, ScrOK K G b xs L → ScrOK K (bump G) b xs L) {xs : Nat → Int32} {L : Nat} {x1 : Nat} {x2 : Nat} {x3 : Nat} {x4 : Int32} {self23 : Int32 → HH → Option (Bool × HH)} (Hself23 : ∀ G', (G' = G ∨ G' = bump G) → ∀ (x4 : Int32) (h : HH), self23 x4 h = some (true, hv) → At K G' 23 [(0, .ref b), (1, .ref (K.2.1 x1)), (2, .ref (K.2.1 x2)), (3, .ref (K.2.1 x3)), (4, .int x4)] [] h) (hXs : ScrOK K G b xs L) (kx1 : isK 8 x1) (kx2 : isK 9 x2) (kx3 : isK 12 x3) {h : HH} (hf : fL_law_b1456 self23 xs L x1 x2 x3 x4 h = some (true, hv)) : At K G 1456 [(0, .ref b), (1, .ref (K.2.1 x1)), (2, .ref (K.2.1 x2)), (3, .ref (K.2.1 x3)), (4, .int x4)] [] h := by
  unfold fL_law_b1456 at hf
  refine A_aload_n C dL_law_1456 (i := 1) rfl 1 rfl 1457 rfl ?_
  refine A_aload_n C dL_law_1457 (i := 0) rfl 0 rfl 1458 rfl ?_
  refine A_iload C dL_law_1458 4 rfl 1460 rfl ?_
  refine A_iconst (v := 1) C dL_law_1460 (by decide) 1461 rfl ?_
  refine A_iadd C dL_law_1461 1462 rfl ?_
  refine A_sld C hXs dL_law_1462 hf 1463 rfl (fun hf => ?_)
  refine CVl C dL_law_1463 8 kx1 (by decide) (r := (RX8, TX8, 19)) rfl rfl hf (fun _ _ e => mX8_gains kx1 e) lkR_law_170 (by decide) (by decide) rfl [] rfl (Nat.le_of_ble_eq_true rfl) 1466 rfl (fun r1463 h1463 hf => ?_)
  refine A_aload_n C dL_law_1466 (i := 2) rfl 2 rfl 1467 rfl ?_
  refine A_aload_n C dL_law_1467 (i := 0) rfl 0 rfl 1468 rfl ?_
  refine A_iload C dL_law_1468 4 rfl 1470 rfl ?_
  refine A_iconst (v := 1) C dL_law_1470 (by decide) 1471 rfl ?_
  refine A_iadd C dL_law_1471 1472 rfl ?_
  refine A_sld C hXs dL_law_1472 hf 1473 rfl (fun hf => ?_)
  refine CVl C dL_law_1473 9 kx2 (by decide) (r := (RX9, TX9, 44)) rfl rfl hf (fun _ _ e => mX9_gains kx2 e) lkR_law_173 (by decide) (by decide) rfl [.long r1463] rfl (Nat.le_of_ble_eq_true rfl) 1476 rfl (fun r1473 h1473 hf => ?_)
  refine A_l_eq C dL_law_1476 dL_law_1477 2031 (by decide) 1480 rfl hf (fun c1476 hf => ?_) (fun c1476 hf => ?_)
  · refine A_iinc (v := (x4 + 6)) C dL_law_2031 4 rfl rfl [(4, .int (x4 + 6)), (0, .ref b), (1, .ref (K.2.1 x1)), (2, .ref (K.2.1 x2)), (3, .ref (K.2.1 x3))] (lt_nl hnl (by decide)) rfl 2034 rfl ?_
    refine A_goto C dL_law_2034 23 (by decide) ?_
    refine A_sub [1, 2, 3, 4, 0] (lv' := [(0, .ref b), (1, .ref (K.2.1 x1)), (2, .ref (K.2.1 x2)), (3, .ref (K.2.1 x3)), (4, .int (x4 + 6))]) rfl ?_
    exact Hself23 _ (Or.inl rfl) _ _ hf
  refine A_iconst (v := 0) C dL_law_1480 (by decide) 1481 rfl ?_
  exact A_lawret0 hf
set_option maxRecDepth 20000 in
theorem wL_law_b1482 {K : KX} {G : GX} {b : Nat} (C : Ok K G 800 cL_law R_law) (C2 : Ok K (bump G) 800 cL_law R_law) (hnl : G.2.2.2.2.2.2.2.2.2.2.2.2.2 = 7) (hnl2 : (bump G).2.2.2.2.2.2.2.2.2.2.2.2.2 = 7) {hv : HH} (E : EndL K G b) (E2 : EndL K (bump G) b) (F2 : ∀ xs L, ScrOK K G b xs L → ScrOK K (bump G) b xs L) {xs : Nat → Int32} {L : Nat} {x1 : Nat} {x2 : Nat} {x3 : Nat} {x4 : Int32} {self23 : Int32 → HH → Option (Bool × HH)} (Hself23 : ∀ G', (G' = G ∨ G' = bump G) → ∀ (x4 : Int32) (h : HH), self23 x4 h = some (true, hv) → At K G' 23 [(0, .ref b), (1, .ref (K.2.1 x1)), (2, .ref (K.2.1 x2)), (3, .ref (K.2.1 x3)), (4, .int x4)] [] h) (hXs : ScrOK K G b xs L) (kx1 : isK 8 x1) (kx2 : isK 9 x2) (kx3 : isK 12 x3) {h : HH} (hf : fL_law_b1482 self23 xs L x1 x2 x3 x4 h = some (true, hv)) : At K G 1482 [(0, .ref b), (1, .ref (K.2.1 x1)), (2, .ref (K.2.1 x2)), (3, .ref (K.2.1 x3)), (4, .int x4)] [] h := by
  unfold fL_law_b1482 at hf
  refine A_aload_n C dL_law_1482 (i := 1) rfl 1 rfl 1483 rfl ?_
  refine A_aload_n C dL_law_1483 (i := 0) rfl 0 rfl 1484 rfl ?_
  refine A_iload C dL_law_1484 4 rfl 1486 rfl ?_
  refine A_iconst (v := 1) C dL_law_1486 (by decide) 1487 rfl ?_
  refine A_iadd C dL_law_1487 1488 rfl ?_
  refine A_sld C hXs dL_law_1488 hf 1489 rfl (fun hf => ?_)
  refine A_aload_n C dL_law_1489 (i := 0) rfl 0 rfl 1490 rfl ?_
  refine A_iload C dL_law_1490 4 rfl 1492 rfl ?_
  refine A_iconst (v := 2) C dL_law_1492 (by decide) 1493 rfl ?_
  refine A_iadd C dL_law_1493 1494 rfl ?_
  refine A_sld C hXs dL_law_1494 hf 1495 rfl (fun hf => ?_)
  refine CVi C dL_law_1495 8 kx1 (by decide) (r := (RX8, TX8, 19)) rfl rfl hf (fun _ _ e => mX8_price kx1 e) lkR_law_174 (by decide) (by decide) rfl [] rfl (Nat.le_of_ble_eq_true rfl) 1498 rfl (fun r1495 h1495 hf => ?_)
  refine A_aload_n C dL_law_1498 (i := 2) rfl 2 rfl 1499 rfl ?_
  refine A_aload_n C dL_law_1499 (i := 0) rfl 0 rfl 1500 rfl ?_
  refine A_iload C dL_law_1500 4 rfl 1502 rfl ?_
  refine A_iconst (v := 1) C dL_law_1502 (by decide) 1503 rfl ?_
  refine A_iadd C dL_law_1503 1504 rfl ?_
  refine A_sld C hXs dL_law_1504 hf 1505 rfl (fun hf => ?_)
  refine A_aload_n C dL_law_1505 (i := 0) rfl 0 rfl 1506 rfl ?_
  refine A_iload C dL_law_1506 4 rfl 1508 rfl ?_
  refine A_iconst (v := 2) C dL_law_1508 (by decide) 1509 rfl ?_
  refine A_iadd C dL_law_1509 1510 rfl ?_
  refine A_sld C hXs dL_law_1510 hf 1511 rfl (fun hf => ?_)
  refine CVi C dL_law_1511 9 kx2 (by decide) (r := (RX9, TX9, 44)) rfl rfl hf (fun _ _ e => mX9_price kx2 e) lkR_law_177 (by decide) (by decide) rfl [.int r1495] rfl (Nat.le_of_ble_eq_true rfl) 1514 rfl (fun r1511 h1511 hf => ?_)
  refine A_icmp_eq C dL_law_1514 2031 (by decide) 1517 rfl hf (fun c1514 hf => ?_) (fun c1514 hf => ?_)
  · refine A_iinc (v := (x4 + 6)) C dL_law_2031 4 rfl rfl [(4, .int (x4 + 6)), (0, .ref b), (1, .ref (K.2.1 x1)), (2, .ref (K.2.1 x2)), (3, .ref (K.2.1 x3))] (lt_nl hnl (by decide)) rfl 2034 rfl ?_
    refine A_goto C dL_law_2034 23 (by decide) ?_
    refine A_sub [1, 2, 3, 4, 0] (lv' := [(0, .ref b), (1, .ref (K.2.1 x1)), (2, .ref (K.2.1 x2)), (3, .ref (K.2.1 x3)), (4, .int (x4 + 6))]) rfl ?_
    exact Hself23 _ (Or.inl rfl) _ _ hf
  refine A_iconst (v := 0) C dL_law_1517 (by decide) 1518 rfl ?_
  exact A_lawret0 hf
set_option maxRecDepth 20000 in
theorem wL_law_b1519 {K : KX} {G : GX} {b : Nat} (C : Ok K G 800 cL_law R_law) (C2 : Ok K (bump G) 800 cL_law R_law) (hnl : G.2.2.2.2.2.2.2.2.2.2.2.2.2 = 7) (hnl2 : (bump G).2.2.2.2.2.2.2.2.2.2.2.2.2 = 7) {hv : HH} (E : EndL K G b) (E2 : EndL K (bump G) b) (F2 : ∀ xs L, ScrOK K G b xs L → ScrOK K (bump G) b xs L) {xs : Nat → Int32} {L : Nat} {x1 : Nat} {x2 : Nat} {x3 : Nat} {x4 : Int32} {self23 : Int32 → HH → Option (Bool × HH)} (Hself23 : ∀ G', (G' = G ∨ G' = bump G) → ∀ (x4 : Int32) (h : HH), self23 x4 h = some (true, hv) → At K G' 23 [(0, .ref b), (1, .ref (K.2.1 x1)), (2, .ref (K.2.1 x2)), (3, .ref (K.2.1 x3)), (4, .int x4)] [] h) (hXs : ScrOK K G b xs L) (kx1 : isK 8 x1) (kx2 : isK 9 x2) (kx3 : isK 12 x3) {h : HH} (hf : fL_law_b1519 self23 xs L x1 x2 x3 x4 h = some (true, hv)) : At K G 1519 [(0, .ref b), (1, .ref (K.2.1 x1)), (2, .ref (K.2.1 x2)), (3, .ref (K.2.1 x3)), (4, .int x4)] [] h := by
  unfold fL_law_b1519 at hf
  refine A_aload_n C dL_law_1519 (i := 1) rfl 1 rfl 1520 rfl ?_
  refine A_aload_n C dL_law_1520 (i := 0) rfl 0 rfl 1521 rfl ?_
  refine A_iload C dL_law_1521 4 rfl 1523 rfl ?_
  refine A_iconst (v := 1) C dL_law_1523 (by decide) 1524 rfl ?_
  refine A_iadd C dL_law_1524 1525 rfl ?_
  refine A_sld C hXs dL_law_1525 hf 1526 rfl (fun hf => ?_)
  refine A_aload_n C dL_law_1526 (i := 0) rfl 0 rfl 1527 rfl ?_
  refine A_iload C dL_law_1527 4 rfl 1529 rfl ?_
  refine A_iconst (v := 2) C dL_law_1529 (by decide) 1530 rfl ?_
  refine A_iadd C dL_law_1530 1531 rfl ?_
  refine A_sld C hXs dL_law_1531 hf 1532 rfl (fun hf => ?_)
  refine CVi C dL_law_1532 8 kx1 (by decide) (r := (RX8, TX8, 19)) rfl rfl hf (fun _ _ e => mX8_enough kx1 e) lkR_law_178 (by decide) (by decide) rfl [] rfl (Nat.le_of_ble_eq_true rfl) 1535 rfl (fun r1532 h1532 hf => ?_)
  refine A_aload_n C dL_law_1535 (i := 2) rfl 2 rfl 1536 rfl ?_
  refine A_aload_n C dL_law_1536 (i := 0) rfl 0 rfl 1537 rfl ?_
  refine A_iload C dL_law_1537 4 rfl 1539 rfl ?_
  refine A_iconst (v := 1) C dL_law_1539 (by decide) 1540 rfl ?_
  refine A_iadd C dL_law_1540 1541 rfl ?_
  refine A_sld C hXs dL_law_1541 hf 1542 rfl (fun hf => ?_)
  refine A_aload_n C dL_law_1542 (i := 0) rfl 0 rfl 1543 rfl ?_
  refine A_iload C dL_law_1543 4 rfl 1545 rfl ?_
  refine A_iconst (v := 2) C dL_law_1545 (by decide) 1546 rfl ?_
  refine A_iadd C dL_law_1546 1547 rfl ?_
  refine A_sld C hXs dL_law_1547 hf 1548 rfl (fun hf => ?_)
  refine CVi C dL_law_1548 9 kx2 (by decide) (r := (RX9, TX9, 44)) rfl rfl hf (fun _ _ e => mX9_enough kx2 e) lkR_law_181 (by decide) (by decide) rfl [.int r1532] rfl (Nat.le_of_ble_eq_true rfl) 1551 rfl (fun r1548 h1548 hf => ?_)
  refine A_icmp_eq C dL_law_1551 2031 (by decide) 1554 rfl hf (fun c1551 hf => ?_) (fun c1551 hf => ?_)
  · refine A_iinc (v := (x4 + 6)) C dL_law_2031 4 rfl rfl [(4, .int (x4 + 6)), (0, .ref b), (1, .ref (K.2.1 x1)), (2, .ref (K.2.1 x2)), (3, .ref (K.2.1 x3))] (lt_nl hnl (by decide)) rfl 2034 rfl ?_
    refine A_goto C dL_law_2034 23 (by decide) ?_
    refine A_sub [1, 2, 3, 4, 0] (lv' := [(0, .ref b), (1, .ref (K.2.1 x1)), (2, .ref (K.2.1 x2)), (3, .ref (K.2.1 x3)), (4, .int (x4 + 6))]) rfl ?_
    exact Hself23 _ (Or.inl rfl) _ _ hf
  refine A_iconst (v := 0) C dL_law_1554 (by decide) 1555 rfl ?_
  exact A_lawret0 hf
set_option maxRecDepth 20000 in
theorem wL_law_b1556 {K : KX} {G : GX} {b : Nat} (C : Ok K G 800 cL_law R_law) (C2 : Ok K (bump G) 800 cL_law R_law) (hnl : G.2.2.2.2.2.2.2.2.2.2.2.2.2 = 7) (hnl2 : (bump G).2.2.2.2.2.2.2.2.2.2.2.2.2 = 7) {hv : HH} (E : EndL K G b) (E2 : EndL K (bump G) b) (F2 : ∀ xs L, ScrOK K G b xs L → ScrOK K (bump G) b xs L) {xs : Nat → Int32} {L : Nat} {x1 : Nat} {x2 : Nat} {x3 : Nat} {x4 : Int32} {self23 : Int32 → HH → Option (Bool × HH)} (Hself23 : ∀ G', (G' = G ∨ G' = bump G) → ∀ (x4 : Int32) (h : HH), self23 x4 h = some (true, hv) → At K G' 23 [(0, .ref b), (1, .ref (K.2.1 x1)), (2, .ref (K.2.1 x2)), (3, .ref (K.2.1 x3)), (4, .int x4)] [] h) (hXs : ScrOK K G b xs L) (kx1 : isK 8 x1) (kx2 : isK 9 x2) (kx3 : isK 12 x3) {h : HH} (hf : fL_law_b1556 self23 xs L x1 x2 x3 x4 h = some (true, hv)) : At K G 1556 [(0, .ref b), (1, .ref (K.2.1 x1)), (2, .ref (K.2.1 x2)), (3, .ref (K.2.1 x3)), (4, .int x4)] [] h := by
  unfold fL_law_b1556 at hf
  refine A_aload_n C dL_law_1556 (i := 1) rfl 1 rfl 1557 rfl ?_
  refine CVi C dL_law_1557 8 kx1 (by decide) (r := (RX8, TX8, 19)) rfl rfl hf (fun _ _ e => mX8_rates kx1 e) lkR_law_182 (by decide) (by decide) rfl [] rfl (Nat.le_of_ble_eq_true rfl) 1560 rfl (fun r1557 h1557 hf => ?_)
  refine A_aload_n C dL_law_1560 (i := 2) rfl 2 rfl 1561 rfl ?_
  refine CVi C dL_law_1561 9 kx2 (by decide) (r := (RX9, TX9, 44)) rfl rfl hf (fun _ _ e => mX9_rates kx2 e) lkR_law_185 (by decide) (by decide) rfl [.int r1557] rfl (Nat.le_of_ble_eq_true rfl) 1564 rfl (fun r1561 h1561 hf => ?_)
  refine A_icmp_eq C dL_law_1564 2031 (by decide) 1567 rfl hf (fun c1564 hf => ?_) (fun c1564 hf => ?_)
  · refine A_iinc (v := (x4 + 6)) C dL_law_2031 4 rfl rfl [(4, .int (x4 + 6)), (0, .ref b), (1, .ref (K.2.1 x1)), (2, .ref (K.2.1 x2)), (3, .ref (K.2.1 x3))] (lt_nl hnl (by decide)) rfl 2034 rfl ?_
    refine A_goto C dL_law_2034 23 (by decide) ?_
    refine A_sub [1, 2, 3, 4, 0] (lv' := [(0, .ref b), (1, .ref (K.2.1 x1)), (2, .ref (K.2.1 x2)), (3, .ref (K.2.1 x3)), (4, .int (x4 + 6))]) rfl ?_
    exact Hself23 _ (Or.inl rfl) _ _ hf
  refine A_iconst (v := 0) C dL_law_1567 (by decide) 1568 rfl ?_
  exact A_lawret0 hf
set_option maxRecDepth 20000 in
theorem wL_law_b1569 {K : KX} {G : GX} {b : Nat} (C : Ok K G 800 cL_law R_law) (C2 : Ok K (bump G) 800 cL_law R_law) (hnl : G.2.2.2.2.2.2.2.2.2.2.2.2.2 = 7) (hnl2 : (bump G).2.2.2.2.2.2.2.2.2.2.2.2.2 = 7) {hv : HH} (E : EndL K G b) (E2 : EndL K (bump G) b) (F2 : ∀ xs L, ScrOK K G b xs L → ScrOK K (bump G) b xs L) {xs : Nat → Int32} {L : Nat} {x1 : Nat} {x2 : Nat} {x3 : Nat} {x4 : Int32} {self23 : Int32 → HH → Option (Bool × HH)} (Hself23 : ∀ G', (G' = G ∨ G' = bump G) → ∀ (x4 : Int32) (h : HH), self23 x4 h = some (true, hv) → At K G' 23 [(0, .ref b), (1, .ref (K.2.1 x1)), (2, .ref (K.2.1 x2)), (3, .ref (K.2.1 x3)), (4, .int x4)] [] h) (hXs : ScrOK K G b xs L) (kx1 : isK 8 x1) (kx2 : isK 9 x2) (kx3 : isK 12 x3) {h : HH} (hf : fL_law_b1569 self23 xs L x1 x2 x3 x4 h = some (true, hv)) : At K G 1569 [(0, .ref b), (1, .ref (K.2.1 x1)), (2, .ref (K.2.1 x2)), (3, .ref (K.2.1 x3)), (4, .int x4)] [] h := by
  unfold fL_law_b1569 at hf
  refine A_aload_n C dL_law_1569 (i := 1) rfl 1 rfl 1570 rfl ?_
  refine A_aload_n C dL_law_1570 (i := 0) rfl 0 rfl 1571 rfl ?_
  refine A_iload C dL_law_1571 4 rfl 1573 rfl ?_
  refine A_iconst (v := 1) C dL_law_1573 (by decide) 1574 rfl ?_
  refine A_iadd C dL_law_1574 1575 rfl ?_
  refine A_sld C hXs dL_law_1575 hf 1576 rfl (fun hf => ?_)
  refine CVi C dL_law_1576 8 kx1 (by decide) (r := (RX8, TX8, 19)) rfl rfl hf (fun _ _ e => mX8_rate kx1 e) lkR_law_186 (by decide) (by decide) rfl [] rfl (Nat.le_of_ble_eq_true rfl) 1579 rfl (fun r1576 h1576 hf => ?_)
  refine A_aload_n C dL_law_1579 (i := 2) rfl 2 rfl 1580 rfl ?_
  refine A_aload_n C dL_law_1580 (i := 0) rfl 0 rfl 1581 rfl ?_
  refine A_iload C dL_law_1581 4 rfl 1583 rfl ?_
  refine A_iconst (v := 1) C dL_law_1583 (by decide) 1584 rfl ?_
  refine A_iadd C dL_law_1584 1585 rfl ?_
  refine A_sld C hXs dL_law_1585 hf 1586 rfl (fun hf => ?_)
  refine CVi C dL_law_1586 9 kx2 (by decide) (r := (RX9, TX9, 44)) rfl rfl hf (fun _ _ e => mX9_rate kx2 e) lkR_law_189 (by decide) (by decide) rfl [.int r1576] rfl (Nat.le_of_ble_eq_true rfl) 1589 rfl (fun r1586 h1586 hf => ?_)
  refine A_icmp_eq C dL_law_1589 2031 (by decide) 1592 rfl hf (fun c1589 hf => ?_) (fun c1589 hf => ?_)
  · refine A_iinc (v := (x4 + 6)) C dL_law_2031 4 rfl rfl [(4, .int (x4 + 6)), (0, .ref b), (1, .ref (K.2.1 x1)), (2, .ref (K.2.1 x2)), (3, .ref (K.2.1 x3))] (lt_nl hnl (by decide)) rfl 2034 rfl ?_
    refine A_goto C dL_law_2034 23 (by decide) ?_
    refine A_sub [1, 2, 3, 4, 0] (lv' := [(0, .ref b), (1, .ref (K.2.1 x1)), (2, .ref (K.2.1 x2)), (3, .ref (K.2.1 x3)), (4, .int (x4 + 6))]) rfl ?_
    exact Hself23 _ (Or.inl rfl) _ _ hf
  refine A_iconst (v := 0) C dL_law_1592 (by decide) 1593 rfl ?_
  exact A_lawret0 hf
set_option maxRecDepth 20000 in
theorem wL_law_b1594 {K : KX} {G : GX} {b : Nat} (C : Ok K G 800 cL_law R_law) (C2 : Ok K (bump G) 800 cL_law R_law) (hnl : G.2.2.2.2.2.2.2.2.2.2.2.2.2 = 7) (hnl2 : (bump G).2.2.2.2.2.2.2.2.2.2.2.2.2 = 7) {hv : HH} (E : EndL K G b) (E2 : EndL K (bump G) b) (F2 : ∀ xs L, ScrOK K G b xs L → ScrOK K (bump G) b xs L) {xs : Nat → Int32} {L : Nat} {x1 : Nat} {x2 : Nat} {x3 : Nat} {x4 : Int32} {self23 : Int32 → HH → Option (Bool × HH)} (Hself23 : ∀ G', (G' = G ∨ G' = bump G) → ∀ (x4 : Int32) (h : HH), self23 x4 h = some (true, hv) → At K G' 23 [(0, .ref b), (1, .ref (K.2.1 x1)), (2, .ref (K.2.1 x2)), (3, .ref (K.2.1 x3)), (4, .int x4)] [] h) (hXs : ScrOK K G b xs L) (kx1 : isK 8 x1) (kx2 : isK 9 x2) (kx3 : isK 12 x3) {h : HH} (hf : fL_law_b1594 self23 xs L x1 x2 x3 x4 h = some (true, hv)) : At K G 1594 [(0, .ref b), (1, .ref (K.2.1 x1)), (2, .ref (K.2.1 x2)), (3, .ref (K.2.1 x3)), (4, .int x4)] [] h := by
  unfold fL_law_b1594 at hf
  refine A_aload_n C dL_law_1594 (i := 1) rfl 1 rfl 1595 rfl ?_
  refine A_aload_n C dL_law_1595 (i := 0) rfl 0 rfl 1596 rfl ?_
  refine A_iload C dL_law_1596 4 rfl 1598 rfl ?_
  refine A_iconst (v := 1) C dL_law_1598 (by decide) 1599 rfl ?_
  refine A_iadd C dL_law_1599 1600 rfl ?_
  refine A_sld C hXs dL_law_1600 hf 1601 rfl (fun hf => ?_)
  refine A_aload_n C dL_law_1601 (i := 0) rfl 0 rfl 1602 rfl ?_
  refine A_iload C dL_law_1602 4 rfl 1604 rfl ?_
  refine A_iconst (v := 2) C dL_law_1604 (by decide) 1605 rfl ?_
  refine A_iadd C dL_law_1605 1606 rfl ?_
  refine A_sld C hXs dL_law_1606 hf 1607 rfl (fun hf => ?_)
  refine A_aload_n C dL_law_1607 (i := 0) rfl 0 rfl 1608 rfl ?_
  refine A_iload C dL_law_1608 4 rfl 1610 rfl ?_
  refine A_iconst (v := 3) C dL_law_1610 (by decide) 1611 rfl ?_
  refine A_iadd C dL_law_1611 1612 rfl ?_
  refine A_sld C hXs dL_law_1612 hf 1613 rfl (fun hf => ?_)
  refine A_aload_n C dL_law_1613 (i := 0) rfl 0 rfl 1614 rfl ?_
  refine A_iload C dL_law_1614 4 rfl 1616 rfl ?_
  refine A_iconst (v := 4) C dL_law_1616 (by decide) 1617 rfl ?_
  refine A_iadd C dL_law_1617 1618 rfl ?_
  refine A_sld C hXs dL_law_1618 hf 1619 rfl (fun hf => ?_)
  refine A_if_eq C dL_law_1619 1626 (by decide) 1622 rfl hf (fun c1619 hf => ?_) (fun c1619 hf => ?_)
  · refine A_iconst (v := 0) C dL_law_1626 (by decide) 1627 rfl ?_
    refine CVl C dL_law_1627 8 kx1 (by decide) (r := (RX8, TX8, 19)) rfl rfl hf (fun _ _ e => mX8_waking kx1 e) lkR_law_190 (by decide) (by decide) rfl [] rfl (Nat.le_of_ble_eq_true rfl) 1630 rfl (fun r1627 h1627 hf => ?_)
    refine A_aload_n C dL_law_1630 (i := 2) rfl 2 rfl 1631 rfl ?_
    refine A_aload_n C dL_law_1631 (i := 0) rfl 0 rfl 1632 rfl ?_
    refine A_iload C dL_law_1632 4 rfl 1634 rfl ?_
    refine A_iconst (v := 1) C dL_law_1634 (by decide) 1635 rfl ?_
    refine A_iadd C dL_law_1635 1636 rfl ?_
    refine A_sld C hXs dL_law_1636 hf 1637 rfl (fun hf => ?_)
    refine A_aload_n C dL_law_1637 (i := 0) rfl 0 rfl 1638 rfl ?_
    refine A_iload C dL_law_1638 4 rfl 1640 rfl ?_
    refine A_iconst (v := 2) C dL_law_1640 (by decide) 1641 rfl ?_
    refine A_iadd C dL_law_1641 1642 rfl ?_
    refine A_sld C hXs dL_law_1642 hf 1643 rfl (fun hf => ?_)
    refine A_aload_n C dL_law_1643 (i := 0) rfl 0 rfl 1644 rfl ?_
    refine A_iload C dL_law_1644 4 rfl 1646 rfl ?_
    refine A_iconst (v := 3) C dL_law_1646 (by decide) 1647 rfl ?_
    refine A_iadd C dL_law_1647 1648 rfl ?_
    refine A_sld C hXs dL_law_1648 hf 1649 rfl (fun hf => ?_)
    refine A_aload_n C dL_law_1649 (i := 0) rfl 0 rfl 1650 rfl ?_
    refine A_iload C dL_law_1650 4 rfl 1652 rfl ?_
    refine A_iconst (v := 4) C dL_law_1652 (by decide) 1653 rfl ?_
    refine A_iadd C dL_law_1653 1654 rfl ?_
    refine A_sld C hXs dL_law_1654 hf 1655 rfl (fun hf => ?_)
    refine A_if_eq C dL_law_1655 1662 (by decide) 1658 rfl hf (fun c1655 hf => ?_) (fun c1655 hf => ?_)
    · refine A_iconst (v := 0) C dL_law_1662 (by decide) 1663 rfl ?_
      refine CVl C dL_law_1663 9 kx2 (by decide) (r := (RX9, TX9, 44)) rfl rfl hf (fun _ _ e => mX9_waking kx2 e) lkR_law_193 (by decide) (by decide) rfl [.long r1627] rfl (Nat.le_of_ble_eq_true rfl) 1666 rfl (fun r1663 h1663 hf => ?_)
      refine A_l_eq C dL_law_1666 dL_law_1667 2031 (by decide) 1670 rfl hf (fun c1666 hf => ?_) (fun c1666 hf => ?_)
      · refine A_iinc (v := (x4 + 6)) C dL_law_2031 4 rfl rfl [(4, .int (x4 + 6)), (0, .ref b), (1, .ref (K.2.1 x1)), (2, .ref (K.2.1 x2)), (3, .ref (K.2.1 x3))] (lt_nl hnl (by decide)) rfl 2034 rfl ?_
        refine A_goto C dL_law_2034 23 (by decide) ?_
        refine A_sub [1, 2, 3, 4, 0] (lv' := [(0, .ref b), (1, .ref (K.2.1 x1)), (2, .ref (K.2.1 x2)), (3, .ref (K.2.1 x3)), (4, .int (x4 + 6))]) rfl ?_
        exact Hself23 _ (Or.inl rfl) _ _ hf
      refine A_iconst (v := 0) C dL_law_1670 (by decide) 1671 rfl ?_
      exact A_lawret0 hf
    refine A_iconst (v := 1) C dL_law_1658 (by decide) 1659 rfl ?_
    refine A_goto C dL_law_1659 1663 (by decide) ?_
    refine CVl C dL_law_1663 9 kx2 (by decide) (r := (RX9, TX9, 44)) rfl rfl hf (fun _ _ e => mX9_waking kx2 e) lkR_law_193 (by decide) (by decide) rfl [.long r1627] rfl (Nat.le_of_ble_eq_true rfl) 1666 rfl (fun r1663 h1663 hf => ?_)
    refine A_l_eq C dL_law_1666 dL_law_1667 2031 (by decide) 1670 rfl hf (fun c1666 hf => ?_) (fun c1666 hf => ?_)
    · refine A_iinc (v := (x4 + 6)) C dL_law_2031 4 rfl rfl [(4, .int (x4 + 6)), (0, .ref b), (1, .ref (K.2.1 x1)), (2, .ref (K.2.1 x2)), (3, .ref (K.2.1 x3))] (lt_nl hnl (by decide)) rfl 2034 rfl ?_
      refine A_goto C dL_law_2034 23 (by decide) ?_
      refine A_sub [1, 2, 3, 4, 0] (lv' := [(0, .ref b), (1, .ref (K.2.1 x1)), (2, .ref (K.2.1 x2)), (3, .ref (K.2.1 x3)), (4, .int (x4 + 6))]) rfl ?_
      exact Hself23 _ (Or.inl rfl) _ _ hf
    refine A_iconst (v := 0) C dL_law_1670 (by decide) 1671 rfl ?_
    exact A_lawret0 hf
  refine A_iconst (v := 1) C dL_law_1622 (by decide) 1623 rfl ?_
  refine A_goto C dL_law_1623 1627 (by decide) ?_
  refine CVl C dL_law_1627 8 kx1 (by decide) (r := (RX8, TX8, 19)) rfl rfl hf (fun _ _ e => mX8_waking kx1 e) lkR_law_190 (by decide) (by decide) rfl [] rfl (Nat.le_of_ble_eq_true rfl) 1630 rfl (fun r1627 h1627 hf => ?_)
  refine A_aload_n C dL_law_1630 (i := 2) rfl 2 rfl 1631 rfl ?_
  refine A_aload_n C dL_law_1631 (i := 0) rfl 0 rfl 1632 rfl ?_
  refine A_iload C dL_law_1632 4 rfl 1634 rfl ?_
  refine A_iconst (v := 1) C dL_law_1634 (by decide) 1635 rfl ?_
  refine A_iadd C dL_law_1635 1636 rfl ?_
  refine A_sld C hXs dL_law_1636 hf 1637 rfl (fun hf => ?_)
  refine A_aload_n C dL_law_1637 (i := 0) rfl 0 rfl 1638 rfl ?_
  refine A_iload C dL_law_1638 4 rfl 1640 rfl ?_
  refine A_iconst (v := 2) C dL_law_1640 (by decide) 1641 rfl ?_
  refine A_iadd C dL_law_1641 1642 rfl ?_
  refine A_sld C hXs dL_law_1642 hf 1643 rfl (fun hf => ?_)
  refine A_aload_n C dL_law_1643 (i := 0) rfl 0 rfl 1644 rfl ?_
  refine A_iload C dL_law_1644 4 rfl 1646 rfl ?_
  refine A_iconst (v := 3) C dL_law_1646 (by decide) 1647 rfl ?_
  refine A_iadd C dL_law_1647 1648 rfl ?_
  refine A_sld C hXs dL_law_1648 hf 1649 rfl (fun hf => ?_)
  refine A_aload_n C dL_law_1649 (i := 0) rfl 0 rfl 1650 rfl ?_
  refine A_iload C dL_law_1650 4 rfl 1652 rfl ?_
  refine A_iconst (v := 4) C dL_law_1652 (by decide) 1653 rfl ?_
  refine A_iadd C dL_law_1653 1654 rfl ?_
  refine A_sld C hXs dL_law_1654 hf 1655 rfl (fun hf => ?_)
  refine A_if_eq C dL_law_1655 1662 (by decide) 1658 rfl hf (fun c1655 hf => ?_) (fun c1655 hf => ?_)
  · refine A_iconst (v := 0) C dL_law_1662 (by decide) 1663 rfl ?_
    refine CVl C dL_law_1663 9 kx2 (by decide) (r := (RX9, TX9, 44)) rfl rfl hf (fun _ _ e => mX9_waking kx2 e) lkR_law_193 (by decide) (by decide) rfl [.long r1627] rfl (Nat.le_of_ble_eq_true rfl) 1666 rfl (fun r1663 h1663 hf => ?_)
    refine A_l_eq C dL_law_1666 dL_law_1667 2031 (by decide) 1670 rfl hf (fun c1666 hf => ?_) (fun c1666 hf => ?_)
    · refine A_iinc (v := (x4 + 6)) C dL_law_2031 4 rfl rfl [(4, .int (x4 + 6)), (0, .ref b), (1, .ref (K.2.1 x1)), (2, .ref (K.2.1 x2)), (3, .ref (K.2.1 x3))] (lt_nl hnl (by decide)) rfl 2034 rfl ?_
      refine A_goto C dL_law_2034 23 (by decide) ?_
      refine A_sub [1, 2, 3, 4, 0] (lv' := [(0, .ref b), (1, .ref (K.2.1 x1)), (2, .ref (K.2.1 x2)), (3, .ref (K.2.1 x3)), (4, .int (x4 + 6))]) rfl ?_
      exact Hself23 _ (Or.inl rfl) _ _ hf
    refine A_iconst (v := 0) C dL_law_1670 (by decide) 1671 rfl ?_
    exact A_lawret0 hf
  refine A_iconst (v := 1) C dL_law_1658 (by decide) 1659 rfl ?_
  refine A_goto C dL_law_1659 1663 (by decide) ?_
  refine CVl C dL_law_1663 9 kx2 (by decide) (r := (RX9, TX9, 44)) rfl rfl hf (fun _ _ e => mX9_waking kx2 e) lkR_law_193 (by decide) (by decide) rfl [.long r1627] rfl (Nat.le_of_ble_eq_true rfl) 1666 rfl (fun r1663 h1663 hf => ?_)
  refine A_l_eq C dL_law_1666 dL_law_1667 2031 (by decide) 1670 rfl hf (fun c1666 hf => ?_) (fun c1666 hf => ?_)
  · refine A_iinc (v := (x4 + 6)) C dL_law_2031 4 rfl rfl [(4, .int (x4 + 6)), (0, .ref b), (1, .ref (K.2.1 x1)), (2, .ref (K.2.1 x2)), (3, .ref (K.2.1 x3))] (lt_nl hnl (by decide)) rfl 2034 rfl ?_
    refine A_goto C dL_law_2034 23 (by decide) ?_
    refine A_sub [1, 2, 3, 4, 0] (lv' := [(0, .ref b), (1, .ref (K.2.1 x1)), (2, .ref (K.2.1 x2)), (3, .ref (K.2.1 x3)), (4, .int (x4 + 6))]) rfl ?_
    exact Hself23 _ (Or.inl rfl) _ _ hf
  refine A_iconst (v := 0) C dL_law_1670 (by decide) 1671 rfl ?_
  exact A_lawret0 hf
set_option maxRecDepth 20000 in
theorem wL_law_b1672 {K : KX} {G : GX} {b : Nat} (C : Ok K G 800 cL_law R_law) (C2 : Ok K (bump G) 800 cL_law R_law) (hnl : G.2.2.2.2.2.2.2.2.2.2.2.2.2 = 7) (hnl2 : (bump G).2.2.2.2.2.2.2.2.2.2.2.2.2 = 7) {hv : HH} (E : EndL K G b) (E2 : EndL K (bump G) b) (F2 : ∀ xs L, ScrOK K G b xs L → ScrOK K (bump G) b xs L) {xs : Nat → Int32} {L : Nat} {x1 : Nat} {x2 : Nat} {x3 : Nat} {x4 : Int32} {self23 : Int32 → HH → Option (Bool × HH)} (Hself23 : ∀ G', (G' = G ∨ G' = bump G) → ∀ (x4 : Int32) (h : HH), self23 x4 h = some (true, hv) → At K G' 23 [(0, .ref b), (1, .ref (K.2.1 x1)), (2, .ref (K.2.1 x2)), (3, .ref (K.2.1 x3)), (4, .int x4)] [] h) (hXs : ScrOK K G b xs L) (kx1 : isK 8 x1) (kx2 : isK 9 x2) (kx3 : isK 12 x3) {h : HH} (hf : fL_law_b1672 self23 xs L x1 x2 x3 x4 h = some (true, hv)) : At K G 1672 [(0, .ref b), (1, .ref (K.2.1 x1)), (2, .ref (K.2.1 x2)), (3, .ref (K.2.1 x3)), (4, .int x4)] [] h := by
  unfold fL_law_b1672 at hf
  refine A_aload_n C dL_law_1672 (i := 1) rfl 1 rfl 1673 rfl ?_
  refine A_aload_n C dL_law_1673 (i := 0) rfl 0 rfl 1674 rfl ?_
  refine A_iload C dL_law_1674 4 rfl 1676 rfl ?_
  refine A_iconst (v := 1) C dL_law_1676 (by decide) 1677 rfl ?_
  refine A_iadd C dL_law_1677 1678 rfl ?_
  refine A_sld C hXs dL_law_1678 hf 1679 rfl (fun hf => ?_)
  refine A_aload_n C dL_law_1679 (i := 0) rfl 0 rfl 1680 rfl ?_
  refine A_iload C dL_law_1680 4 rfl 1682 rfl ?_
  refine A_iconst (v := 2) C dL_law_1682 (by decide) 1683 rfl ?_
  refine A_iadd C dL_law_1683 1684 rfl ?_
  refine A_sld C hXs dL_law_1684 hf 1685 rfl (fun hf => ?_)
  refine A_aload_n C dL_law_1685 (i := 0) rfl 0 rfl 1686 rfl ?_
  refine A_iload C dL_law_1686 4 rfl 1688 rfl ?_
  refine A_iconst (v := 3) C dL_law_1688 (by decide) 1689 rfl ?_
  refine A_iadd C dL_law_1689 1690 rfl ?_
  refine A_sld C hXs dL_law_1690 hf 1691 rfl (fun hf => ?_)
  refine A_if_eq C dL_law_1691 1698 (by decide) 1694 rfl hf (fun c1691 hf => ?_) (fun c1691 hf => ?_)
  · refine A_iconst (v := 0) C dL_law_1698 (by decide) 1699 rfl ?_
    refine CVl C dL_law_1699 8 kx1 (by decide) (r := (RX8, TX8, 19)) rfl rfl hf (fun _ _ e => mX8_mean kx1 e) lkR_law_194 (by decide) (by decide) rfl [] rfl (Nat.le_of_ble_eq_true rfl) 1702 rfl (fun r1699 h1699 hf => ?_)
    refine A_aload_n C dL_law_1702 (i := 2) rfl 2 rfl 1703 rfl ?_
    refine A_aload_n C dL_law_1703 (i := 0) rfl 0 rfl 1704 rfl ?_
    refine A_iload C dL_law_1704 4 rfl 1706 rfl ?_
    refine A_iconst (v := 1) C dL_law_1706 (by decide) 1707 rfl ?_
    refine A_iadd C dL_law_1707 1708 rfl ?_
    refine A_sld C hXs dL_law_1708 hf 1709 rfl (fun hf => ?_)
    refine A_aload_n C dL_law_1709 (i := 0) rfl 0 rfl 1710 rfl ?_
    refine A_iload C dL_law_1710 4 rfl 1712 rfl ?_
    refine A_iconst (v := 2) C dL_law_1712 (by decide) 1713 rfl ?_
    refine A_iadd C dL_law_1713 1714 rfl ?_
    refine A_sld C hXs dL_law_1714 hf 1715 rfl (fun hf => ?_)
    refine A_aload_n C dL_law_1715 (i := 0) rfl 0 rfl 1716 rfl ?_
    refine A_iload C dL_law_1716 4 rfl 1718 rfl ?_
    refine A_iconst (v := 3) C dL_law_1718 (by decide) 1719 rfl ?_
    refine A_iadd C dL_law_1719 1720 rfl ?_
    refine A_sld C hXs dL_law_1720 hf 1721 rfl (fun hf => ?_)
    refine A_if_eq C dL_law_1721 1728 (by decide) 1724 rfl hf (fun c1721 hf => ?_) (fun c1721 hf => ?_)
    · refine A_iconst (v := 0) C dL_law_1728 (by decide) 1729 rfl ?_
      refine CVl C dL_law_1729 9 kx2 (by decide) (r := (RX9, TX9, 44)) rfl rfl hf (fun _ _ e => mX9_mean kx2 e) lkR_law_198 (by decide) (by decide) rfl [.long r1699] rfl (Nat.le_of_ble_eq_true rfl) 1732 rfl (fun r1729 h1729 hf => ?_)
      refine A_l_eq C dL_law_1732 dL_law_1733 2031 (by decide) 1736 rfl hf (fun c1732 hf => ?_) (fun c1732 hf => ?_)
      · refine A_iinc (v := (x4 + 6)) C dL_law_2031 4 rfl rfl [(4, .int (x4 + 6)), (0, .ref b), (1, .ref (K.2.1 x1)), (2, .ref (K.2.1 x2)), (3, .ref (K.2.1 x3))] (lt_nl hnl (by decide)) rfl 2034 rfl ?_
        refine A_goto C dL_law_2034 23 (by decide) ?_
        refine A_sub [1, 2, 3, 4, 0] (lv' := [(0, .ref b), (1, .ref (K.2.1 x1)), (2, .ref (K.2.1 x2)), (3, .ref (K.2.1 x3)), (4, .int (x4 + 6))]) rfl ?_
        exact Hself23 _ (Or.inl rfl) _ _ hf
      refine A_iconst (v := 0) C dL_law_1736 (by decide) 1737 rfl ?_
      exact A_lawret0 hf
    refine A_iconst (v := 1) C dL_law_1724 (by decide) 1725 rfl ?_
    refine A_goto C dL_law_1725 1729 (by decide) ?_
    refine CVl C dL_law_1729 9 kx2 (by decide) (r := (RX9, TX9, 44)) rfl rfl hf (fun _ _ e => mX9_mean kx2 e) lkR_law_198 (by decide) (by decide) rfl [.long r1699] rfl (Nat.le_of_ble_eq_true rfl) 1732 rfl (fun r1729 h1729 hf => ?_)
    refine A_l_eq C dL_law_1732 dL_law_1733 2031 (by decide) 1736 rfl hf (fun c1732 hf => ?_) (fun c1732 hf => ?_)
    · refine A_iinc (v := (x4 + 6)) C dL_law_2031 4 rfl rfl [(4, .int (x4 + 6)), (0, .ref b), (1, .ref (K.2.1 x1)), (2, .ref (K.2.1 x2)), (3, .ref (K.2.1 x3))] (lt_nl hnl (by decide)) rfl 2034 rfl ?_
      refine A_goto C dL_law_2034 23 (by decide) ?_
      refine A_sub [1, 2, 3, 4, 0] (lv' := [(0, .ref b), (1, .ref (K.2.1 x1)), (2, .ref (K.2.1 x2)), (3, .ref (K.2.1 x3)), (4, .int (x4 + 6))]) rfl ?_
      exact Hself23 _ (Or.inl rfl) _ _ hf
    refine A_iconst (v := 0) C dL_law_1736 (by decide) 1737 rfl ?_
    exact A_lawret0 hf
  refine A_iconst (v := 1) C dL_law_1694 (by decide) 1695 rfl ?_
  refine A_goto C dL_law_1695 1699 (by decide) ?_
  refine CVl C dL_law_1699 8 kx1 (by decide) (r := (RX8, TX8, 19)) rfl rfl hf (fun _ _ e => mX8_mean kx1 e) lkR_law_194 (by decide) (by decide) rfl [] rfl (Nat.le_of_ble_eq_true rfl) 1702 rfl (fun r1699 h1699 hf => ?_)
  refine A_aload_n C dL_law_1702 (i := 2) rfl 2 rfl 1703 rfl ?_
  refine A_aload_n C dL_law_1703 (i := 0) rfl 0 rfl 1704 rfl ?_
  refine A_iload C dL_law_1704 4 rfl 1706 rfl ?_
  refine A_iconst (v := 1) C dL_law_1706 (by decide) 1707 rfl ?_
  refine A_iadd C dL_law_1707 1708 rfl ?_
  refine A_sld C hXs dL_law_1708 hf 1709 rfl (fun hf => ?_)
  refine A_aload_n C dL_law_1709 (i := 0) rfl 0 rfl 1710 rfl ?_
  refine A_iload C dL_law_1710 4 rfl 1712 rfl ?_
  refine A_iconst (v := 2) C dL_law_1712 (by decide) 1713 rfl ?_
  refine A_iadd C dL_law_1713 1714 rfl ?_
  refine A_sld C hXs dL_law_1714 hf 1715 rfl (fun hf => ?_)
  refine A_aload_n C dL_law_1715 (i := 0) rfl 0 rfl 1716 rfl ?_
  refine A_iload C dL_law_1716 4 rfl 1718 rfl ?_
  refine A_iconst (v := 3) C dL_law_1718 (by decide) 1719 rfl ?_
  refine A_iadd C dL_law_1719 1720 rfl ?_
  refine A_sld C hXs dL_law_1720 hf 1721 rfl (fun hf => ?_)
  refine A_if_eq C dL_law_1721 1728 (by decide) 1724 rfl hf (fun c1721 hf => ?_) (fun c1721 hf => ?_)
  · refine A_iconst (v := 0) C dL_law_1728 (by decide) 1729 rfl ?_
    refine CVl C dL_law_1729 9 kx2 (by decide) (r := (RX9, TX9, 44)) rfl rfl hf (fun _ _ e => mX9_mean kx2 e) lkR_law_198 (by decide) (by decide) rfl [.long r1699] rfl (Nat.le_of_ble_eq_true rfl) 1732 rfl (fun r1729 h1729 hf => ?_)
    refine A_l_eq C dL_law_1732 dL_law_1733 2031 (by decide) 1736 rfl hf (fun c1732 hf => ?_) (fun c1732 hf => ?_)
    · refine A_iinc (v := (x4 + 6)) C dL_law_2031 4 rfl rfl [(4, .int (x4 + 6)), (0, .ref b), (1, .ref (K.2.1 x1)), (2, .ref (K.2.1 x2)), (3, .ref (K.2.1 x3))] (lt_nl hnl (by decide)) rfl 2034 rfl ?_
      refine A_goto C dL_law_2034 23 (by decide) ?_
      refine A_sub [1, 2, 3, 4, 0] (lv' := [(0, .ref b), (1, .ref (K.2.1 x1)), (2, .ref (K.2.1 x2)), (3, .ref (K.2.1 x3)), (4, .int (x4 + 6))]) rfl ?_
      exact Hself23 _ (Or.inl rfl) _ _ hf
    refine A_iconst (v := 0) C dL_law_1736 (by decide) 1737 rfl ?_
    exact A_lawret0 hf
  refine A_iconst (v := 1) C dL_law_1724 (by decide) 1725 rfl ?_
  refine A_goto C dL_law_1725 1729 (by decide) ?_
  refine CVl C dL_law_1729 9 kx2 (by decide) (r := (RX9, TX9, 44)) rfl rfl hf (fun _ _ e => mX9_mean kx2 e) lkR_law_198 (by decide) (by decide) rfl [.long r1699] rfl (Nat.le_of_ble_eq_true rfl) 1732 rfl (fun r1729 h1729 hf => ?_)
  refine A_l_eq C dL_law_1732 dL_law_1733 2031 (by decide) 1736 rfl hf (fun c1732 hf => ?_) (fun c1732 hf => ?_)
  · refine A_iinc (v := (x4 + 6)) C dL_law_2031 4 rfl rfl [(4, .int (x4 + 6)), (0, .ref b), (1, .ref (K.2.1 x1)), (2, .ref (K.2.1 x2)), (3, .ref (K.2.1 x3))] (lt_nl hnl (by decide)) rfl 2034 rfl ?_
    refine A_goto C dL_law_2034 23 (by decide) ?_
    refine A_sub [1, 2, 3, 4, 0] (lv' := [(0, .ref b), (1, .ref (K.2.1 x1)), (2, .ref (K.2.1 x2)), (3, .ref (K.2.1 x3)), (4, .int (x4 + 6))]) rfl ?_
    exact Hself23 _ (Or.inl rfl) _ _ hf
  refine A_iconst (v := 0) C dL_law_1736 (by decide) 1737 rfl ?_
  exact A_lawret0 hf
set_option maxRecDepth 20000 in
theorem wL_law_b1738 {K : KX} {G : GX} {b : Nat} (C : Ok K G 800 cL_law R_law) (C2 : Ok K (bump G) 800 cL_law R_law) (hnl : G.2.2.2.2.2.2.2.2.2.2.2.2.2 = 7) (hnl2 : (bump G).2.2.2.2.2.2.2.2.2.2.2.2.2 = 7) {hv : HH} (E : EndL K G b) (E2 : EndL K (bump G) b) (F2 : ∀ xs L, ScrOK K G b xs L → ScrOK K (bump G) b xs L) {xs : Nat → Int32} {L : Nat} {x1 : Nat} {x2 : Nat} {x3 : Nat} {x4 : Int32} {self23 : Int32 → HH → Option (Bool × HH)} (Hself23 : ∀ G', (G' = G ∨ G' = bump G) → ∀ (x4 : Int32) (h : HH), self23 x4 h = some (true, hv) → At K G' 23 [(0, .ref b), (1, .ref (K.2.1 x1)), (2, .ref (K.2.1 x2)), (3, .ref (K.2.1 x3)), (4, .int x4)] [] h) (hXs : ScrOK K G b xs L) (kx1 : isK 8 x1) (kx2 : isK 9 x2) (kx3 : isK 12 x3) {h : HH} (hf : fL_law_b1738 self23 xs L x1 x2 x3 x4 h = some (true, hv)) : At K G 1738 [(0, .ref b), (1, .ref (K.2.1 x1)), (2, .ref (K.2.1 x2)), (3, .ref (K.2.1 x3)), (4, .int x4)] [] h := by
  unfold fL_law_b1738 at hf
  refine A_aload_n C dL_law_1738 (i := 1) rfl 1 rfl 1739 rfl ?_
  refine A_aload_n C dL_law_1739 (i := 0) rfl 0 rfl 1740 rfl ?_
  refine A_iload C dL_law_1740 4 rfl 1742 rfl ?_
  refine A_iconst (v := 1) C dL_law_1742 (by decide) 1743 rfl ?_
  refine A_iadd C dL_law_1743 1744 rfl ?_
  refine A_sld C hXs dL_law_1744 hf 1745 rfl (fun hf => ?_)
  refine A_aload_n C dL_law_1745 (i := 0) rfl 0 rfl 1746 rfl ?_
  refine A_iload C dL_law_1746 4 rfl 1748 rfl ?_
  refine A_iconst (v := 2) C dL_law_1748 (by decide) 1749 rfl ?_
  refine A_iadd C dL_law_1749 1750 rfl ?_
  refine A_sld C hXs dL_law_1750 hf 1751 rfl (fun hf => ?_)
  refine CVi C dL_law_1751 8 kx1 (by decide) (r := (RX8, TX8, 19)) rfl rfl hf (fun _ _ e => mX8_pass kx1 e) lkR_law_199 (by decide) (by decide) rfl [] rfl (Nat.le_of_ble_eq_true rfl) 1754 rfl (fun r1751 h1751 hf => ?_)
  refine A_aload_n C dL_law_1754 (i := 2) rfl 2 rfl 1755 rfl ?_
  refine A_aload_n C dL_law_1755 (i := 0) rfl 0 rfl 1756 rfl ?_
  refine A_iload C dL_law_1756 4 rfl 1758 rfl ?_
  refine A_iconst (v := 1) C dL_law_1758 (by decide) 1759 rfl ?_
  refine A_iadd C dL_law_1759 1760 rfl ?_
  refine A_sld C hXs dL_law_1760 hf 1761 rfl (fun hf => ?_)
  refine A_aload_n C dL_law_1761 (i := 0) rfl 0 rfl 1762 rfl ?_
  refine A_iload C dL_law_1762 4 rfl 1764 rfl ?_
  refine A_iconst (v := 2) C dL_law_1764 (by decide) 1765 rfl ?_
  refine A_iadd C dL_law_1765 1766 rfl ?_
  refine A_sld C hXs dL_law_1766 hf 1767 rfl (fun hf => ?_)
  refine CVi C dL_law_1767 9 kx2 (by decide) (r := (RX9, TX9, 44)) rfl rfl hf (fun _ _ e => mX9_pass kx2 e) lkR_law_202 (by decide) (by decide) rfl [.int r1751] rfl (Nat.le_of_ble_eq_true rfl) 1770 rfl (fun r1767 h1767 hf => ?_)
  refine A_icmp_eq C dL_law_1770 2031 (by decide) 1773 rfl hf (fun c1770 hf => ?_) (fun c1770 hf => ?_)
  · refine A_iinc (v := (x4 + 6)) C dL_law_2031 4 rfl rfl [(4, .int (x4 + 6)), (0, .ref b), (1, .ref (K.2.1 x1)), (2, .ref (K.2.1 x2)), (3, .ref (K.2.1 x3))] (lt_nl hnl (by decide)) rfl 2034 rfl ?_
    refine A_goto C dL_law_2034 23 (by decide) ?_
    refine A_sub [1, 2, 3, 4, 0] (lv' := [(0, .ref b), (1, .ref (K.2.1 x1)), (2, .ref (K.2.1 x2)), (3, .ref (K.2.1 x3)), (4, .int (x4 + 6))]) rfl ?_
    exact Hself23 _ (Or.inl rfl) _ _ hf
  refine A_iconst (v := 0) C dL_law_1773 (by decide) 1774 rfl ?_
  exact A_lawret0 hf
set_option maxRecDepth 20000 in
theorem wL_law_b1775 {K : KX} {G : GX} {b : Nat} (C : Ok K G 800 cL_law R_law) (C2 : Ok K (bump G) 800 cL_law R_law) (hnl : G.2.2.2.2.2.2.2.2.2.2.2.2.2 = 7) (hnl2 : (bump G).2.2.2.2.2.2.2.2.2.2.2.2.2 = 7) {hv : HH} (E : EndL K G b) (E2 : EndL K (bump G) b) (F2 : ∀ xs L, ScrOK K G b xs L → ScrOK K (bump G) b xs L) {xs : Nat → Int32} {L : Nat} {x1 : Nat} {x2 : Nat} {x3 : Nat} {x4 : Int32} {self23 : Int32 → HH → Option (Bool × HH)} (Hself23 : ∀ G', (G' = G ∨ G' = bump G) → ∀ (x4 : Int32) (h : HH), self23 x4 h = some (true, hv) → At K G' 23 [(0, .ref b), (1, .ref (K.2.1 x1)), (2, .ref (K.2.1 x2)), (3, .ref (K.2.1 x3)), (4, .int x4)] [] h) (hXs : ScrOK K G b xs L) (kx1 : isK 8 x1) (kx2 : isK 9 x2) (kx3 : isK 12 x3) {h : HH} (hf : fL_law_b1775 self23 xs L x1 x2 x3 x4 h = some (true, hv)) : At K G 1775 [(0, .ref b), (1, .ref (K.2.1 x1)), (2, .ref (K.2.1 x2)), (3, .ref (K.2.1 x3)), (4, .int x4)] [] h := by
  unfold fL_law_b1775 at hf
  refine A_aload_n C dL_law_1775 (i := 1) rfl 1 rfl 1776 rfl ?_
  refine A_aload_n C dL_law_1776 (i := 0) rfl 0 rfl 1777 rfl ?_
  refine A_iload C dL_law_1777 4 rfl 1779 rfl ?_
  refine A_iconst (v := 1) C dL_law_1779 (by decide) 1780 rfl ?_
  refine A_iadd C dL_law_1780 1781 rfl ?_
  refine A_sld C hXs dL_law_1781 hf 1782 rfl (fun hf => ?_)
  refine A_aload_n C dL_law_1782 (i := 0) rfl 0 rfl 1783 rfl ?_
  refine A_iload C dL_law_1783 4 rfl 1785 rfl ?_
  refine A_iconst (v := 2) C dL_law_1785 (by decide) 1786 rfl ?_
  refine A_iadd C dL_law_1786 1787 rfl ?_
  refine A_sld C hXs dL_law_1787 hf 1788 rfl (fun hf => ?_)
  refine CVi C dL_law_1788 8 kx1 (by decide) (r := (RX8, TX8, 19)) rfl rfl hf (fun _ _ e => mX8_lie kx1 e) lkR_law_203 (by decide) (by decide) rfl [] rfl (Nat.le_of_ble_eq_true rfl) 1791 rfl (fun r1788 h1788 hf => ?_)
  refine A_aload_n C dL_law_1791 (i := 2) rfl 2 rfl 1792 rfl ?_
  refine A_aload_n C dL_law_1792 (i := 0) rfl 0 rfl 1793 rfl ?_
  refine A_iload C dL_law_1793 4 rfl 1795 rfl ?_
  refine A_iconst (v := 1) C dL_law_1795 (by decide) 1796 rfl ?_
  refine A_iadd C dL_law_1796 1797 rfl ?_
  refine A_sld C hXs dL_law_1797 hf 1798 rfl (fun hf => ?_)
  refine A_aload_n C dL_law_1798 (i := 0) rfl 0 rfl 1799 rfl ?_
  refine A_iload C dL_law_1799 4 rfl 1801 rfl ?_
  refine A_iconst (v := 2) C dL_law_1801 (by decide) 1802 rfl ?_
  refine A_iadd C dL_law_1802 1803 rfl ?_
  refine A_sld C hXs dL_law_1803 hf 1804 rfl (fun hf => ?_)
  refine CVi C dL_law_1804 9 kx2 (by decide) (r := (RX9, TX9, 44)) rfl rfl hf (fun _ _ e => mX9_lie kx2 e) lkR_law_206 (by decide) (by decide) rfl [.int r1788] rfl (Nat.le_of_ble_eq_true rfl) 1807 rfl (fun r1804 h1804 hf => ?_)
  refine A_icmp_eq C dL_law_1807 2031 (by decide) 1810 rfl hf (fun c1807 hf => ?_) (fun c1807 hf => ?_)
  · refine A_iinc (v := (x4 + 6)) C dL_law_2031 4 rfl rfl [(4, .int (x4 + 6)), (0, .ref b), (1, .ref (K.2.1 x1)), (2, .ref (K.2.1 x2)), (3, .ref (K.2.1 x3))] (lt_nl hnl (by decide)) rfl 2034 rfl ?_
    refine A_goto C dL_law_2034 23 (by decide) ?_
    refine A_sub [1, 2, 3, 4, 0] (lv' := [(0, .ref b), (1, .ref (K.2.1 x1)), (2, .ref (K.2.1 x2)), (3, .ref (K.2.1 x3)), (4, .int (x4 + 6))]) rfl ?_
    exact Hself23 _ (Or.inl rfl) _ _ hf
  refine A_iconst (v := 0) C dL_law_1810 (by decide) 1811 rfl ?_
  exact A_lawret0 hf
set_option maxRecDepth 20000 in
theorem wL_law_b1812 {K : KX} {G : GX} {b : Nat} (C : Ok K G 800 cL_law R_law) (C2 : Ok K (bump G) 800 cL_law R_law) (hnl : G.2.2.2.2.2.2.2.2.2.2.2.2.2 = 7) (hnl2 : (bump G).2.2.2.2.2.2.2.2.2.2.2.2.2 = 7) {hv : HH} (E : EndL K G b) (E2 : EndL K (bump G) b) (F2 : ∀ xs L, ScrOK K G b xs L → ScrOK K (bump G) b xs L) {xs : Nat → Int32} {L : Nat} {x1 : Nat} {x2 : Nat} {x3 : Nat} {x4 : Int32} {self23 : Int32 → HH → Option (Bool × HH)} (Hself23 : ∀ G', (G' = G ∨ G' = bump G) → ∀ (x4 : Int32) (h : HH), self23 x4 h = some (true, hv) → At K G' 23 [(0, .ref b), (1, .ref (K.2.1 x1)), (2, .ref (K.2.1 x2)), (3, .ref (K.2.1 x3)), (4, .int x4)] [] h) (hXs : ScrOK K G b xs L) (kx1 : isK 8 x1) (kx2 : isK 9 x2) (kx3 : isK 12 x3) {h : HH} (hf : fL_law_b1812 self23 xs L x1 x2 x3 x4 h = some (true, hv)) : At K G 1812 [(0, .ref b), (1, .ref (K.2.1 x1)), (2, .ref (K.2.1 x2)), (3, .ref (K.2.1 x3)), (4, .int x4)] [] h := by
  unfold fL_law_b1812 at hf
  refine A_aload_n C dL_law_1812 (i := 1) rfl 1 rfl 1813 rfl ?_
  refine A_aload_n C dL_law_1813 (i := 0) rfl 0 rfl 1814 rfl ?_
  refine A_iload C dL_law_1814 4 rfl 1816 rfl ?_
  refine A_iconst (v := 1) C dL_law_1816 (by decide) 1817 rfl ?_
  refine A_iadd C dL_law_1817 1818 rfl ?_
  refine A_sld C hXs dL_law_1818 hf 1819 rfl (fun hf => ?_)
  refine CVi C dL_law_1819 8 kx1 (by decide) (r := (RX8, TX8, 19)) rfl rfl hf (fun _ _ e => mX8_wake kx1 e) lkR_law_207 (by decide) (by decide) rfl [] rfl (Nat.le_of_ble_eq_true rfl) 1822 rfl (fun r1819 h1819 hf => ?_)
  refine A_aload_n C dL_law_1822 (i := 2) rfl 2 rfl 1823 rfl ?_
  refine A_aload_n C dL_law_1823 (i := 0) rfl 0 rfl 1824 rfl ?_
  refine A_iload C dL_law_1824 4 rfl 1826 rfl ?_
  refine A_iconst (v := 1) C dL_law_1826 (by decide) 1827 rfl ?_
  refine A_iadd C dL_law_1827 1828 rfl ?_
  refine A_sld C hXs dL_law_1828 hf 1829 rfl (fun hf => ?_)
  refine CVi C dL_law_1829 9 kx2 (by decide) (r := (RX9, TX9, 44)) rfl rfl hf (fun _ _ e => mX9_wake kx2 e) lkR_law_210 (by decide) (by decide) rfl [.int r1819] rfl (Nat.le_of_ble_eq_true rfl) 1832 rfl (fun r1829 h1829 hf => ?_)
  refine A_icmp_eq C dL_law_1832 2031 (by decide) 1835 rfl hf (fun c1832 hf => ?_) (fun c1832 hf => ?_)
  · refine A_iinc (v := (x4 + 6)) C dL_law_2031 4 rfl rfl [(4, .int (x4 + 6)), (0, .ref b), (1, .ref (K.2.1 x1)), (2, .ref (K.2.1 x2)), (3, .ref (K.2.1 x3))] (lt_nl hnl (by decide)) rfl 2034 rfl ?_
    refine A_goto C dL_law_2034 23 (by decide) ?_
    refine A_sub [1, 2, 3, 4, 0] (lv' := [(0, .ref b), (1, .ref (K.2.1 x1)), (2, .ref (K.2.1 x2)), (3, .ref (K.2.1 x3)), (4, .int (x4 + 6))]) rfl ?_
    exact Hself23 _ (Or.inl rfl) _ _ hf
  refine A_iconst (v := 0) C dL_law_1835 (by decide) 1836 rfl ?_
  exact A_lawret0 hf
set_option maxRecDepth 20000 in
theorem wL_law_b1837 {K : KX} {G : GX} {b : Nat} (C : Ok K G 800 cL_law R_law) (C2 : Ok K (bump G) 800 cL_law R_law) (hnl : G.2.2.2.2.2.2.2.2.2.2.2.2.2 = 7) (hnl2 : (bump G).2.2.2.2.2.2.2.2.2.2.2.2.2 = 7) {hv : HH} (E : EndL K G b) (E2 : EndL K (bump G) b) (F2 : ∀ xs L, ScrOK K G b xs L → ScrOK K (bump G) b xs L) {xs : Nat → Int32} {L : Nat} {x1 : Nat} {x2 : Nat} {x3 : Nat} {x4 : Int32} {self23 : Int32 → HH → Option (Bool × HH)} (Hself23 : ∀ G', (G' = G ∨ G' = bump G) → ∀ (x4 : Int32) (h : HH), self23 x4 h = some (true, hv) → At K G' 23 [(0, .ref b), (1, .ref (K.2.1 x1)), (2, .ref (K.2.1 x2)), (3, .ref (K.2.1 x3)), (4, .int x4)] [] h) (hXs : ScrOK K G b xs L) (kx1 : isK 8 x1) (kx2 : isK 9 x2) (kx3 : isK 12 x3) {h : HH} (hf : fL_law_b1837 self23 xs L x1 x2 x3 x4 h = some (true, hv)) : At K G 1837 [(0, .ref b), (1, .ref (K.2.1 x1)), (2, .ref (K.2.1 x2)), (3, .ref (K.2.1 x3)), (4, .int x4)] [] h := by
  unfold fL_law_b1837 at hf
  refine A_aload_n C dL_law_1837 (i := 1) rfl 1 rfl 1838 rfl ?_
  refine A_aload_n C dL_law_1838 (i := 0) rfl 0 rfl 1839 rfl ?_
  refine A_iload C dL_law_1839 4 rfl 1841 rfl ?_
  refine A_iconst (v := 1) C dL_law_1841 (by decide) 1842 rfl ?_
  refine A_iadd C dL_law_1842 1843 rfl ?_
  refine A_sld C hXs dL_law_1843 hf 1844 rfl (fun hf => ?_)
  refine A_aload_n C dL_law_1844 (i := 0) rfl 0 rfl 1845 rfl ?_
  refine A_iload C dL_law_1845 4 rfl 1847 rfl ?_
  refine A_iconst (v := 2) C dL_law_1847 (by decide) 1848 rfl ?_
  refine A_iadd C dL_law_1848 1849 rfl ?_
  refine A_sld C hXs dL_law_1849 hf 1850 rfl (fun hf => ?_)
  refine A_aload_n C dL_law_1850 (i := 0) rfl 0 rfl 1851 rfl ?_
  refine A_iload C dL_law_1851 4 rfl 1853 rfl ?_
  refine A_iconst (v := 3) C dL_law_1853 (by decide) 1854 rfl ?_
  refine A_iadd C dL_law_1854 1855 rfl ?_
  refine A_sld C hXs dL_law_1855 hf 1856 rfl (fun hf => ?_)
  refine CVi C dL_law_1856 8 kx1 (by decide) (r := (RX8, TX8, 19)) rfl rfl hf (fun _ _ e => mX8_knock kx1 e) lkR_law_211 (by decide) (by decide) rfl [] rfl (Nat.le_of_ble_eq_true rfl) 1859 rfl (fun r1856 h1856 hf => ?_)
  refine A_aload_n C dL_law_1859 (i := 2) rfl 2 rfl 1860 rfl ?_
  refine A_aload_n C dL_law_1860 (i := 0) rfl 0 rfl 1861 rfl ?_
  refine A_iload C dL_law_1861 4 rfl 1863 rfl ?_
  refine A_iconst (v := 1) C dL_law_1863 (by decide) 1864 rfl ?_
  refine A_iadd C dL_law_1864 1865 rfl ?_
  refine A_sld C hXs dL_law_1865 hf 1866 rfl (fun hf => ?_)
  refine A_aload_n C dL_law_1866 (i := 0) rfl 0 rfl 1867 rfl ?_
  refine A_iload C dL_law_1867 4 rfl 1869 rfl ?_
  refine A_iconst (v := 2) C dL_law_1869 (by decide) 1870 rfl ?_
  refine A_iadd C dL_law_1870 1871 rfl ?_
  refine A_sld C hXs dL_law_1871 hf 1872 rfl (fun hf => ?_)
  refine A_aload_n C dL_law_1872 (i := 0) rfl 0 rfl 1873 rfl ?_
  refine A_iload C dL_law_1873 4 rfl 1875 rfl ?_
  refine A_iconst (v := 3) C dL_law_1875 (by decide) 1876 rfl ?_
  refine A_iadd C dL_law_1876 1877 rfl ?_
  refine A_sld C hXs dL_law_1877 hf 1878 rfl (fun hf => ?_)
  refine CVi C dL_law_1878 9 kx2 (by decide) (r := (RX9, TX9, 44)) rfl rfl hf (fun _ _ e => mX9_knock kx2 e) lkR_law_214 (by decide) (by decide) rfl [.int r1856] rfl (Nat.le_of_ble_eq_true rfl) 1881 rfl (fun r1878 h1878 hf => ?_)
  refine A_icmp_eq C dL_law_1881 2031 (by decide) 1884 rfl hf (fun c1881 hf => ?_) (fun c1881 hf => ?_)
  · refine A_iinc (v := (x4 + 6)) C dL_law_2031 4 rfl rfl [(4, .int (x4 + 6)), (0, .ref b), (1, .ref (K.2.1 x1)), (2, .ref (K.2.1 x2)), (3, .ref (K.2.1 x3))] (lt_nl hnl (by decide)) rfl 2034 rfl ?_
    refine A_goto C dL_law_2034 23 (by decide) ?_
    refine A_sub [1, 2, 3, 4, 0] (lv' := [(0, .ref b), (1, .ref (K.2.1 x1)), (2, .ref (K.2.1 x2)), (3, .ref (K.2.1 x3)), (4, .int (x4 + 6))]) rfl ?_
    exact Hself23 _ (Or.inl rfl) _ _ hf
  refine A_iconst (v := 0) C dL_law_1884 (by decide) 1885 rfl ?_
  exact A_lawret0 hf
set_option maxRecDepth 20000 in
theorem wL_law_b1886 {K : KX} {G : GX} {b : Nat} (C : Ok K G 800 cL_law R_law) (C2 : Ok K (bump G) 800 cL_law R_law) (hnl : G.2.2.2.2.2.2.2.2.2.2.2.2.2 = 7) (hnl2 : (bump G).2.2.2.2.2.2.2.2.2.2.2.2.2 = 7) {hv : HH} (E : EndL K G b) (E2 : EndL K (bump G) b) (F2 : ∀ xs L, ScrOK K G b xs L → ScrOK K (bump G) b xs L) {xs : Nat → Int32} {L : Nat} {x1 : Nat} {x2 : Nat} {x3 : Nat} {x4 : Int32} {self23 : Int32 → HH → Option (Bool × HH)} (Hself23 : ∀ G', (G' = G ∨ G' = bump G) → ∀ (x4 : Int32) (h : HH), self23 x4 h = some (true, hv) → At K G' 23 [(0, .ref b), (1, .ref (K.2.1 x1)), (2, .ref (K.2.1 x2)), (3, .ref (K.2.1 x3)), (4, .int x4)] [] h) (hXs : ScrOK K G b xs L) (kx1 : isK 8 x1) (kx2 : isK 9 x2) (kx3 : isK 12 x3) {h : HH} (hf : fL_law_b1886 self23 xs L x1 x2 x3 x4 h = some (true, hv)) : At K G 1886 [(0, .ref b), (1, .ref (K.2.1 x1)), (2, .ref (K.2.1 x2)), (3, .ref (K.2.1 x3)), (4, .int x4)] [] h := by
  unfold fL_law_b1886 at hf
  refine A_aload_n C dL_law_1886 (i := 1) rfl 1 rfl 1887 rfl ?_
  refine CVz C dL_law_1887 8 kx1 (by decide) (r := (RX8, TX8, 19)) rfl rfl hf (fun _ _ e => mX8_undo kx1 e) lkR_law_215 (by decide) (by decide) rfl [] rfl (Nat.le_of_ble_eq_true rfl) 1890 rfl (fun r1887 h1887 hf => ?_)
  refine A_aload_n C dL_law_1890 (i := 2) rfl 2 rfl 1891 rfl ?_
  refine CVz C dL_law_1891 9 kx2 (by decide) (r := (RX9, TX9, 44)) rfl rfl hf (fun _ _ e => mX9_undo kx2 e) lkR_law_219 (by decide) (by decide) rfl [.int (b2i r1887)] rfl (Nat.le_of_ble_eq_true rfl) 1894 rfl (fun r1891 h1891 hf => ?_)
  refine A_icmp_eq C dL_law_1894 2031 (by decide) 1897 rfl hf (fun c1894 hf => ?_) (fun c1894 hf => ?_)
  · refine A_iinc (v := (x4 + 6)) C dL_law_2031 4 rfl rfl [(4, .int (x4 + 6)), (0, .ref b), (1, .ref (K.2.1 x1)), (2, .ref (K.2.1 x2)), (3, .ref (K.2.1 x3))] (lt_nl hnl (by decide)) rfl 2034 rfl ?_
    refine A_goto C dL_law_2034 23 (by decide) ?_
    refine A_sub [1, 2, 3, 4, 0] (lv' := [(0, .ref b), (1, .ref (K.2.1 x1)), (2, .ref (K.2.1 x2)), (3, .ref (K.2.1 x3)), (4, .int (x4 + 6))]) rfl ?_
    exact Hself23 _ (Or.inl rfl) _ _ hf
  refine A_iconst (v := 0) C dL_law_1897 (by decide) 1898 rfl ?_
  exact A_lawret0 hf
set_option maxRecDepth 20000 in
theorem wL_law_b1899 {K : KX} {G : GX} {b : Nat} (C : Ok K G 800 cL_law R_law) (C2 : Ok K (bump G) 800 cL_law R_law) (hnl : G.2.2.2.2.2.2.2.2.2.2.2.2.2 = 7) (hnl2 : (bump G).2.2.2.2.2.2.2.2.2.2.2.2.2 = 7) {hv : HH} (E : EndL K G b) (E2 : EndL K (bump G) b) (F2 : ∀ xs L, ScrOK K G b xs L → ScrOK K (bump G) b xs L) {xs : Nat → Int32} {L : Nat} {x1 : Nat} {x2 : Nat} {x3 : Nat} {x4 : Int32} {self23 : Int32 → HH → Option (Bool × HH)} (Hself23 : ∀ G', (G' = G ∨ G' = bump G) → ∀ (x4 : Int32) (h : HH), self23 x4 h = some (true, hv) → At K G' 23 [(0, .ref b), (1, .ref (K.2.1 x1)), (2, .ref (K.2.1 x2)), (3, .ref (K.2.1 x3)), (4, .int x4)] [] h) (hXs : ScrOK K G b xs L) (kx1 : isK 8 x1) (kx2 : isK 9 x2) (kx3 : isK 12 x3) {h : HH} (hf : fL_law_b1899 self23 xs L x1 x2 x3 x4 h = some (true, hv)) : At K G 1899 [(0, .ref b), (1, .ref (K.2.1 x1)), (2, .ref (K.2.1 x2)), (3, .ref (K.2.1 x3)), (4, .int x4)] [] h := by
  unfold fL_law_b1899 at hf
  refine A_aload_n C dL_law_1899 (i := 1) rfl 1 rfl 1900 rfl ?_
  refine CVi C dL_law_1900 8 kx1 (by decide) (r := (RX8, TX8, 19)) rfl rfl hf (fun _ _ e => mX8_image kx1 e) lkR_law_220 (by decide) (by decide) rfl [] rfl (Nat.le_of_ble_eq_true rfl) 1903 rfl (fun r1900 h1900 hf => ?_)
  refine A_aload_n C dL_law_1903 (i := 2) rfl 2 rfl 1904 rfl ?_
  refine CVi C dL_law_1904 9 kx2 (by decide) (r := (RX9, TX9, 44)) rfl rfl hf (fun _ _ e => mX9_image kx2 e) lkR_law_223 (by decide) (by decide) rfl [.int r1900] rfl (Nat.le_of_ble_eq_true rfl) 1907 rfl (fun r1904 h1904 hf => ?_)
  refine A_icmp_eq C dL_law_1907 2031 (by decide) 1910 rfl hf (fun c1907 hf => ?_) (fun c1907 hf => ?_)
  · refine A_iinc (v := (x4 + 6)) C dL_law_2031 4 rfl rfl [(4, .int (x4 + 6)), (0, .ref b), (1, .ref (K.2.1 x1)), (2, .ref (K.2.1 x2)), (3, .ref (K.2.1 x3))] (lt_nl hnl (by decide)) rfl 2034 rfl ?_
    refine A_goto C dL_law_2034 23 (by decide) ?_
    refine A_sub [1, 2, 3, 4, 0] (lv' := [(0, .ref b), (1, .ref (K.2.1 x1)), (2, .ref (K.2.1 x2)), (3, .ref (K.2.1 x3)), (4, .int (x4 + 6))]) rfl ?_
    exact Hself23 _ (Or.inl rfl) _ _ hf
  refine A_iconst (v := 0) C dL_law_1910 (by decide) 1911 rfl ?_
  exact A_lawret0 hf
set_option maxRecDepth 20000 in
theorem wL_law_b1912 {K : KX} {G : GX} {b : Nat} (C : Ok K G 800 cL_law R_law) (C2 : Ok K (bump G) 800 cL_law R_law) (hnl : G.2.2.2.2.2.2.2.2.2.2.2.2.2 = 7) (hnl2 : (bump G).2.2.2.2.2.2.2.2.2.2.2.2.2 = 7) {hv : HH} (E : EndL K G b) (E2 : EndL K (bump G) b) (F2 : ∀ xs L, ScrOK K G b xs L → ScrOK K (bump G) b xs L) {xs : Nat → Int32} {L : Nat} {x1 : Nat} {x2 : Nat} {x3 : Nat} {x4 : Int32} {self23 : Int32 → HH → Option (Bool × HH)} (Hself23 : ∀ G', (G' = G ∨ G' = bump G) → ∀ (x4 : Int32) (h : HH), self23 x4 h = some (true, hv) → At K G' 23 [(0, .ref b), (1, .ref (K.2.1 x1)), (2, .ref (K.2.1 x2)), (3, .ref (K.2.1 x3)), (4, .int x4)] [] h) (hXs : ScrOK K G b xs L) (kx1 : isK 8 x1) (kx2 : isK 9 x2) (kx3 : isK 12 x3) {h : HH} (hf : fL_law_b1912 self23 xs L x1 x2 x3 x4 h = some (true, hv)) : At K G 1912 [(0, .ref b), (1, .ref (K.2.1 x1)), (2, .ref (K.2.1 x2)), (3, .ref (K.2.1 x3)), (4, .int x4)] [] h := by
  unfold fL_law_b1912 at hf
  refine A_aload_n C dL_law_1912 (i := 1) rfl 1 rfl 1913 rfl ?_
  refine A_aload_n C dL_law_1913 (i := 0) rfl 0 rfl 1914 rfl ?_
  refine A_iload C dL_law_1914 4 rfl 1916 rfl ?_
  refine A_iconst (v := 1) C dL_law_1916 (by decide) 1917 rfl ?_
  refine A_iadd C dL_law_1917 1918 rfl ?_
  refine A_sld C hXs dL_law_1918 hf 1919 rfl (fun hf => ?_)
  refine CVz C dL_law_1919 8 kx1 (by decide) (r := (RX8, TX8, 19)) rfl rfl hf (fun _ _ e => mX8_back kx1 e) lkR_law_224 (by decide) (by decide) rfl [] rfl (Nat.le_of_ble_eq_true rfl) 1922 rfl (fun r1919 h1919 hf => ?_)
  refine A_aload_n C dL_law_1922 (i := 2) rfl 2 rfl 1923 rfl ?_
  refine A_aload_n C dL_law_1923 (i := 0) rfl 0 rfl 1924 rfl ?_
  refine A_iload C dL_law_1924 4 rfl 1926 rfl ?_
  refine A_iconst (v := 1) C dL_law_1926 (by decide) 1927 rfl ?_
  refine A_iadd C dL_law_1927 1928 rfl ?_
  refine A_sld C hXs dL_law_1928 hf 1929 rfl (fun hf => ?_)
  refine CVz C dL_law_1929 9 kx2 (by decide) (r := (RX9, TX9, 44)) rfl rfl hf (fun _ _ e => mX9_back kx2 e) lkR_law_228 (by decide) (by decide) rfl [.int (b2i r1919)] rfl (Nat.le_of_ble_eq_true rfl) 1932 rfl (fun r1929 h1929 hf => ?_)
  refine A_icmp_eq C dL_law_1932 2031 (by decide) 1935 rfl hf (fun c1932 hf => ?_) (fun c1932 hf => ?_)
  · refine A_iinc (v := (x4 + 6)) C dL_law_2031 4 rfl rfl [(4, .int (x4 + 6)), (0, .ref b), (1, .ref (K.2.1 x1)), (2, .ref (K.2.1 x2)), (3, .ref (K.2.1 x3))] (lt_nl hnl (by decide)) rfl 2034 rfl ?_
    refine A_goto C dL_law_2034 23 (by decide) ?_
    refine A_sub [1, 2, 3, 4, 0] (lv' := [(0, .ref b), (1, .ref (K.2.1 x1)), (2, .ref (K.2.1 x2)), (3, .ref (K.2.1 x3)), (4, .int (x4 + 6))]) rfl ?_
    exact Hself23 _ (Or.inl rfl) _ _ hf
  refine A_iconst (v := 0) C dL_law_1935 (by decide) 1936 rfl ?_
  exact A_lawret0 hf
set_option maxRecDepth 20000 in
theorem wL_law_b1937 {K : KX} {G : GX} {b : Nat} (C : Ok K G 800 cL_law R_law) (C2 : Ok K (bump G) 800 cL_law R_law) (hnl : G.2.2.2.2.2.2.2.2.2.2.2.2.2 = 7) (hnl2 : (bump G).2.2.2.2.2.2.2.2.2.2.2.2.2 = 7) {hv : HH} (E : EndL K G b) (E2 : EndL K (bump G) b) (F2 : ∀ xs L, ScrOK K G b xs L → ScrOK K (bump G) b xs L) {xs : Nat → Int32} {L : Nat} {x1 : Nat} {x2 : Nat} {x3 : Nat} {x4 : Int32} {self23 : Int32 → HH → Option (Bool × HH)} (Hself23 : ∀ G', (G' = G ∨ G' = bump G) → ∀ (x4 : Int32) (h : HH), self23 x4 h = some (true, hv) → At K G' 23 [(0, .ref b), (1, .ref (K.2.1 x1)), (2, .ref (K.2.1 x2)), (3, .ref (K.2.1 x3)), (4, .int x4)] [] h) (hXs : ScrOK K G b xs L) (kx1 : isK 8 x1) (kx2 : isK 9 x2) (kx3 : isK 12 x3) {h : HH} (hf : fL_law_b1937 self23 xs L x1 x2 x3 x4 h = some (true, hv)) : At K G 1937 [(0, .ref b), (1, .ref (K.2.1 x1)), (2, .ref (K.2.1 x2)), (3, .ref (K.2.1 x3)), (4, .int x4)] [] h := by
  unfold fL_law_b1937 at hf
  refine A_aload_n C dL_law_1937 (i := 1) rfl 1 rfl 1938 rfl ?_
  refine A_aload_n C dL_law_1938 (i := 0) rfl 0 rfl 1939 rfl ?_
  refine A_iload C dL_law_1939 4 rfl 1941 rfl ?_
  refine A_iconst (v := 1) C dL_law_1941 (by decide) 1942 rfl ?_
  refine A_iadd C dL_law_1942 1943 rfl ?_
  refine A_sld C hXs dL_law_1943 hf 1944 rfl (fun hf => ?_)
  refine A_aload_n C dL_law_1944 (i := 3) rfl 3 rfl 1945 rfl ?_
  refine A_led C C2 E dL_law_1945 kx1 kx3 hf 1948 rfl (fun r1945 h1945 hf => ?_)
  refine A_istore C2 dL_law_1948 [(5, .int r1945), (0, .ref b), (1, .ref (K.2.1 x1)), (2, .ref (K.2.1 x2)), (3, .ref (K.2.1 x3)), (4, .int x4)] (lt_nl hnl2 (by decide)) rfl 1950 rfl ?_
  refine A_aload_n C2 dL_law_1950 (i := 2) rfl 3 rfl 1951 rfl ?_
  refine A_aload_n C2 dL_law_1951 (i := 0) rfl 1 rfl 1952 rfl ?_
  refine A_iload C2 dL_law_1952 5 rfl 1954 rfl ?_
  refine A_iconst (v := 1) C2 dL_law_1954 (by decide) 1955 rfl ?_
  refine A_iadd C2 dL_law_1955 1956 rfl ?_
  refine A_sld C2 (F2 _ _ hXs) dL_law_1956 hf 1957 rfl (fun hf => ?_)
  refine CVi C2 dL_law_1957 9 kx2 (by decide) (r := (RX9, TX9, 44)) rfl rfl hf (fun _ _ e => mX9_led kx2 e) lkR_law_234 (by decide) (by decide) rfl [] rfl (Nat.le_of_ble_eq_true rfl) 1960 rfl (fun r1957 h1957 hf => ?_)
  refine A_istore C2 dL_law_1960 [(6, .int r1957), (5, .int r1945), (0, .ref b), (1, .ref (K.2.1 x1)), (2, .ref (K.2.1 x2)), (3, .ref (K.2.1 x3)), (4, .int x4)] (lt_nl hnl2 (by decide)) rfl 1962 rfl ?_
  refine A_aload_n C2 dL_law_1962 (i := 2) rfl 4 rfl 1963 rfl ?_
  refine CVi C2 dL_law_1963 9 kx2 (by decide) (r := (RX9, TX9, 44)) rfl rfl hf (fun _ _ e => mX9_thrown kx2 e) lkR_law_235 (by decide) (by decide) rfl [] rfl (Nat.le_of_ble_eq_true rfl) 1966 rfl (fun r1963 h1963 hf => ?_)
  refine A_iload C2 dL_law_1966 1 rfl 1968 rfl ?_
  refine A_icmp_eq C2 dL_law_1968 1973 (by decide) 1971 rfl hf (fun c1968 hf => ?_) (fun c1968 hf => ?_)
  · refine A_iload C2 dL_law_1973 1 rfl 1975 rfl ?_
    refine A_if_ne C2 dL_law_1975 1990 (by decide) 1978 rfl hf (fun c1975 hf => ?_) (fun c1975 hf => ?_)
    · refine A_goto C2 dL_law_1990 2031 (by decide) ?_
      refine A_iinc (v := (x4 + 6)) C2 dL_law_2031 6 rfl rfl [(4, .int (x4 + 6)), (6, .int r1957), (5, .int r1945), (0, .ref b), (1, .ref (K.2.1 x1)), (2, .ref (K.2.1 x2)), (3, .ref (K.2.1 x3))] (lt_nl hnl2 (by decide)) rfl 2034 rfl ?_
      refine A_goto C2 dL_law_2034 23 (by decide) ?_
      refine A_sub [3, 4, 5, 6, 0] (lv' := [(0, .ref b), (1, .ref (K.2.1 x1)), (2, .ref (K.2.1 x2)), (3, .ref (K.2.1 x3)), (4, .int (x4 + 6))]) rfl ?_
      exact Hself23 _ (Or.inr rfl) _ _ hf
    refine A_aload_n C2 dL_law_1978 (i := 3) rfl 5 rfl 1979 rfl ?_
    refine A_iconst (v := 0) C2 dL_law_1979 (by decide) 1980 rfl ?_
    refine A_lald C2 dL_law_1980 (isA_of kx3) hf 1981 rfl (fun hf => ?_)
    refine A_iload C2 dL_law_1981 0 rfl 1983 rfl ?_
    refine A_i2l C2 dL_law_1983 1984 rfl ?_
    refine A_l_eq C2 dL_law_1984 dL_law_1985 1990 (by decide) 1988 rfl hf (fun c1984 hf => ?_) (fun c1984 hf => ?_)
    · refine A_goto C2 dL_law_1990 2031 (by decide) ?_
      refine A_iinc (v := (x4 + 6)) C2 dL_law_2031 6 rfl rfl [(4, .int (x4 + 6)), (6, .int r1957), (5, .int r1945), (0, .ref b), (1, .ref (K.2.1 x1)), (2, .ref (K.2.1 x2)), (3, .ref (K.2.1 x3))] (lt_nl hnl2 (by decide)) rfl 2034 rfl ?_
      refine A_goto C2 dL_law_2034 23 (by decide) ?_
      refine A_sub [3, 4, 5, 6, 0] (lv' := [(0, .ref b), (1, .ref (K.2.1 x1)), (2, .ref (K.2.1 x2)), (3, .ref (K.2.1 x3)), (4, .int (x4 + 6))]) rfl ?_
      exact Hself23 _ (Or.inr rfl) _ _ hf
    refine A_iconst (v := 0) C2 dL_law_1988 (by decide) 1989 rfl ?_
    exact A_lawret0 hf
  refine A_iconst (v := 0) C2 dL_law_1971 (by decide) 1972 rfl ?_
  exact A_lawret0 hf
set_option maxRecDepth 20000 in
theorem wL_law_b1993 {K : KX} {G : GX} {b : Nat} (C : Ok K G 800 cL_law R_law) (C2 : Ok K (bump G) 800 cL_law R_law) (hnl : G.2.2.2.2.2.2.2.2.2.2.2.2.2 = 7) (hnl2 : (bump G).2.2.2.2.2.2.2.2.2.2.2.2.2 = 7) {hv : HH} (E : EndL K G b) (E2 : EndL K (bump G) b) (F2 : ∀ xs L, ScrOK K G b xs L → ScrOK K (bump G) b xs L) {xs : Nat → Int32} {L : Nat} {x1 : Nat} {x2 : Nat} {x3 : Nat} {x4 : Int32} {self23 : Int32 → HH → Option (Bool × HH)} (Hself23 : ∀ G', (G' = G ∨ G' = bump G) → ∀ (x4 : Int32) (h : HH), self23 x4 h = some (true, hv) → At K G' 23 [(0, .ref b), (1, .ref (K.2.1 x1)), (2, .ref (K.2.1 x2)), (3, .ref (K.2.1 x3)), (4, .int x4)] [] h) (hXs : ScrOK K G b xs L) (kx1 : isK 8 x1) (kx2 : isK 9 x2) (kx3 : isK 12 x3) {h : HH} (hf : fL_law_b1993 self23 xs L x1 x2 x3 x4 h = some (true, hv)) : At K G 1993 [(0, .ref b), (1, .ref (K.2.1 x1)), (2, .ref (K.2.1 x2)), (3, .ref (K.2.1 x3)), (4, .int x4)] [] h := by
  unfold fL_law_b1993 at hf
  refine A_aload_n C dL_law_1993 (i := 1) rfl 1 rfl 1994 rfl ?_
  refine A_aload_n C dL_law_1994 (i := 0) rfl 0 rfl 1995 rfl ?_
  refine A_iload C dL_law_1995 4 rfl 1997 rfl ?_
  refine A_iconst (v := 1) C dL_law_1997 (by decide) 1998 rfl ?_
  refine A_iadd C dL_law_1998 1999 rfl ?_
  refine A_sld C hXs dL_law_1999 hf 2000 rfl (fun hf => ?_)
  refine CVi C dL_law_2000 8 kx1 (by decide) (r := (RX8, TX8, 19)) rfl rfl hf (fun _ _ e => mX8_size kx1 e) lkR_law_238 (by decide) (by decide) rfl [] rfl (Nat.le_of_ble_eq_true rfl) 2003 rfl (fun r2000 h2000 hf => ?_)
  refine A_aload_n C dL_law_2003 (i := 2) rfl 2 rfl 2004 rfl ?_
  refine A_aload_n C dL_law_2004 (i := 0) rfl 0 rfl 2005 rfl ?_
  refine A_iload C dL_law_2005 4 rfl 2007 rfl ?_
  refine A_iconst (v := 1) C dL_law_2007 (by decide) 2008 rfl ?_
  refine A_iadd C dL_law_2008 2009 rfl ?_
  refine A_sld C hXs dL_law_2009 hf 2010 rfl (fun hf => ?_)
  refine CVi C dL_law_2010 9 kx2 (by decide) (r := (RX9, TX9, 44)) rfl rfl hf (fun _ _ e => mX9_size kx2 e) lkR_law_241 (by decide) (by decide) rfl [.int r2000] rfl (Nat.le_of_ble_eq_true rfl) 2013 rfl (fun r2010 h2010 hf => ?_)
  refine A_icmp_eq C dL_law_2013 2031 (by decide) 2016 rfl hf (fun c2013 hf => ?_) (fun c2013 hf => ?_)
  · refine A_iinc (v := (x4 + 6)) C dL_law_2031 4 rfl rfl [(4, .int (x4 + 6)), (0, .ref b), (1, .ref (K.2.1 x1)), (2, .ref (K.2.1 x2)), (3, .ref (K.2.1 x3))] (lt_nl hnl (by decide)) rfl 2034 rfl ?_
    refine A_goto C dL_law_2034 23 (by decide) ?_
    refine A_sub [1, 2, 3, 4, 0] (lv' := [(0, .ref b), (1, .ref (K.2.1 x1)), (2, .ref (K.2.1 x2)), (3, .ref (K.2.1 x3)), (4, .int (x4 + 6))]) rfl ?_
    exact Hself23 _ (Or.inl rfl) _ _ hf
  refine A_iconst (v := 0) C dL_law_2016 (by decide) 2017 rfl ?_
  exact A_lawret0 hf
set_option maxRecDepth 20000 in
theorem wL_law_b2018 {K : KX} {G : GX} {b : Nat} (C : Ok K G 800 cL_law R_law) (C2 : Ok K (bump G) 800 cL_law R_law) (hnl : G.2.2.2.2.2.2.2.2.2.2.2.2.2 = 7) (hnl2 : (bump G).2.2.2.2.2.2.2.2.2.2.2.2.2 = 7) {hv : HH} (E : EndL K G b) (E2 : EndL K (bump G) b) (F2 : ∀ xs L, ScrOK K G b xs L → ScrOK K (bump G) b xs L) {xs : Nat → Int32} {L : Nat} {x1 : Nat} {x2 : Nat} {x3 : Nat} {x4 : Int32} {self23 : Int32 → HH → Option (Bool × HH)} (Hself23 : ∀ G', (G' = G ∨ G' = bump G) → ∀ (x4 : Int32) (h : HH), self23 x4 h = some (true, hv) → At K G' 23 [(0, .ref b), (1, .ref (K.2.1 x1)), (2, .ref (K.2.1 x2)), (3, .ref (K.2.1 x3)), (4, .int x4)] [] h) (hXs : ScrOK K G b xs L) (kx1 : isK 8 x1) (kx2 : isK 9 x2) (kx3 : isK 12 x3) {h : HH} (hf : fL_law_b2018 self23 xs L x1 x2 x3 x4 h = some (true, hv)) : At K G 2018 [(0, .ref b), (1, .ref (K.2.1 x1)), (2, .ref (K.2.1 x2)), (3, .ref (K.2.1 x3)), (4, .int x4)] [] h := by
  unfold fL_law_b2018 at hf
  refine A_aload_n C dL_law_2018 (i := 1) rfl 1 rfl 2019 rfl ?_
  refine CVi C dL_law_2019 8 kx1 (by decide) (r := (RX8, TX8, 19)) rfl rfl hf (fun _ _ e => mX8_trouble kx1 e) lkR_law_242 (by decide) (by decide) rfl [] rfl (Nat.le_of_ble_eq_true rfl) 2022 rfl (fun r2019 h2019 hf => ?_)
  refine A_aload_n C dL_law_2022 (i := 2) rfl 2 rfl 2023 rfl ?_
  refine CVi C dL_law_2023 9 kx2 (by decide) (r := (RX9, TX9, 44)) rfl rfl hf (fun _ _ e => mX9_trouble kx2 e) lkR_law_245 (by decide) (by decide) rfl [.int r2019] rfl (Nat.le_of_ble_eq_true rfl) 2026 rfl (fun r2023 h2023 hf => ?_)
  refine A_icmp_eq C dL_law_2026 2031 (by decide) 2029 rfl hf (fun c2026 hf => ?_) (fun c2026 hf => ?_)
  · refine A_iinc (v := (x4 + 6)) C dL_law_2031 4 rfl rfl [(4, .int (x4 + 6)), (0, .ref b), (1, .ref (K.2.1 x1)), (2, .ref (K.2.1 x2)), (3, .ref (K.2.1 x3))] (lt_nl hnl (by decide)) rfl 2034 rfl ?_
    refine A_goto C dL_law_2034 23 (by decide) ?_
    refine A_sub [1, 2, 3, 4, 0] (lv' := [(0, .ref b), (1, .ref (K.2.1 x1)), (2, .ref (K.2.1 x2)), (3, .ref (K.2.1 x3)), (4, .int (x4 + 6))]) rfl ?_
    exact Hself23 _ (Or.inl rfl) _ _ hf
  refine A_iconst (v := 0) C dL_law_2029 (by decide) 2030 rfl ?_
  exact A_lawret0 hf
set_option maxRecDepth 20000 in
theorem wL_law_b2031 {K : KX} {G : GX} {b : Nat} (C : Ok K G 800 cL_law R_law) (C2 : Ok K (bump G) 800 cL_law R_law) (hnl : G.2.2.2.2.2.2.2.2.2.2.2.2.2 = 7) (hnl2 : (bump G).2.2.2.2.2.2.2.2.2.2.2.2.2 = 7) {hv : HH} (E : EndL K G b) (E2 : EndL K (bump G) b) (F2 : ∀ xs L, ScrOK K G b xs L → ScrOK K (bump G) b xs L) {xs : Nat → Int32} {L : Nat} {x1 : Nat} {x2 : Nat} {x3 : Nat} {x4 : Int32} {self23 : Int32 → HH → Option (Bool × HH)} (Hself23 : ∀ G', (G' = G ∨ G' = bump G) → ∀ (x4 : Int32) (h : HH), self23 x4 h = some (true, hv) → At K G' 23 [(0, .ref b), (1, .ref (K.2.1 x1)), (2, .ref (K.2.1 x2)), (3, .ref (K.2.1 x3)), (4, .int x4)] [] h) (hXs : ScrOK K G b xs L) (kx1 : isK 8 x1) (kx2 : isK 9 x2) (kx3 : isK 12 x3) {h : HH} (hf : fL_law_b2031 self23 xs L x1 x2 x3 x4 h = some (true, hv)) : At K G 2031 [(0, .ref b), (1, .ref (K.2.1 x1)), (2, .ref (K.2.1 x2)), (3, .ref (K.2.1 x3)), (4, .int x4)] [] h := by
  unfold fL_law_b2031 at hf
  refine A_iinc (v := (x4 + 6)) C dL_law_2031 4 rfl rfl [(4, .int (x4 + 6)), (0, .ref b), (1, .ref (K.2.1 x1)), (2, .ref (K.2.1 x2)), (3, .ref (K.2.1 x3))] (lt_nl hnl (by decide)) rfl 2034 rfl ?_
  refine A_goto C dL_law_2034 23 (by decide) ?_
  refine A_sub [1, 2, 3, 4, 0] (lv' := [(0, .ref b), (1, .ref (K.2.1 x1)), (2, .ref (K.2.1 x2)), (3, .ref (K.2.1 x3)), (4, .int (x4 + 6))]) rfl ?_
  exact Hself23 _ (Or.inl rfl) _ _ hf
set_option maxRecDepth 20000 in
theorem wL_law_L23 {K : KX} {G : GX} {b : Nat} (C : Ok K G 800 cL_law R_law) (C2 : Ok K (bump G) 800 cL_law R_law) (hnl : G.2.2.2.2.2.2.2.2.2.2.2.2.2 = 7) (hnl2 : (bump G).2.2.2.2.2.2.2.2.2.2.2.2.2 = 7) {hv : HH} (E : EndL K G b) (E2 : EndL K (bump G) b) (F2 : ∀ xs L, ScrOK K G b xs L → ScrOK K (bump G) b xs L) {xs : Nat → Int32} {L : Nat} {x1 : Nat} {x2 : Nat} {x3 : Nat}   (hXs : ScrOK K G b xs L) (kx1 : isK 8 x1) (kx2 : isK 9 x2) (kx3 : isK 12 x3) : ∀ (self23 : Int32 → HH → Option (Bool × HH)), (∀ G', (G' = G ∨ G' = bump G) → ∀ (x4 : Int32) (h : HH), self23 x4 h = some (true, hv) → At K G' 23 [(0, .ref b), (1, .ref (K.2.1 x1)), (2, .ref (K.2.1 x2)), (3, .ref (K.2.1 x3)), (4, .int x4)] [] h) → ∀ (x4 : Int32) (h : HH), fL_law_L23 xs L x1 x2 x3 self23 x4 h = some (true, hv) → At K G 23 [(0, .ref b), (1, .ref (K.2.1 x1)), (2, .ref (K.2.1 x2)), (3, .ref (K.2.1 x3)), (4, .int x4)] [] h := by
  intro self23 Hself23 x4 h hf
  unfold fL_law_L23 at hf
  refine A_iload C dL_law_23 4 rfl 25 rfl ?_
  refine A_aload_n C dL_law_25 (i := 0) rfl 0 rfl 26 rfl ?_
  refine A_slen C hXs dL_law_26 27 rfl ?_
  refine A_bipush (v := 6) C dL_law_27 (by decide) 29 rfl ?_
  refine A_isub C dL_law_29 30 rfl ?_
  refine A_icmp_gt C dL_law_30 2037 (by decide) 33 rfl hf (fun c30 hf => ?_) (fun c30 hf => ?_)
  · refine A_iconst (v := 1) C dL_law_2037 (by decide) 2038 rfl ?_
    exact A_lawret1 C E dL_law_2038
  refine A_aload_n C dL_law_33 (i := 0) rfl 0 rfl 34 rfl ?_
  refine A_iload C dL_law_34 4 rfl 36 rfl ?_
  refine A_sld C hXs dL_law_36 hf 37 rfl (fun hf => ?_)
  refine A_bipush (v := 63) C dL_law_37 (by decide) 39 rfl ?_
  refine A_iand C dL_law_39 40 rfl ?_
  refine A_namI hf (fun y1 hf => ?_)
  by_cases e40_0 : y1 = 0
  · rw [if_pos e40_0] at hf
    refine A_swIn (v := 0) (off := 224) C dL_law_40 e40_0 (by decide) (by decide) (by decide) 264 (by decide) ?_
    exact wL_law_b264 C C2 hnl hnl2 E E2 F2 Hself23 hXs kx1 kx2 (isK_ofA (isA_of kx3)) hf
  rw [if_neg e40_0] at hf
  by_cases e40_1 : y1 = 1
  · rw [if_pos e40_1] at hf
    refine A_swIn (v := 1) (off := 297) C dL_law_40 e40_1 (by decide) (by decide) (by decide) 337 (by decide) ?_
    exact wL_law_b337 C C2 hnl hnl2 E E2 F2 Hself23 hXs kx1 kx2 (isK_ofA (isA_of kx3)) hf
  rw [if_neg e40_1] at hf
  by_cases e40_2 : y1 = 2
  · rw [if_pos e40_2] at hf
    refine A_swIn (v := 2) (off := 322) C dL_law_40 e40_2 (by decide) (by decide) (by decide) 362 (by decide) ?_
    exact wL_law_b362 C C2 hnl hnl2 E E2 F2 Hself23 hXs kx1 kx2 (isK_ofA (isA_of kx3)) hf
  rw [if_neg e40_2] at hf
  by_cases e40_3 : y1 = 3
  · rw [if_pos e40_3] at hf
    refine A_swIn (v := 3) (off := 335) C dL_law_40 e40_3 (by decide) (by decide) (by decide) 375 (by decide) ?_
    exact wL_law_b375 C C2 hnl hnl2 E E2 F2 Hself23 hXs kx1 kx2 (isK_ofA (isA_of kx3)) hf
  rw [if_neg e40_3] at hf
  by_cases e40_4 : y1 = 4
  · rw [if_pos e40_4] at hf
    refine A_swIn (v := 4) (off := 348) C dL_law_40 e40_4 (by decide) (by decide) (by decide) 388 (by decide) ?_
    exact wL_law_b388 C C2 hnl hnl2 E E2 F2 Hself23 hXs kx1 kx2 (isK_ofA (isA_of kx3)) hf
  rw [if_neg e40_4] at hf
  by_cases e40_5 : y1 = 5
  · rw [if_pos e40_5] at hf
    refine A_swIn (v := 5) (off := 373) C dL_law_40 e40_5 (by decide) (by decide) (by decide) 413 (by decide) ?_
    exact wL_law_b413 C C2 hnl hnl2 E E2 F2 Hself23 hXs kx1 kx2 (isK_ofA (isA_of kx3)) hf
  rw [if_neg e40_5] at hf
  by_cases e40_6 : y1 = 6
  · rw [if_pos e40_6] at hf
    refine A_swIn (v := 6) (off := 399) C dL_law_40 e40_6 (by decide) (by decide) (by decide) 439 (by decide) ?_
    exact wL_law_b439 C C2 hnl hnl2 E E2 F2 Hself23 hXs kx1 kx2 (isK_ofA (isA_of kx3)) hf
  rw [if_neg e40_6] at hf
  by_cases e40_7 : y1 = 7
  · rw [if_pos e40_7] at hf
    refine A_swIn (v := 7) (off := 413) C dL_law_40 e40_7 (by decide) (by decide) (by decide) 453 (by decide) ?_
    exact wL_law_b453 C C2 hnl hnl2 E E2 F2 Hself23 hXs kx1 kx2 (isK_ofA (isA_of kx3)) hf
  rw [if_neg e40_7] at hf
  by_cases e40_8 : y1 = 8
  · rw [if_pos e40_8] at hf
    refine A_swIn (v := 8) (off := 491) C dL_law_40 e40_8 (by decide) (by decide) (by decide) 531 (by decide) ?_
    exact wL_law_b531 C C2 hnl hnl2 E E2 F2 Hself23 hXs kx1 kx2 (isK_ofA (isA_of kx3)) hf
  rw [if_neg e40_8] at hf
  by_cases e40_9 : y1 = 9
  · rw [if_pos e40_9] at hf
    refine A_swIn (v := 9) (off := 528) C dL_law_40 e40_9 (by decide) (by decide) (by decide) 568 (by decide) ?_
    exact wL_law_b568 C C2 hnl hnl2 E E2 F2 Hself23 hXs kx1 kx2 (isK_ofA (isA_of kx3)) hf
  rw [if_neg e40_9] at hf
  by_cases e40_10 : y1 = 10
  · rw [if_pos e40_10] at hf
    refine A_swIn (v := 10) (off := 582) C dL_law_40 e40_10 (by decide) (by decide) (by decide) 622 (by decide) ?_
    exact wL_law_b622 C C2 hnl hnl2 E E2 F2 Hself23 hXs kx1 kx2 (isK_ofA (isA_of kx3)) hf
  rw [if_neg e40_10] at hf
  by_cases e40_11 : y1 = 11
  · rw [if_pos e40_11] at hf
    refine A_swIn (v := 11) (off := 619) C dL_law_40 e40_11 (by decide) (by decide) (by decide) 659 (by decide) ?_
    exact wL_law_b659 C C2 hnl hnl2 E E2 F2 Hself23 hXs kx1 kx2 (isK_ofA (isA_of kx3)) hf
  rw [if_neg e40_11] at hf
  by_cases e40_12 : y1 = 12
  · rw [if_pos e40_12] at hf
    refine A_swIn (v := 12) (off := 632) C dL_law_40 e40_12 (by decide) (by decide) (by decide) 672 (by decide) ?_
    exact wL_law_b672 C C2 hnl hnl2 E E2 F2 Hself23 hXs kx1 kx2 (isK_ofA (isA_of kx3)) hf
  rw [if_neg e40_12] at hf
  by_cases e40_13 : y1 = 13
  · rw [if_pos e40_13] at hf
    refine A_swIn (v := 13) (off := 669) C dL_law_40 e40_13 (by decide) (by decide) (by decide) 709 (by decide) ?_
    exact wL_law_b709 C C2 hnl hnl2 E E2 F2 Hself23 hXs kx1 kx2 (isK_ofA (isA_of kx3)) hf
  rw [if_neg e40_13] at hf
  by_cases e40_14 : y1 = 14
  · rw [if_pos e40_14] at hf
    refine A_swIn (v := 14) (off := 706) C dL_law_40 e40_14 (by decide) (by decide) (by decide) 746 (by decide) ?_
    exact wL_law_b746 C C2 hnl hnl2 E E2 F2 Hself23 hXs kx1 kx2 (isK_ofA (isA_of kx3)) hf
  rw [if_neg e40_14] at hf
  by_cases e40_15 : y1 = 15
  · rw [if_pos e40_15] at hf
    refine A_swIn (v := 15) (off := 755) C dL_law_40 e40_15 (by decide) (by decide) (by decide) 795 (by decide) ?_
    exact wL_law_b795 C C2 hnl hnl2 E E2 F2 Hself23 hXs kx1 kx2 (isK_ofA (isA_of kx3)) hf
  rw [if_neg e40_15] at hf
  by_cases e40_16 : y1 = 16
  · rw [if_pos e40_16] at hf
    refine A_swIn (v := 16) (off := 792) C dL_law_40 e40_16 (by decide) (by decide) (by decide) 832 (by decide) ?_
    exact wL_law_b832 C C2 hnl hnl2 E E2 F2 Hself23 hXs kx1 kx2 (isK_ofA (isA_of kx3)) hf
  rw [if_neg e40_16] at hf
  by_cases e40_17 : y1 = 17
  · rw [if_pos e40_17] at hf
    refine A_swIn (v := 17) (off := 829) C dL_law_40 e40_17 (by decide) (by decide) (by decide) 869 (by decide) ?_
    exact wL_law_b869 C C2 hnl hnl2 E E2 F2 Hself23 hXs kx1 kx2 (isK_ofA (isA_of kx3)) hf
  rw [if_neg e40_17] at hf
  by_cases e40_18 : y1 = 18
  · rw [if_pos e40_18] at hf
    refine A_swIn (v := 18) (off := 854) C dL_law_40 e40_18 (by decide) (by decide) (by decide) 894 (by decide) ?_
    exact wL_law_b894 C C2 hnl hnl2 E E2 F2 Hself23 hXs kx1 kx2 (isK_ofA (isA_of kx3)) hf
  rw [if_neg e40_18] at hf
  by_cases e40_19 : y1 = 19
  · rw [if_pos e40_19] at hf
    refine A_swIn (v := 19) (off := 867) C dL_law_40 e40_19 (by decide) (by decide) (by decide) 907 (by decide) ?_
    exact wL_law_b907 C C2 hnl hnl2 E E2 F2 Hself23 hXs kx1 kx2 (isK_ofA (isA_of kx3)) hf
  rw [if_neg e40_19] at hf
  by_cases e40_20 : y1 = 20
  · rw [if_pos e40_20] at hf
    refine A_swIn (v := 20) (off := 904) C dL_law_40 e40_20 (by decide) (by decide) (by decide) 944 (by decide) ?_
    exact wL_law_b944 C C2 hnl hnl2 E E2 F2 Hself23 hXs kx1 kx2 (isK_ofA (isA_of kx3)) hf
  rw [if_neg e40_20] at hf
  by_cases e40_21 : y1 = 21
  · rw [if_pos e40_21] at hf
    refine A_swIn (v := 21) (off := 954) C dL_law_40 e40_21 (by decide) (by decide) (by decide) 994 (by decide) ?_
    exact wL_law_b994 C C2 hnl hnl2 E E2 F2 Hself23 hXs kx1 kx2 (isK_ofA (isA_of kx3)) hf
  rw [if_neg e40_21] at hf
  by_cases e40_22 : y1 = 22
  · rw [if_pos e40_22] at hf
    refine A_swIn (v := 22) (off := 979) C dL_law_40 e40_22 (by decide) (by decide) (by decide) 1019 (by decide) ?_
    exact wL_law_b1019 C C2 hnl hnl2 E E2 F2 Hself23 hXs kx1 kx2 (isK_ofA (isA_of kx3)) hf
  rw [if_neg e40_22] at hf
  by_cases e40_23 : y1 = 23
  · rw [if_pos e40_23] at hf
    refine A_swIn (v := 23) (off := 1005) C dL_law_40 e40_23 (by decide) (by decide) (by decide) 1045 (by decide) ?_
    exact wL_law_b1045 C C2 hnl hnl2 E E2 F2 Hself23 hXs kx1 kx2 (isK_ofA (isA_of kx3)) hf
  rw [if_neg e40_23] at hf
  by_cases e40_24 : y1 = 24
  · rw [if_pos e40_24] at hf
    refine A_swIn (v := 24) (off := 1019) C dL_law_40 e40_24 (by decide) (by decide) (by decide) 1059 (by decide) ?_
    exact wL_law_b1059 C C2 hnl hnl2 E E2 F2 Hself23 hXs kx1 kx2 (isK_ofA (isA_of kx3)) hf
  rw [if_neg e40_24] at hf
  by_cases e40_25 : y1 = 25
  · rw [if_pos e40_25] at hf
    refine A_swIn (v := 25) (off := 1044) C dL_law_40 e40_25 (by decide) (by decide) (by decide) 1084 (by decide) ?_
    exact wL_law_b1084 C C2 hnl hnl2 E E2 F2 Hself23 hXs kx1 kx2 (isK_ofA (isA_of kx3)) hf
  rw [if_neg e40_25] at hf
  by_cases e40_26 : y1 = 26
  · rw [if_pos e40_26] at hf
    refine A_swIn (v := 26) (off := 1081) C dL_law_40 e40_26 (by decide) (by decide) (by decide) 1121 (by decide) ?_
    exact wL_law_b1121 C C2 hnl hnl2 E E2 F2 Hself23 hXs kx1 kx2 (isK_ofA (isA_of kx3)) hf
  rw [if_neg e40_26] at hf
  by_cases e40_27 : y1 = 27
  · rw [if_pos e40_27] at hf
    refine A_swIn (v := 27) (off := 1094) C dL_law_40 e40_27 (by decide) (by decide) (by decide) 1134 (by decide) ?_
    exact wL_law_b1134 C C2 hnl hnl2 E E2 F2 Hself23 hXs kx1 kx2 (isK_ofA (isA_of kx3)) hf
  rw [if_neg e40_27] at hf
  by_cases e40_28 : y1 = 28
  · rw [if_pos e40_28] at hf
    refine A_swIn (v := 28) (off := 1107) C dL_law_40 e40_28 (by decide) (by decide) (by decide) 1147 (by decide) ?_
    exact wL_law_b1147 C C2 hnl hnl2 E E2 F2 Hself23 hXs kx1 kx2 (isK_ofA (isA_of kx3)) hf
  rw [if_neg e40_28] at hf
  by_cases e40_29 : y1 = 29
  · rw [if_pos e40_29] at hf
    refine A_swIn (v := 29) (off := 1120) C dL_law_40 e40_29 (by decide) (by decide) (by decide) 1160 (by decide) ?_
    exact wL_law_b1160 C C2 hnl hnl2 E E2 F2 Hself23 hXs kx1 kx2 (isK_ofA (isA_of kx3)) hf
  rw [if_neg e40_29] at hf
  by_cases e40_30 : y1 = 30
  · rw [if_pos e40_30] at hf
    refine A_swIn (v := 30) (off := 1169) C dL_law_40 e40_30 (by decide) (by decide) (by decide) 1209 (by decide) ?_
    exact wL_law_b1209 C C2 hnl hnl2 E E2 F2 Hself23 hXs kx1 kx2 (isK_ofA (isA_of kx3)) hf
  rw [if_neg e40_30] at hf
  by_cases e40_31 : y1 = 31
  · rw [if_pos e40_31] at hf
    refine A_swIn (v := 31) (off := 1230) C dL_law_40 e40_31 (by decide) (by decide) (by decide) 1270 (by decide) ?_
    exact wL_law_b1270 C C2 hnl hnl2 E E2 F2 Hself23 hXs kx1 kx2 (isK_ofA (isA_of kx3)) hf
  rw [if_neg e40_31] at hf
  by_cases e40_32 : y1 = 32
  · rw [if_pos e40_32] at hf
    refine A_swIn (v := 32) (off := 1292) C dL_law_40 e40_32 (by decide) (by decide) (by decide) 1332 (by decide) ?_
    exact wL_law_b1332 C C2 hnl hnl2 E E2 F2 Hself23 hXs kx1 kx2 (isK_ofA (isA_of kx3)) hf
  rw [if_neg e40_32] at hf
  by_cases e40_33 : y1 = 33
  · rw [if_pos e40_33] at hf
    refine A_swIn (v := 33) (off := 1342) C dL_law_40 e40_33 (by decide) (by decide) (by decide) 1382 (by decide) ?_
    exact wL_law_b1382 C C2 hnl hnl2 E E2 F2 Hself23 hXs kx1 kx2 (isK_ofA (isA_of kx3)) hf
  rw [if_neg e40_33] at hf
  by_cases e40_34 : y1 = 34
  · rw [if_pos e40_34] at hf
    refine A_swIn (v := 34) (off := 1391) C dL_law_40 e40_34 (by decide) (by decide) (by decide) 1431 (by decide) ?_
    exact wL_law_b1431 C C2 hnl hnl2 E E2 F2 Hself23 hXs kx1 kx2 (isK_ofA (isA_of kx3)) hf
  rw [if_neg e40_34] at hf
  by_cases e40_35 : y1 = 35
  · rw [if_pos e40_35] at hf
    refine A_swIn (v := 35) (off := 1416) C dL_law_40 e40_35 (by decide) (by decide) (by decide) 1456 (by decide) ?_
    exact wL_law_b1456 C C2 hnl hnl2 E E2 F2 Hself23 hXs kx1 kx2 (isK_ofA (isA_of kx3)) hf
  rw [if_neg e40_35] at hf
  by_cases e40_36 : y1 = 36
  · rw [if_pos e40_36] at hf
    refine A_swIn (v := 36) (off := 1442) C dL_law_40 e40_36 (by decide) (by decide) (by decide) 1482 (by decide) ?_
    exact wL_law_b1482 C C2 hnl hnl2 E E2 F2 Hself23 hXs kx1 kx2 (isK_ofA (isA_of kx3)) hf
  rw [if_neg e40_36] at hf
  by_cases e40_37 : y1 = 37
  · rw [if_pos e40_37] at hf
    refine A_swIn (v := 37) (off := 1479) C dL_law_40 e40_37 (by decide) (by decide) (by decide) 1519 (by decide) ?_
    exact wL_law_b1519 C C2 hnl hnl2 E E2 F2 Hself23 hXs kx1 kx2 (isK_ofA (isA_of kx3)) hf
  rw [if_neg e40_37] at hf
  by_cases e40_38 : y1 = 38
  · rw [if_pos e40_38] at hf
    refine A_swIn (v := 38) (off := 1516) C dL_law_40 e40_38 (by decide) (by decide) (by decide) 1556 (by decide) ?_
    exact wL_law_b1556 C C2 hnl hnl2 E E2 F2 Hself23 hXs kx1 kx2 (isK_ofA (isA_of kx3)) hf
  rw [if_neg e40_38] at hf
  by_cases e40_39 : y1 = 39
  · rw [if_pos e40_39] at hf
    refine A_swIn (v := 39) (off := 1529) C dL_law_40 e40_39 (by decide) (by decide) (by decide) 1569 (by decide) ?_
    exact wL_law_b1569 C C2 hnl hnl2 E E2 F2 Hself23 hXs kx1 kx2 (isK_ofA (isA_of kx3)) hf
  rw [if_neg e40_39] at hf
  by_cases e40_40 : y1 = 40
  · rw [if_pos e40_40] at hf
    refine A_swIn (v := 40) (off := 1554) C dL_law_40 e40_40 (by decide) (by decide) (by decide) 1594 (by decide) ?_
    exact wL_law_b1594 C C2 hnl hnl2 E E2 F2 Hself23 hXs kx1 kx2 (isK_ofA (isA_of kx3)) hf
  rw [if_neg e40_40] at hf
  by_cases e40_41 : y1 = 41
  · rw [if_pos e40_41] at hf
    refine A_swIn (v := 41) (off := 1632) C dL_law_40 e40_41 (by decide) (by decide) (by decide) 1672 (by decide) ?_
    exact wL_law_b1672 C C2 hnl hnl2 E E2 F2 Hself23 hXs kx1 kx2 (isK_ofA (isA_of kx3)) hf
  rw [if_neg e40_41] at hf
  by_cases e40_42 : y1 = 42
  · rw [if_pos e40_42] at hf
    refine A_swIn (v := 42) (off := 1698) C dL_law_40 e40_42 (by decide) (by decide) (by decide) 1738 (by decide) ?_
    exact wL_law_b1738 C C2 hnl hnl2 E E2 F2 Hself23 hXs kx1 kx2 (isK_ofA (isA_of kx3)) hf
  rw [if_neg e40_42] at hf
  by_cases e40_43 : y1 = 43
  · rw [if_pos e40_43] at hf
    refine A_swIn (v := 43) (off := 1735) C dL_law_40 e40_43 (by decide) (by decide) (by decide) 1775 (by decide) ?_
    exact wL_law_b1775 C C2 hnl hnl2 E E2 F2 Hself23 hXs kx1 kx2 (isK_ofA (isA_of kx3)) hf
  rw [if_neg e40_43] at hf
  by_cases e40_44 : y1 = 44
  · rw [if_pos e40_44] at hf
    refine A_swIn (v := 44) (off := 1772) C dL_law_40 e40_44 (by decide) (by decide) (by decide) 1812 (by decide) ?_
    exact wL_law_b1812 C C2 hnl hnl2 E E2 F2 Hself23 hXs kx1 kx2 (isK_ofA (isA_of kx3)) hf
  rw [if_neg e40_44] at hf
  by_cases e40_45 : y1 = 45
  · rw [if_pos e40_45] at hf
    refine A_swIn (v := 45) (off := 1797) C dL_law_40 e40_45 (by decide) (by decide) (by decide) 1837 (by decide) ?_
    exact wL_law_b1837 C C2 hnl hnl2 E E2 F2 Hself23 hXs kx1 kx2 (isK_ofA (isA_of kx3)) hf
  rw [if_neg e40_45] at hf
  by_cases e40_46 : y1 = 46
  · rw [if_pos e40_46] at hf
    refine A_swIn (v := 46) (off := 1846) C dL_law_40 e40_46 (by decide) (by decide) (by decide) 1886 (by decide) ?_
    exact wL_law_b1886 C C2 hnl hnl2 E E2 F2 Hself23 hXs kx1 kx2 (isK_ofA (isA_of kx3)) hf
  rw [if_neg e40_46] at hf
  by_cases e40_47 : y1 = 47
  · rw [if_pos e40_47] at hf
    refine A_swIn (v := 47) (off := 1859) C dL_law_40 e40_47 (by decide) (by decide) (by decide) 1899 (by decide) ?_
    exact wL_law_b1899 C C2 hnl hnl2 E E2 F2 Hself23 hXs kx1 kx2 (isK_ofA (isA_of kx3)) hf
  rw [if_neg e40_47] at hf
  by_cases e40_48 : y1 = 48
  · rw [if_pos e40_48] at hf
    refine A_swIn (v := 48) (off := 1872) C dL_law_40 e40_48 (by decide) (by decide) (by decide) 1912 (by decide) ?_
    exact wL_law_b1912 C C2 hnl hnl2 E E2 F2 Hself23 hXs kx1 kx2 (isK_ofA (isA_of kx3)) hf
  rw [if_neg e40_48] at hf
  by_cases e40_49 : y1 = 49
  · rw [if_pos e40_49] at hf
    refine A_swIn (v := 49) (off := 1897) C dL_law_40 e40_49 (by decide) (by decide) (by decide) 1937 (by decide) ?_
    exact wL_law_b1937 C C2 hnl hnl2 E E2 F2 Hself23 hXs kx1 kx2 (isK_ofA (isA_of kx3)) hf
  rw [if_neg e40_49] at hf
  by_cases e40_50 : y1 = 50
  · rw [if_pos e40_50] at hf
    refine A_swIn (v := 50) (off := 1953) C dL_law_40 e40_50 (by decide) (by decide) (by decide) 1993 (by decide) ?_
    exact wL_law_b1993 C C2 hnl hnl2 E E2 F2 Hself23 hXs kx1 kx2 (isK_ofA (isA_of kx3)) hf
  rw [if_neg e40_50] at hf
  by_cases e40_51 : y1 = 51
  · rw [if_pos e40_51] at hf
    refine A_swIn (v := 51) (off := 1978) C dL_law_40 e40_51 (by decide) (by decide) (by decide) 2018 (by decide) ?_
    exact wL_law_b2018 C C2 hnl hnl2 E E2 F2 Hself23 hXs kx1 kx2 (isK_ofA (isA_of kx3)) hf
  rw [if_neg e40_51] at hf
  refine A_swOut C dL_law_40 (sw_out 0 52 (by decide) (fun j hj => by
    match j, hj with
    | 0, _ => exact e40_0
    | 1, _ => exact e40_1
    | 2, _ => exact e40_2
    | 3, _ => exact e40_3
    | 4, _ => exact e40_4
    | 5, _ => exact e40_5
    | 6, _ => exact e40_6
    | 7, _ => exact e40_7
    | 8, _ => exact e40_8
    | 9, _ => exact e40_9
    | 10, _ => exact e40_10
    | 11, _ => exact e40_11
    | 12, _ => exact e40_12
    | 13, _ => exact e40_13
    | 14, _ => exact e40_14
    | 15, _ => exact e40_15
    | 16, _ => exact e40_16
    | 17, _ => exact e40_17
    | 18, _ => exact e40_18
    | 19, _ => exact e40_19
    | 20, _ => exact e40_20
    | 21, _ => exact e40_21
    | 22, _ => exact e40_22
    | 23, _ => exact e40_23
    | 24, _ => exact e40_24
    | 25, _ => exact e40_25
    | 26, _ => exact e40_26
    | 27, _ => exact e40_27
    | 28, _ => exact e40_28
    | 29, _ => exact e40_29
    | 30, _ => exact e40_30
    | 31, _ => exact e40_31
    | 32, _ => exact e40_32
    | 33, _ => exact e40_33
    | 34, _ => exact e40_34
    | 35, _ => exact e40_35
    | 36, _ => exact e40_36
    | 37, _ => exact e40_37
    | 38, _ => exact e40_38
    | 39, _ => exact e40_39
    | 40, _ => exact e40_40
    | 41, _ => exact e40_41
    | 42, _ => exact e40_42
    | 43, _ => exact e40_43
    | 44, _ => exact e40_44
    | 45, _ => exact e40_45
    | 46, _ => exact e40_46
    | 47, _ => exact e40_47
    | 48, _ => exact e40_48
    | 49, _ => exact e40_49
    | 50, _ => exact e40_50
    | 51, _ => exact e40_51
    | j + 52, hj => exact absurd hj (by omega))) 2031 (by decide) ?_
  exact wL_law_b2031 C C2 hnl hnl2 E E2 F2 Hself23 hXs kx1 kx2 (isK_ofA (isA_of kx3)) hf
