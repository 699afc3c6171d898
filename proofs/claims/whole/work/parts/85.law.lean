/-! ===== the law: its script, its calls ===== -/
def SC (K : VC) (b L : Nat) (xs : Nat → Int32) : Prop := va_X b L xs (kS K) (kS K).heap ∧ b < (kS K).heap.size ∧ ¬ kA K b
abbrev Lw (b : Nat) (al : Al) (i : Nat) : List (Nat × Value) := [(0, .ref b), (1, .ref (al 9 0 0)), (2, .ref (al 11 0 0)), (3, .ref (al 12 0 1)), (4, .int (nI i))]
section LR
variable {K : VC} {own : String} {cc : ByteArray} {fr lo : Nat} {al : Al} {w : Wd} {pc : Nat} {Lc : List (Nat × Value)} {st : List Value} {b L : Nat} {xs : Nat → Int32}
theorem r_sld (p : Nat) (h : VH K own cc fr lo) (hs : SC K b L xs) {n : Nat} {x : Int32} (hx : x = nI n) (hn : n < L) (hL : L < 2 ^ 31) (d : decode cc pc = .ok (.iaload, 1)) (e : p = pc + 1) (kk : V K al w p Lc (.int (xs n) :: st)) : V K al w pc Lc (.int x :: .ref b :: st) := fun H lc ls hP hD hS hl => by
  subst e; subst hx
  refine va_sld h.x h.b hs.1 hs.2.1 hs.2.2 hS (vp_in_nI hn hL) d ?_
  rw [nI_clamp (by omega)]
  exact kk H lc ls hP hD hS hl
theorem r_slenA (p : Nat) (h : VH K own cc fr lo) (hs : SC K b L xs) (d : decode cc pc = .ok (.arraylength, 1)) (e : p = pc + 1) (kk : V K al w p Lc (.int (nI L) :: st)) : V K al w pc Lc (.ref b :: st) := fun H lc ls hP hD hS hl => by
  subst e
  exact va_slen h.x h.b hs.1 hs.2.1 hs.2.2 hS d (kk H lc ls hP hD hS hl)
/-- script[i + k] -/
theorem r_arg (p : Nat) (h : VH K RL cL_law fr lo) (hs : SC K b L xs) {i k : Nat} {n : Int} (hi : i + k < L) (hL : L < 2 ^ 31) (d0 : decode cL_law pc = .ok (.aload_n 0, 1)) (d1 : decode cL_law (pc + 1) = .ok (.iload 4, 2)) (d2 : decode cL_law (pc + 3) = .ok (.iconst n, 1)) (hk : Int32.ofInt n = nI k) (d3 : decode cL_law (pc + 4) = .ok (.iadd, 1)) (d4 : decode cL_law (pc + 5) = .ok (.iaload, 1)) (e : p = pc + 6) (go : V K al w p (Lw b al i) (.int (xs (i + k)) :: st)) : V K al w pc (Lw b al i) st := by
  subst e
  refine r_aload_n (pc + 1) h d0 rfl 0 rfl rfl ?_
  refine r_iload (pc + 3) h d1 rfl 4 rfl ?_
  refine r_iconst (pc + 4) h d2 rfl hk ?_
  refine r_iadd (pc + 5) h d3 rfl ?_
  exact r_sld (pc + 6) h hs (nI_add i k) hi hL d4 rfl go
end LR

set_option maxRecDepth 100000 in
theorem lwc_0 {K : VC} {al : Al} {w w1 w2 : Wd} {b L i : Nat} {xs : Nat → Int32} {r : Int32} (hk : VH K RL cL_law 15 560) (hN : NX (kG K)) (hs : SC K b L xs) (hi : i + 6 ≤ L) (hL : L < 2 ^ 31) (h1 : fX9_feed w (xs (i + 1)) (xs (i + 2)) (xs (i + 3)) (xs (i + 4)) (xs (i + 5)) = some (r, w1)) (h2 : fX11_feed (gN (kG K) 10) w1 (xs (i + 1)) (xs (i + 2)) (xs (i + 3)) (xs (i + 4)) (xs (i + 5)) = some (r, w2)) (go : V K al w2 1552 (Lw b al i) []) : V K al w 264 (Lw b al i) [] := by
  refine r_aload_n 265 hk dL_law_264 rfl 1 rfl rfl ?_
  refine r_arg 271 hk hs (k := 1) (by omega) hL dL_law_265 dL_law_266 dL_law_268 rfl dL_law_269 dL_law_270 rfl ?_
  refine r_arg 277 hk hs (k := 2) (by omega) hL dL_law_271 dL_law_272 dL_law_274 rfl dL_law_275 dL_law_276 rfl ?_
  refine r_arg 283 hk hs (k := 3) (by omega) hL dL_law_277 dL_law_278 dL_law_280 rfl dL_law_281 dL_law_282 rfl ?_
  refine r_arg 289 hk hs (k := 4) (by omega) hL dL_law_283 dL_law_284 dL_law_286 rfl dL_law_287 dL_law_288 rfl ?_
  refine r_arg 295 hk hs (k := 5) (by omega) hL dL_law_289 dL_law_290 dL_law_292 rfl dL_law_293 dL_law_294 rfl ?_
  refine r_cVi 298 (As := [.int (xs (i + 1)), .int (xs (i + 2)), .int (xs (i + 3)), .int (xs (i + 4)), .int (xs (i + 5))]) (rest := []) hk (kX9_feed hN h1) cf_RL_19 mi_X9_feed ⟨TX9, 16, rfl⟩ dL_law_295 rfl (Nat.le_of_ble_eq_true rfl) (Nat.le_of_ble_eq_true rfl) (mk_9_0 (nx_9 hN (j := 0) (by decide))) rfl rfl (Nat.le_of_ble_eq_true rfl) ?_
  refine r_aload_n 299 hk dL_law_298 rfl 2 rfl rfl ?_
  refine r_arg 305 hk hs (k := 1) (by omega) hL dL_law_299 dL_law_300 dL_law_302 rfl dL_law_303 dL_law_304 rfl ?_
  refine r_arg 311 hk hs (k := 2) (by omega) hL dL_law_305 dL_law_306 dL_law_308 rfl dL_law_309 dL_law_310 rfl ?_
  refine r_arg 317 hk hs (k := 3) (by omega) hL dL_law_311 dL_law_312 dL_law_314 rfl dL_law_315 dL_law_316 rfl ?_
  refine r_arg 323 hk hs (k := 4) (by omega) hL dL_law_317 dL_law_318 dL_law_320 rfl dL_law_321 dL_law_322 rfl ?_
  refine r_arg 329 hk hs (k := 5) (by omega) hL dL_law_323 dL_law_324 dL_law_326 rfl dL_law_327 dL_law_328 rfl ?_
  refine r_cVi 332 (As := [.int (xs (i + 1)), .int (xs (i + 2)), .int (xs (i + 3)), .int (xs (i + 4)), .int (xs (i + 5))]) (rest := [.int r]) hk (kX11_feed hN h2) cf_RL_23 mi_X11_feed ⟨TX11, 36, rfl⟩ dL_law_329 rfl (Nat.le_of_ble_eq_true rfl) (Nat.le_of_ble_eq_true rfl) (mk_11_0 (nx_11 hN (j := 0) (by decide))) rfl rfl (Nat.le_of_ble_eq_true rfl) ?_
  exact r_icmp_eq 1552 335 hk dL_law_332 rfl rfl (fun _ => go) (fun c => absurd rfl c)
set_option maxRecDepth 100000 in
theorem lwc_2 {K : VC} {al : Al} {w w1 w2 : Wd} {b L i : Nat} {xs : Nat → Int32} {r : Int32} (hk : VH K RL cL_law 15 560) (hN : NX (kG K)) (hs : SC K b L xs) (hi : i + 6 ≤ L) (hL : L < 2 ^ 31) (h1 : fX9_fault w = some (r, w1)) (h2 : fX11_fault (gN (kG K) 10) w1 = some (r, w2)) (go : V K al w2 1552 (Lw b al i) []) : V K al w 362 (Lw b al i) [] := by
  refine r_aload_n 363 hk dL_law_362 rfl 1 rfl rfl ?_
  refine r_cVi 366 (As := []) (rest := []) hk (kX9_fault hN h1) cf_RL_28 mi_X9_fault ⟨TX9, 16, rfl⟩ dL_law_363 rfl (Nat.le_of_ble_eq_true rfl) (Nat.le_of_ble_eq_true rfl) (mk_9_0 (nx_9 hN (j := 0) (by decide))) rfl rfl (Nat.le_of_ble_eq_true rfl) ?_
  refine r_aload_n 367 hk dL_law_366 rfl 2 rfl rfl ?_
  refine r_cVi 370 (As := []) (rest := [.int r]) hk (kX11_fault hN h2) cf_RL_32 mi_X11_fault ⟨TX11, 36, rfl⟩ dL_law_367 rfl (Nat.le_of_ble_eq_true rfl) (Nat.le_of_ble_eq_true rfl) (mk_11_0 (nx_11 hN (j := 0) (by decide))) rfl rfl (Nat.le_of_ble_eq_true rfl) ?_
  exact r_icmp_eq 1552 373 hk dL_law_370 rfl rfl (fun _ => go) (fun c => absurd rfl c)
set_option maxRecDepth 100000 in
theorem lwc_3 {K : VC} {al : Al} {w w1 w2 : Wd} {b L i : Nat} {xs : Nat → Int32} {r : Int32} (hk : VH K RL cL_law 15 560) (hN : NX (kG K)) (hs : SC K b L xs) (hi : i + 6 ≤ L) (hL : L < 2 ^ 31) (h1 : fX9_where w = some (r, w1)) (h2 : fX11_where (gN (kG K) 10) w1 = some (r, w2)) (go : V K al w2 1552 (Lw b al i) []) : V K al w 375 (Lw b al i) [] := by
  refine r_aload_n 376 hk dL_law_375 rfl 1 rfl rfl ?_
  refine r_cVi 379 (As := []) (rest := []) hk (kX9_where hN h1) cf_RL_33 mi_X9_where ⟨TX9, 16, rfl⟩ dL_law_376 rfl (Nat.le_of_ble_eq_true rfl) (Nat.le_of_ble_eq_true rfl) (mk_9_0 (nx_9 hN (j := 0) (by decide))) rfl rfl (Nat.le_of_ble_eq_true rfl) ?_
  refine r_aload_n 380 hk dL_law_379 rfl 2 rfl rfl ?_
  refine r_cVi 383 (As := []) (rest := [.int r]) hk (kX11_where hN h2) cf_RL_36 mi_X11_where ⟨TX11, 36, rfl⟩ dL_law_380 rfl (Nat.le_of_ble_eq_true rfl) (Nat.le_of_ble_eq_true rfl) (mk_11_0 (nx_11 hN (j := 0) (by decide))) rfl rfl (Nat.le_of_ble_eq_true rfl) ?_
  exact r_icmp_eq 1552 386 hk dL_law_383 rfl rfl (fun _ => go) (fun c => absurd rfl c)
set_option maxRecDepth 100000 in
theorem lwc_4 {K : VC} {al : Al} {w w1 w2 : Wd} {b L i : Nat} {xs : Nat → Int32} {r : Int32} (hk : VH K RL cL_law 15 560) (hN : NX (kG K)) (hs : SC K b L xs) (hi : i + 6 ≤ L) (hL : L < 2 ^ 31) (h1 : fX9_read w (xs (i + 1)) = some (r, w1)) (h2 : fX11_read (gN (kG K) 10) w1 (xs (i + 1)) = some (r, w2)) (go : V K al w2 1552 (Lw b al i) []) : V K al w 388 (Lw b al i) [] := by
  refine r_aload_n 389 hk dL_law_388 rfl 1 rfl rfl ?_
  refine r_arg 395 hk hs (k := 1) (by omega) hL dL_law_389 dL_law_390 dL_law_392 rfl dL_law_393 dL_law_394 rfl ?_
  refine r_cVi 398 (As := [.int (xs (i + 1))]) (rest := []) hk (kX9_read hN h1) cf_RL_37 mi_X9_read ⟨TX9, 16, rfl⟩ dL_law_395 rfl (Nat.le_of_ble_eq_true rfl) (Nat.le_of_ble_eq_true rfl) (mk_9_0 (nx_9 hN (j := 0) (by decide))) rfl rfl (Nat.le_of_ble_eq_true rfl) ?_
  refine r_aload_n 399 hk dL_law_398 rfl 2 rfl rfl ?_
  refine r_arg 405 hk hs (k := 1) (by omega) hL dL_law_399 dL_law_400 dL_law_402 rfl dL_law_403 dL_law_404 rfl ?_
  refine r_cVi 408 (As := [.int (xs (i + 1))]) (rest := [.int r]) hk (kX11_read hN h2) cf_RL_40 mi_X11_read ⟨TX11, 36, rfl⟩ dL_law_405 rfl (Nat.le_of_ble_eq_true rfl) (Nat.le_of_ble_eq_true rfl) (mk_11_0 (nx_11 hN (j := 0) (by decide))) rfl rfl (Nat.le_of_ble_eq_true rfl) ?_
  exact r_icmp_eq 1552 411 hk dL_law_408 rfl rfl (fun _ => go) (fun c => absurd rfl c)
set_option maxRecDepth 100000 in
theorem lwc_5 {K : VC} {al : Al} {w w1 w2 : Wd} {b L i : Nat} {xs : Nat → Int32} {r : Int32} (hk : VH K RL cL_law 15 560) (hN : NX (kG K)) (hs : SC K b L xs) (hi : i + 6 ≤ L) (hL : L < 2 ^ 31) (h1 : fX9_track w (xs (i + 1)) = some (r, w1)) (h2 : fX11_track (gN (kG K) 10) w1 (xs (i + 1)) = some (r, w2)) (go : V K al w2 1552 (Lw b al i) []) : V K al w 413 (Lw b al i) [] := by
  refine r_aload_n 414 hk dL_law_413 rfl 1 rfl rfl ?_
  refine r_arg 420 hk hs (k := 1) (by omega) hL dL_law_414 dL_law_415 dL_law_417 rfl dL_law_418 dL_law_419 rfl ?_
  refine r_cVi 423 (As := [.int (xs (i + 1))]) (rest := []) hk (kX9_track hN h1) cf_RL_41 mi_X9_track ⟨TX9, 16, rfl⟩ dL_law_420 rfl (Nat.le_of_ble_eq_true rfl) (Nat.le_of_ble_eq_true rfl) (mk_9_0 (nx_9 hN (j := 0) (by decide))) rfl rfl (Nat.le_of_ble_eq_true rfl) ?_
  refine r_aload_n 424 hk dL_law_423 rfl 2 rfl rfl ?_
  refine r_arg 430 hk hs (k := 1) (by omega) hL dL_law_424 dL_law_425 dL_law_427 rfl dL_law_428 dL_law_429 rfl ?_
  refine r_cVi 433 (As := [.int (xs (i + 1))]) (rest := [.int r]) hk (kX11_track hN h2) cf_RL_44 mi_X11_track ⟨TX11, 36, rfl⟩ dL_law_430 rfl (Nat.le_of_ble_eq_true rfl) (Nat.le_of_ble_eq_true rfl) (mk_11_0 (nx_11 hN (j := 0) (by decide))) rfl rfl (Nat.le_of_ble_eq_true rfl) ?_
  exact r_icmp_eq 1552 436 hk dL_law_433 rfl rfl (fun _ => go) (fun c => absurd rfl c)
set_option maxRecDepth 100000 in
theorem lwc_6 {K : VC} {al : Al} {w w1 w2 : Wd} {b L i : Nat} {xs : Nat → Int32} {r : Int32} (hk : VH K RL cL_law 15 560) (hN : NX (kG K)) (hs : SC K b L xs) (hi : i + 6 ≤ L) (hL : L < 2 ^ 31) (h1 : fX9_bandOf w (xs (i + 1)) = some (r, w1)) (h2 : fX11_bandOf (gN (kG K) 10) w1 (xs (i + 1)) = some (r, w2)) (go : V K al w2 1552 (Lw b al i) []) : V K al w 438 (Lw b al i) [] := by
  refine r_aload_n 439 hk dL_law_438 rfl 1 rfl rfl ?_
  refine r_arg 445 hk hs (k := 1) (by omega) hL dL_law_439 dL_law_440 dL_law_442 rfl dL_law_443 dL_law_444 rfl ?_
  refine r_cVi 448 (As := [.int (xs (i + 1))]) (rest := []) hk (kX9_bandOf hN h1) cf_RL_45 mi_X9_bandOf ⟨TX9, 16, rfl⟩ dL_law_445 rfl (Nat.le_of_ble_eq_true rfl) (Nat.le_of_ble_eq_true rfl) (mk_9_0 (nx_9 hN (j := 0) (by decide))) rfl rfl (Nat.le_of_ble_eq_true rfl) ?_
  refine r_aload_n 449 hk dL_law_448 rfl 2 rfl rfl ?_
  refine r_arg 455 hk hs (k := 1) (by omega) hL dL_law_449 dL_law_450 dL_law_452 rfl dL_law_453 dL_law_454 rfl ?_
  refine r_cVi 458 (As := [.int (xs (i + 1))]) (rest := [.int r]) hk (kX11_bandOf hN h2) cf_RL_48 mi_X11_bandOf ⟨TX11, 36, rfl⟩ dL_law_455 rfl (Nat.le_of_ble_eq_true rfl) (Nat.le_of_ble_eq_true rfl) (mk_11_0 (nx_11 hN (j := 0) (by decide))) rfl rfl (Nat.le_of_ble_eq_true rfl) ?_
  exact r_icmp_eq 1552 461 hk dL_law_458 rfl rfl (fun _ => go) (fun c => absurd rfl c)
set_option maxRecDepth 100000 in
theorem lwc_7 {K : VC} {al : Al} {w w1 w2 : Wd} {b L i : Nat} {xs : Nat → Int32} {r : Int32} (hk : VH K RL cL_law 15 560) (hN : NX (kG K)) (hs : SC K b L xs) (hi : i + 6 ≤ L) (hL : L < 2 ^ 31) (h1 : fX9_band w (xs (i + 1)) (xs (i + 2)) = some (r, w1)) (h2 : fX11_band (gN (kG K) 10) w1 (xs (i + 1)) (xs (i + 2)) = some (r, w2)) (go : V K al w2 1552 (Lw b al i) []) : V K al w 463 (Lw b al i) [] := by
  refine r_aload_n 464 hk dL_law_463 rfl 1 rfl rfl ?_
  refine r_arg 470 hk hs (k := 1) (by omega) hL dL_law_464 dL_law_465 dL_law_467 rfl dL_law_468 dL_law_469 rfl ?_
  refine r_arg 476 hk hs (k := 2) (by omega) hL dL_law_470 dL_law_471 dL_law_473 rfl dL_law_474 dL_law_475 rfl ?_
  refine r_cVi 479 (As := [.int (xs (i + 1)), .int (xs (i + 2))]) (rest := []) hk (kX9_band hN h1) cf_RL_49 mi_X9_band ⟨TX9, 16, rfl⟩ dL_law_476 rfl (Nat.le_of_ble_eq_true rfl) (Nat.le_of_ble_eq_true rfl) (mk_9_0 (nx_9 hN (j := 0) (by decide))) rfl rfl (Nat.le_of_ble_eq_true rfl) ?_
  refine r_aload_n 480 hk dL_law_479 rfl 2 rfl rfl ?_
  refine r_arg 486 hk hs (k := 1) (by omega) hL dL_law_480 dL_law_481 dL_law_483 rfl dL_law_484 dL_law_485 rfl ?_
  refine r_arg 492 hk hs (k := 2) (by omega) hL dL_law_486 dL_law_487 dL_law_489 rfl dL_law_490 dL_law_491 rfl ?_
  refine r_cVi 495 (As := [.int (xs (i + 1)), .int (xs (i + 2))]) (rest := [.int r]) hk (kX11_band hN h2) cf_RL_53 mi_X11_band ⟨TX11, 36, rfl⟩ dL_law_492 rfl (Nat.le_of_ble_eq_true rfl) (Nat.le_of_ble_eq_true rfl) (mk_11_0 (nx_11 hN (j := 0) (by decide))) rfl rfl (Nat.le_of_ble_eq_true rfl) ?_
  exact r_icmp_eq 1552 498 hk dL_law_495 rfl rfl (fun _ => go) (fun c => absurd rfl c)
set_option maxRecDepth 100000 in
theorem lwc_8 {K : VC} {al : Al} {w w1 w2 : Wd} {b L i : Nat} {xs : Nat → Int32} {r : Int32} (hk : VH K RL cL_law 15 560) (hN : NX (kG K)) (hs : SC K b L xs) (hi : i + 6 ≤ L) (hL : L < 2 ^ 31) (h1 : fX9_wide w = some (r, w1)) (h2 : fX11_wide (gN (kG K) 10) w1 = some (r, w2)) (go : V K al w2 1552 (Lw b al i) []) : V K al w 500 (Lw b al i) [] := by
  refine r_aload_n 501 hk dL_law_500 rfl 1 rfl rfl ?_
  refine r_cVi 504 (As := []) (rest := []) hk (kX9_wide hN h1) cf_RL_54 mi_X9_wide ⟨TX9, 16, rfl⟩ dL_law_501 rfl (Nat.le_of_ble_eq_true rfl) (Nat.le_of_ble_eq_true rfl) (mk_9_0 (nx_9 hN (j := 0) (by decide))) rfl rfl (Nat.le_of_ble_eq_true rfl) ?_
  refine r_aload_n 505 hk dL_law_504 rfl 2 rfl rfl ?_
  refine r_cVi 508 (As := []) (rest := [.int r]) hk (kX11_wide hN h2) cf_RL_57 mi_X11_wide ⟨TX11, 36, rfl⟩ dL_law_505 rfl (Nat.le_of_ble_eq_true rfl) (Nat.le_of_ble_eq_true rfl) (mk_11_0 (nx_11 hN (j := 0) (by decide))) rfl rfl (Nat.le_of_ble_eq_true rfl) ?_
  exact r_icmp_eq 1552 511 hk dL_law_508 rfl rfl (fun _ => go) (fun c => absurd rfl c)
set_option maxRecDepth 100000 in
theorem lwc_9 {K : VC} {al : Al} {w w1 w2 : Wd} {b L i : Nat} {xs : Nat → Int32} {r : Int32} (hk : VH K RL cL_law 15 560) (hN : NX (kG K)) (hs : SC K b L xs) (hi : i + 6 ≤ L) (hL : L < 2 ^ 31) (h1 : fX9_down w = some (r, w1)) (h2 : fX11_down (gN (kG K) 10) w1 = some (r, w2)) (go : V K al w2 1552 (Lw b al i) []) : V K al w 513 (Lw b al i) [] := by
  refine r_aload_n 514 hk dL_law_513 rfl 1 rfl rfl ?_
  refine r_cVi 517 (As := []) (rest := []) hk (kX9_down hN h1) cf_RL_58 mi_X9_down ⟨TX9, 16, rfl⟩ dL_law_514 rfl (Nat.le_of_ble_eq_true rfl) (Nat.le_of_ble_eq_true rfl) (mk_9_0 (nx_9 hN (j := 0) (by decide))) rfl rfl (Nat.le_of_ble_eq_true rfl) ?_
  refine r_aload_n 518 hk dL_law_517 rfl 2 rfl rfl ?_
  refine r_cVi 521 (As := []) (rest := [.int r]) hk (kX11_down hN h2) cf_RL_61 mi_X11_down ⟨TX11, 36, rfl⟩ dL_law_518 rfl (Nat.le_of_ble_eq_true rfl) (Nat.le_of_ble_eq_true rfl) (mk_11_0 (nx_11 hN (j := 0) (by decide))) rfl rfl (Nat.le_of_ble_eq_true rfl) ?_
  exact r_icmp_eq 1552 524 hk dL_law_521 rfl rfl (fun _ => go) (fun c => absurd rfl c)
set_option maxRecDepth 100000 in
theorem lwc_10 {K : VC} {al : Al} {w w1 w2 : Wd} {b L i : Nat} {xs : Nat → Int32} {r : Int32} (hk : VH K RL cL_law 15 560) (hN : NX (kG K)) (hs : SC K b L xs) (hi : i + 6 ≤ L) (hL : L < 2 ^ 31) (h1 : fX9_journal w = some (r, w1)) (h2 : fX11_journal (gN (kG K) 10) w1 = some (r, w2)) (go : V K al w2 1552 (Lw b al i) []) : V K al w 526 (Lw b al i) [] := by
  refine r_aload_n 527 hk dL_law_526 rfl 1 rfl rfl ?_
  refine r_cVi 530 (As := []) (rest := []) hk (kX9_journal hN h1) cf_RL_62 mi_X9_journal ⟨TX9, 16, rfl⟩ dL_law_527 rfl (Nat.le_of_ble_eq_true rfl) (Nat.le_of_ble_eq_true rfl) (mk_9_0 (nx_9 hN (j := 0) (by decide))) rfl rfl (Nat.le_of_ble_eq_true rfl) ?_
  refine r_aload_n 531 hk dL_law_530 rfl 2 rfl rfl ?_
  refine r_cVi 534 (As := []) (rest := [.int r]) hk (kX11_journal hN h2) cf_RL_65 mi_X11_journal ⟨TX11, 36, rfl⟩ dL_law_531 rfl (Nat.le_of_ble_eq_true rfl) (Nat.le_of_ble_eq_true rfl) (mk_11_0 (nx_11 hN (j := 0) (by decide))) rfl rfl (Nat.le_of_ble_eq_true rfl) ?_
  exact r_icmp_eq 1552 537 hk dL_law_534 rfl rfl (fun _ => go) (fun c => absurd rfl c)
set_option maxRecDepth 100000 in
theorem lwc_11 {K : VC} {al : Al} {w w1 w2 : Wd} {b L i : Nat} {xs : Nat → Int32} {r : Int32} (hk : VH K RL cL_law 15 560) (hN : NX (kG K)) (hs : SC K b L xs) (hi : i + 6 ≤ L) (hL : L < 2 ^ 31) (h1 : fX9_entries w = some (r, w1)) (h2 : fX11_entries (gN (kG K) 10) w1 = some (r, w2)) (go : V K al w2 1552 (Lw b al i) []) : V K al w 539 (Lw b al i) [] := by
  refine r_aload_n 540 hk dL_law_539 rfl 1 rfl rfl ?_
  refine r_cVi 543 (As := []) (rest := []) hk (kX9_entries hN h1) cf_RL_66 mi_X9_entries ⟨TX9, 16, rfl⟩ dL_law_540 rfl (Nat.le_of_ble_eq_true rfl) (Nat.le_of_ble_eq_true rfl) (mk_9_0 (nx_9 hN (j := 0) (by decide))) rfl rfl (Nat.le_of_ble_eq_true rfl) ?_
  refine r_aload_n 544 hk dL_law_543 rfl 2 rfl rfl ?_
  refine r_cVi 547 (As := []) (rest := [.int r]) hk (kX11_entries hN h2) cf_RL_69 mi_X11_entries ⟨TX11, 36, rfl⟩ dL_law_544 rfl (Nat.le_of_ble_eq_true rfl) (Nat.le_of_ble_eq_true rfl) (mk_11_0 (nx_11 hN (j := 0) (by decide))) rfl rfl (Nat.le_of_ble_eq_true rfl) ?_
  exact r_icmp_eq 1552 550 hk dL_law_547 rfl rfl (fun _ => go) (fun c => absurd rfl c)
set_option maxRecDepth 100000 in
theorem lwc_12 {K : VC} {al : Al} {w w1 w2 : Wd} {b L i : Nat} {xs : Nat → Int32} {r : Int32} (hk : VH K RL cL_law 15 560) (hN : NX (kG K)) (hs : SC K b L xs) (hi : i + 6 ≤ L) (hL : L < 2 ^ 31) (h1 : fX9_entry w (xs (i + 1)) (xs (i + 2)) = some (r, w1)) (h2 : fX11_entry (gN (kG K) 10) w1 (xs (i + 1)) (xs (i + 2)) = some (r, w2)) (go : V K al w2 1552 (Lw b al i) []) : V K al w 552 (Lw b al i) [] := by
  refine r_aload_n 553 hk dL_law_552 rfl 1 rfl rfl ?_
  refine r_arg 559 hk hs (k := 1) (by omega) hL dL_law_553 dL_law_554 dL_law_556 rfl dL_law_557 dL_law_558 rfl ?_
  refine r_arg 565 hk hs (k := 2) (by omega) hL dL_law_559 dL_law_560 dL_law_562 rfl dL_law_563 dL_law_564 rfl ?_
  refine r_cVi 568 (As := [.int (xs (i + 1)), .int (xs (i + 2))]) (rest := []) hk (kX9_entry hN h1) cf_RL_70 mi_X9_entry ⟨TX9, 16, rfl⟩ dL_law_565 rfl (Nat.le_of_ble_eq_true rfl) (Nat.le_of_ble_eq_true rfl) (mk_9_0 (nx_9 hN (j := 0) (by decide))) rfl rfl (Nat.le_of_ble_eq_true rfl) ?_
  refine r_aload_n 569 hk dL_law_568 rfl 2 rfl rfl ?_
  refine r_arg 575 hk hs (k := 1) (by omega) hL dL_law_569 dL_law_570 dL_law_572 rfl dL_law_573 dL_law_574 rfl ?_
  refine r_arg 581 hk hs (k := 2) (by omega) hL dL_law_575 dL_law_576 dL_law_578 rfl dL_law_579 dL_law_580 rfl ?_
  refine r_cVi 584 (As := [.int (xs (i + 1)), .int (xs (i + 2))]) (rest := [.int r]) hk (kX11_entry hN h2) cf_RL_73 mi_X11_entry ⟨TX11, 36, rfl⟩ dL_law_581 rfl (Nat.le_of_ble_eq_true rfl) (Nat.le_of_ble_eq_true rfl) (mk_11_0 (nx_11 hN (j := 0) (by decide))) rfl rfl (Nat.le_of_ble_eq_true rfl) ?_
  exact r_icmp_eq 1552 587 hk dL_law_584 rfl rfl (fun _ => go) (fun c => absurd rfl c)
set_option maxRecDepth 100000 in
theorem lwc_13 {K : VC} {al : Al} {w w1 w2 : Wd} {b L i : Nat} {xs : Nat → Int32} {r : Int32} (hk : VH K RL cL_law 15 560) (hN : NX (kG K)) (hs : SC K b L xs) (hi : i + 6 ≤ L) (hL : L < 2 ^ 31) (h1 : fX9_live w = some (r, w1)) (h2 : fX11_live (gN (kG K) 10) w1 = some (r, w2)) (go : V K al w2 1552 (Lw b al i) []) : V K al w 589 (Lw b al i) [] := by
  refine r_aload_n 590 hk dL_law_589 rfl 1 rfl rfl ?_
  refine r_cVi 593 (As := []) (rest := []) hk (kX9_live hN h1) cf_RL_74 mi_X9_live ⟨TX9, 16, rfl⟩ dL_law_590 rfl (Nat.le_of_ble_eq_true rfl) (Nat.le_of_ble_eq_true rfl) (mk_9_0 (nx_9 hN (j := 0) (by decide))) rfl rfl (Nat.le_of_ble_eq_true rfl) ?_
  refine r_aload_n 594 hk dL_law_593 rfl 2 rfl rfl ?_
  refine r_cVi 597 (As := []) (rest := [.int r]) hk (kX11_live hN h2) cf_RL_77 mi_X11_live ⟨TX11, 36, rfl⟩ dL_law_594 rfl (Nat.le_of_ble_eq_true rfl) (Nat.le_of_ble_eq_true rfl) (mk_11_0 (nx_11 hN (j := 0) (by decide))) rfl rfl (Nat.le_of_ble_eq_true rfl) ?_
  exact r_icmp_eq 1552 600 hk dL_law_597 rfl rfl (fun _ => go) (fun c => absurd rfl c)
set_option maxRecDepth 100000 in
theorem lwc_14 {K : VC} {al : Al} {w w1 w2 : Wd} {b L i : Nat} {xs : Nat → Int32} {r : Int32} (hk : VH K RL cL_law 15 560) (hN : NX (kG K)) (hs : SC K b L xs) (hi : i + 6 ≤ L) (hL : L < 2 ^ 31) (h1 : fX9_extents w = some (r, w1)) (h2 : fX11_extents (gN (kG K) 10) w1 = some (r, w2)) (go : V K al w2 1552 (Lw b al i) []) : V K al w 602 (Lw b al i) [] := by
  refine r_aload_n 603 hk dL_law_602 rfl 1 rfl rfl ?_
  refine r_cVi 606 (As := []) (rest := []) hk (kX9_extents hN h1) cf_RL_78 mi_X9_extents ⟨TX9, 16, rfl⟩ dL_law_603 rfl (Nat.le_of_ble_eq_true rfl) (Nat.le_of_ble_eq_true rfl) (mk_9_0 (nx_9 hN (j := 0) (by decide))) rfl rfl (Nat.le_of_ble_eq_true rfl) ?_
  refine r_aload_n 607 hk dL_law_606 rfl 2 rfl rfl ?_
  refine r_cVi 610 (As := []) (rest := [.int r]) hk (kX11_extents hN h2) cf_RL_81 mi_X11_extents ⟨TX11, 36, rfl⟩ dL_law_607 rfl (Nat.le_of_ble_eq_true rfl) (Nat.le_of_ble_eq_true rfl) (mk_11_0 (nx_11 hN (j := 0) (by decide))) rfl rfl (Nat.le_of_ble_eq_true rfl) ?_
  exact r_icmp_eq 1552 613 hk dL_law_610 rfl rfl (fun _ => go) (fun c => absurd rfl c)
set_option maxRecDepth 100000 in
theorem lwc_15 {K : VC} {al : Al} {w w1 w2 : Wd} {b L i : Nat} {xs : Nat → Int32} {r : Int32} (hk : VH K RL cL_law 15 560) (hN : NX (kG K)) (hs : SC K b L xs) (hi : i + 6 ≤ L) (hL : L < 2 ^ 31) (h1 : fX9_extent w (xs (i + 1)) (xs (i + 2)) = some (r, w1)) (h2 : fX11_extent (gN (kG K) 10) w1 (xs (i + 1)) (xs (i + 2)) = some (r, w2)) (go : V K al w2 1552 (Lw b al i) []) : V K al w 615 (Lw b al i) [] := by
  refine r_aload_n 616 hk dL_law_615 rfl 1 rfl rfl ?_
  refine r_arg 622 hk hs (k := 1) (by omega) hL dL_law_616 dL_law_617 dL_law_619 rfl dL_law_620 dL_law_621 rfl ?_
  refine r_arg 628 hk hs (k := 2) (by omega) hL dL_law_622 dL_law_623 dL_law_625 rfl dL_law_626 dL_law_627 rfl ?_
  refine r_cVi 631 (As := [.int (xs (i + 1)), .int (xs (i + 2))]) (rest := []) hk (kX9_extent hN h1) cf_RL_82 mi_X9_extent ⟨TX9, 16, rfl⟩ dL_law_628 rfl (Nat.le_of_ble_eq_true rfl) (Nat.le_of_ble_eq_true rfl) (mk_9_0 (nx_9 hN (j := 0) (by decide))) rfl rfl (Nat.le_of_ble_eq_true rfl) ?_
  refine r_aload_n 632 hk dL_law_631 rfl 2 rfl rfl ?_
  refine r_arg 638 hk hs (k := 1) (by omega) hL dL_law_632 dL_law_633 dL_law_635 rfl dL_law_636 dL_law_637 rfl ?_
  refine r_arg 644 hk hs (k := 2) (by omega) hL dL_law_638 dL_law_639 dL_law_641 rfl dL_law_642 dL_law_643 rfl ?_
  refine r_cVi 647 (As := [.int (xs (i + 1)), .int (xs (i + 2))]) (rest := [.int r]) hk (kX11_extent hN h2) cf_RL_85 mi_X11_extent ⟨TX11, 36, rfl⟩ dL_law_644 rfl (Nat.le_of_ble_eq_true rfl) (Nat.le_of_ble_eq_true rfl) (mk_11_0 (nx_11 hN (j := 0) (by decide))) rfl rfl (Nat.le_of_ble_eq_true rfl) ?_
  exact r_icmp_eq 1552 650 hk dL_law_647 rfl rfl (fun _ => go) (fun c => absurd rfl c)
set_option maxRecDepth 100000 in
theorem lwc_16 {K : VC} {al : Al} {w w1 w2 : Wd} {b L i : Nat} {xs : Nat → Int32} {r : Int32} (hk : VH K RL cL_law 15 560) (hN : NX (kG K)) (hs : SC K b L xs) (hi : i + 6 ≤ L) (hL : L < 2 ^ 31) (h1 : fX9_extentFrom w (xs (i + 1)) = some (r, w1)) (h2 : fX11_extentFrom (gN (kG K) 10) w1 (xs (i + 1)) = some (r, w2)) (go : V K al w2 1552 (Lw b al i) []) : V K al w 652 (Lw b al i) [] := by
  refine r_aload_n 653 hk dL_law_652 rfl 1 rfl rfl ?_
  refine r_arg 659 hk hs (k := 1) (by omega) hL dL_law_653 dL_law_654 dL_law_656 rfl dL_law_657 dL_law_658 rfl ?_
  refine r_cVi 662 (As := [.int (xs (i + 1))]) (rest := []) hk (kX9_extentFrom hN h1) cf_RL_86 mi_X9_extentFrom ⟨TX9, 16, rfl⟩ dL_law_659 rfl (Nat.le_of_ble_eq_true rfl) (Nat.le_of_ble_eq_true rfl) (mk_9_0 (nx_9 hN (j := 0) (by decide))) rfl rfl (Nat.le_of_ble_eq_true rfl) ?_
  refine r_aload_n 663 hk dL_law_662 rfl 2 rfl rfl ?_
  refine r_arg 669 hk hs (k := 1) (by omega) hL dL_law_663 dL_law_664 dL_law_666 rfl dL_law_667 dL_law_668 rfl ?_
  refine r_cVi 672 (As := [.int (xs (i + 1))]) (rest := [.int r]) hk (kX11_extentFrom hN h2) cf_RL_89 mi_X11_extentFrom ⟨TX11, 36, rfl⟩ dL_law_669 rfl (Nat.le_of_ble_eq_true rfl) (Nat.le_of_ble_eq_true rfl) (mk_11_0 (nx_11 hN (j := 0) (by decide))) rfl rfl (Nat.le_of_ble_eq_true rfl) ?_
  exact r_icmp_eq 1552 675 hk dL_law_672 rfl rfl (fun _ => go) (fun c => absurd rfl c)
set_option maxRecDepth 100000 in
theorem lwc_17 {K : VC} {al : Al} {w w1 w2 : Wd} {b L i : Nat} {xs : Nat → Int32} {r : Int32} (hk : VH K RL cL_law 15 560) (hN : NX (kG K)) (hs : SC K b L xs) (hi : i + 6 ≤ L) (hL : L < 2 ^ 31) (h1 : fX9_cleansNext w = some (r, w1)) (h2 : fX11_cleansNext (gN (kG K) 10) w1 = some (r, w2)) (go : V K al w2 1552 (Lw b al i) []) : V K al w 677 (Lw b al i) [] := by
  refine r_aload_n 678 hk dL_law_677 rfl 1 rfl rfl ?_
  refine r_cVi 681 (As := []) (rest := []) hk (kX9_cleansNext hN h1) cf_RL_90 mi_X9_cleansNext ⟨TX9, 16, rfl⟩ dL_law_678 rfl (Nat.le_of_ble_eq_true rfl) (Nat.le_of_ble_eq_true rfl) (mk_9_0 (nx_9 hN (j := 0) (by decide))) rfl rfl (Nat.le_of_ble_eq_true rfl) ?_
  refine r_aload_n 682 hk dL_law_681 rfl 2 rfl rfl ?_
  refine r_cVi 685 (As := []) (rest := [.int r]) hk (kX11_cleansNext hN h2) cf_RL_93 mi_X11_cleansNext ⟨TX11, 36, rfl⟩ dL_law_682 rfl (Nat.le_of_ble_eq_true rfl) (Nat.le_of_ble_eq_true rfl) (mk_11_0 (nx_11 hN (j := 0) (by decide))) rfl rfl (Nat.le_of_ble_eq_true rfl) ?_
  exact r_icmp_eq 1552 688 hk dL_law_685 rfl rfl (fun _ => go) (fun c => absurd rfl c)
set_option maxRecDepth 100000 in
theorem lwc_18 {K : VC} {al : Al} {w w1 w2 : Wd} {b L i : Nat} {xs : Nat → Int32} {r : Int32} (hk : VH K RL cL_law 15 560) (hN : NX (kG K)) (hs : SC K b L xs) (hi : i + 6 ≤ L) (hL : L < 2 ^ 31) (h1 : fX9_cleansThen w (xs (i + 1)) = some (r, w1)) (h2 : fX11_cleansThen (gN (kG K) 10) w1 (xs (i + 1)) = some (r, w2)) (go : V K al w2 1552 (Lw b al i) []) : V K al w 690 (Lw b al i) [] := by
  refine r_aload_n 691 hk dL_law_690 rfl 1 rfl rfl ?_
  refine r_arg 697 hk hs (k := 1) (by omega) hL dL_law_691 dL_law_692 dL_law_694 rfl dL_law_695 dL_law_696 rfl ?_
  refine r_cVi 700 (As := [.int (xs (i + 1))]) (rest := []) hk (kX9_cleansThen hN h1) cf_RL_94 mi_X9_cleansThen ⟨TX9, 16, rfl⟩ dL_law_697 rfl (Nat.le_of_ble_eq_true rfl) (Nat.le_of_ble_eq_true rfl) (mk_9_0 (nx_9 hN (j := 0) (by decide))) rfl rfl (Nat.le_of_ble_eq_true rfl) ?_
  refine r_aload_n 701 hk dL_law_700 rfl 2 rfl rfl ?_
  refine r_arg 707 hk hs (k := 1) (by omega) hL dL_law_701 dL_law_702 dL_law_704 rfl dL_law_705 dL_law_706 rfl ?_
  refine r_cVi 710 (As := [.int (xs (i + 1))]) (rest := [.int r]) hk (kX11_cleansThen hN h2) cf_RL_97 mi_X11_cleansThen ⟨TX11, 36, rfl⟩ dL_law_707 rfl (Nat.le_of_ble_eq_true rfl) (Nat.le_of_ble_eq_true rfl) (mk_11_0 (nx_11 hN (j := 0) (by decide))) rfl rfl (Nat.le_of_ble_eq_true rfl) ?_
  exact r_icmp_eq 1552 713 hk dL_law_710 rfl rfl (fun _ => go) (fun c => absurd rfl c)
set_option maxRecDepth 100000 in
theorem lwc_19 {K : VC} {al : Al} {w w1 w2 : Wd} {b L i : Nat} {xs : Nat → Int32} {r : Int32} (hk : VH K RL cL_law 15 560) (hN : NX (kG K)) (hs : SC K b L xs) (hi : i + 6 ≤ L) (hL : L < 2 ^ 31) (h1 : fX9_steps w (xs (i + 1)) = some (r, w1)) (h2 : fX11_steps (gN (kG K) 10) w1 (xs (i + 1)) = some (r, w2)) (go : V K al w2 1552 (Lw b al i) []) : V K al w 715 (Lw b al i) [] := by
  refine r_aload_n 716 hk dL_law_715 rfl 1 rfl rfl ?_
  refine r_arg 722 hk hs (k := 1) (by omega) hL dL_law_716 dL_law_717 dL_law_719 rfl dL_law_720 dL_law_721 rfl ?_
  refine r_cVi 725 (As := [.int (xs (i + 1))]) (rest := []) hk (kX9_steps hN h1) cf_RL_98 mi_X9_steps ⟨TX9, 16, rfl⟩ dL_law_722 rfl (Nat.le_of_ble_eq_true rfl) (Nat.le_of_ble_eq_true rfl) (mk_9_0 (nx_9 hN (j := 0) (by decide))) rfl rfl (Nat.le_of_ble_eq_true rfl) ?_
  refine r_aload_n 726 hk dL_law_725 rfl 2 rfl rfl ?_
  refine r_arg 732 hk hs (k := 1) (by omega) hL dL_law_726 dL_law_727 dL_law_729 rfl dL_law_730 dL_law_731 rfl ?_
  refine r_cVi 735 (As := [.int (xs (i + 1))]) (rest := [.int r]) hk (kX11_steps hN h2) cf_RL_101 mi_X11_steps ⟨TX11, 36, rfl⟩ dL_law_732 rfl (Nat.le_of_ble_eq_true rfl) (Nat.le_of_ble_eq_true rfl) (mk_11_0 (nx_11 hN (j := 0) (by decide))) rfl rfl (Nat.le_of_ble_eq_true rfl) ?_
  exact r_icmp_eq 1552 738 hk dL_law_735 rfl rfl (fun _ => go) (fun c => absurd rfl c)
set_option maxRecDepth 100000 in
theorem lwc_20 {K : VC} {al : Al} {w w1 w2 : Wd} {b L i : Nat} {xs : Nat → Int32} {r : Int32} (hk : VH K RL cL_law 15 560) (hN : NX (kG K)) (hs : SC K b L xs) (hi : i + 6 ≤ L) (hL : L < 2 ^ 31) (h1 : fX9_rids w (xs (i + 1)) = some (r, w1)) (h2 : fX11_rids (gN (kG K) 10) w1 (xs (i + 1)) = some (r, w2)) (go : V K al w2 1552 (Lw b al i) []) : V K al w 740 (Lw b al i) [] := by
  refine r_aload_n 741 hk dL_law_740 rfl 1 rfl rfl ?_
  refine r_arg 747 hk hs (k := 1) (by omega) hL dL_law_741 dL_law_742 dL_law_744 rfl dL_law_745 dL_law_746 rfl ?_
  refine r_cVi 750 (As := [.int (xs (i + 1))]) (rest := []) hk (kX9_rids hN h1) cf_RL_102 mi_X9_rids ⟨TX9, 16, rfl⟩ dL_law_747 rfl (Nat.le_of_ble_eq_true rfl) (Nat.le_of_ble_eq_true rfl) (mk_9_0 (nx_9 hN (j := 0) (by decide))) rfl rfl (Nat.le_of_ble_eq_true rfl) ?_
  refine r_aload_n 751 hk dL_law_750 rfl 2 rfl rfl ?_
  refine r_arg 757 hk hs (k := 1) (by omega) hL dL_law_751 dL_law_752 dL_law_754 rfl dL_law_755 dL_law_756 rfl ?_
  refine r_cVi 760 (As := [.int (xs (i + 1))]) (rest := [.int r]) hk (kX11_rids hN h2) cf_RL_105 mi_X11_rids ⟨TX11, 36, rfl⟩ dL_law_757 rfl (Nat.le_of_ble_eq_true rfl) (Nat.le_of_ble_eq_true rfl) (mk_11_0 (nx_11 hN (j := 0) (by decide))) rfl rfl (Nat.le_of_ble_eq_true rfl) ?_
  exact r_icmp_eq 1552 763 hk dL_law_760 rfl rfl (fun _ => go) (fun c => absurd rfl c)
set_option maxRecDepth 100000 in
theorem lwc_21 {K : VC} {al : Al} {w w1 w2 : Wd} {b L i : Nat} {xs : Nat → Int32} {r : Int32} (hk : VH K RL cL_law 15 560) (hN : NX (kG K)) (hs : SC K b L xs) (hi : i + 6 ≤ L) (hL : L < 2 ^ 31) (h1 : fX9_damages w (xs (i + 1)) (xs (i + 2)) = some (r, w1)) (h2 : fX11_damages (gN (kG K) 10) w1 (xs (i + 1)) (xs (i + 2)) = some (r, w2)) (go : V K al w2 1552 (Lw b al i) []) : V K al w 765 (Lw b al i) [] := by
  refine r_aload_n 766 hk dL_law_765 rfl 1 rfl rfl ?_
  refine r_arg 772 hk hs (k := 1) (by omega) hL dL_law_766 dL_law_767 dL_law_769 rfl dL_law_770 dL_law_771 rfl ?_
  refine r_arg 778 hk hs (k := 2) (by omega) hL dL_law_772 dL_law_773 dL_law_775 rfl dL_law_776 dL_law_777 rfl ?_
  refine r_cVi 781 (As := [.int (xs (i + 1)), .int (xs (i + 2))]) (rest := []) hk (kX9_damages hN h1) cf_RL_106 mi_X9_damages ⟨TX9, 16, rfl⟩ dL_law_778 rfl (Nat.le_of_ble_eq_true rfl) (Nat.le_of_ble_eq_true rfl) (mk_9_0 (nx_9 hN (j := 0) (by decide))) rfl rfl (Nat.le_of_ble_eq_true rfl) ?_
  refine r_aload_n 782 hk dL_law_781 rfl 2 rfl rfl ?_
  refine r_arg 788 hk hs (k := 1) (by omega) hL dL_law_782 dL_law_783 dL_law_785 rfl dL_law_786 dL_law_787 rfl ?_
  refine r_arg 794 hk hs (k := 2) (by omega) hL dL_law_788 dL_law_789 dL_law_791 rfl dL_law_792 dL_law_793 rfl ?_
  refine r_cVi 797 (As := [.int (xs (i + 1)), .int (xs (i + 2))]) (rest := [.int r]) hk (kX11_damages hN h2) cf_RL_109 mi_X11_damages ⟨TX11, 36, rfl⟩ dL_law_794 rfl (Nat.le_of_ble_eq_true rfl) (Nat.le_of_ble_eq_true rfl) (mk_11_0 (nx_11 hN (j := 0) (by decide))) rfl rfl (Nat.le_of_ble_eq_true rfl) ?_
  exact r_icmp_eq 1552 800 hk dL_law_797 rfl rfl (fun _ => go) (fun c => absurd rfl c)
set_option maxRecDepth 100000 in
theorem lwc_22 {K : VC} {al : Al} {w w1 w2 : Wd} {b L i : Nat} {xs : Nat → Int32} {r : Int32} (hk : VH K RL cL_law 15 560) (hN : NX (kG K)) (hs : SC K b L xs) (hi : i + 6 ≤ L) (hL : L < 2 ^ 31) (h1 : fX9_fullThen w (xs (i + 1)) (xs (i + 2)) = some (r, w1)) (h2 : fX11_fullThen (gN (kG K) 10) w1 (xs (i + 1)) (xs (i + 2)) = some (r, w2)) (go : V K al w2 1552 (Lw b al i) []) : V K al w 802 (Lw b al i) [] := by
  refine r_aload_n 803 hk dL_law_802 rfl 1 rfl rfl ?_
  refine r_arg 809 hk hs (k := 1) (by omega) hL dL_law_803 dL_law_804 dL_law_806 rfl dL_law_807 dL_law_808 rfl ?_
  refine r_arg 815 hk hs (k := 2) (by omega) hL dL_law_809 dL_law_810 dL_law_812 rfl dL_law_813 dL_law_814 rfl ?_
  refine r_cVi 818 (As := [.int (xs (i + 1)), .int (xs (i + 2))]) (rest := []) hk (kX9_fullThen hN h1) cf_RL_110 mi_X9_fullThen ⟨TX9, 16, rfl⟩ dL_law_815 rfl (Nat.le_of_ble_eq_true rfl) (Nat.le_of_ble_eq_true rfl) (mk_9_0 (nx_9 hN (j := 0) (by decide))) rfl rfl (Nat.le_of_ble_eq_true rfl) ?_
  refine r_aload_n 819 hk dL_law_818 rfl 2 rfl rfl ?_
  refine r_arg 825 hk hs (k := 1) (by omega) hL dL_law_819 dL_law_820 dL_law_822 rfl dL_law_823 dL_law_824 rfl ?_
  refine r_arg 831 hk hs (k := 2) (by omega) hL dL_law_825 dL_law_826 dL_law_828 rfl dL_law_829 dL_law_830 rfl ?_
  refine r_cVi 834 (As := [.int (xs (i + 1)), .int (xs (i + 2))]) (rest := [.int r]) hk (kX11_fullThen hN h2) cf_RL_113 mi_X11_fullThen ⟨TX11, 36, rfl⟩ dL_law_831 rfl (Nat.le_of_ble_eq_true rfl) (Nat.le_of_ble_eq_true rfl) (mk_11_0 (nx_11 hN (j := 0) (by decide))) rfl rfl (Nat.le_of_ble_eq_true rfl) ?_
  exact r_icmp_eq 1552 837 hk dL_law_834 rfl rfl (fun _ => go) (fun c => absurd rfl c)
set_option maxRecDepth 100000 in
theorem lwc_23 {K : VC} {al : Al} {w w1 w2 : Wd} {b L i : Nat} {xs : Nat → Int32} {r : Int32} (hk : VH K RL cL_law 15 560) (hN : NX (kG K)) (hs : SC K b L xs) (hi : i + 6 ≤ L) (hL : L < 2 ^ 31) (h1 : fX9_readThen w (xs (i + 1)) (xs (i + 2)) (xs (i + 3)) = some (r, w1)) (h2 : fX11_readThen (gN (kG K) 10) w1 (xs (i + 1)) (xs (i + 2)) (xs (i + 3)) = some (r, w2)) (go : V K al w2 1552 (Lw b al i) []) : V K al w 839 (Lw b al i) [] := by
  refine r_aload_n 840 hk dL_law_839 rfl 1 rfl rfl ?_
  refine r_arg 846 hk hs (k := 1) (by omega) hL dL_law_840 dL_law_841 dL_law_843 rfl dL_law_844 dL_law_845 rfl ?_
  refine r_arg 852 hk hs (k := 2) (by omega) hL dL_law_846 dL_law_847 dL_law_849 rfl dL_law_850 dL_law_851 rfl ?_
  refine r_arg 858 hk hs (k := 3) (by omega) hL dL_law_852 dL_law_853 dL_law_855 rfl dL_law_856 dL_law_857 rfl ?_
  refine r_cVi 861 (As := [.int (xs (i + 1)), .int (xs (i + 2)), .int (xs (i + 3))]) (rest := []) hk (kX9_readThen hN h1) cf_RL_114 mi_X9_readThen ⟨TX9, 16, rfl⟩ dL_law_858 rfl (Nat.le_of_ble_eq_true rfl) (Nat.le_of_ble_eq_true rfl) (mk_9_0 (nx_9 hN (j := 0) (by decide))) rfl rfl (Nat.le_of_ble_eq_true rfl) ?_
  refine r_aload_n 862 hk dL_law_861 rfl 2 rfl rfl ?_
  refine r_arg 868 hk hs (k := 1) (by omega) hL dL_law_862 dL_law_863 dL_law_865 rfl dL_law_866 dL_law_867 rfl ?_
  refine r_arg 874 hk hs (k := 2) (by omega) hL dL_law_868 dL_law_869 dL_law_871 rfl dL_law_872 dL_law_873 rfl ?_
  refine r_arg 880 hk hs (k := 3) (by omega) hL dL_law_874 dL_law_875 dL_law_877 rfl dL_law_878 dL_law_879 rfl ?_
  refine r_cVi 883 (As := [.int (xs (i + 1)), .int (xs (i + 2)), .int (xs (i + 3))]) (rest := [.int r]) hk (kX11_readThen hN h2) cf_RL_118 mi_X11_readThen ⟨TX11, 36, rfl⟩ dL_law_880 rfl (Nat.le_of_ble_eq_true rfl) (Nat.le_of_ble_eq_true rfl) (mk_11_0 (nx_11 hN (j := 0) (by decide))) rfl rfl (Nat.le_of_ble_eq_true rfl) ?_
  exact r_icmp_eq 1552 886 hk dL_law_883 rfl rfl (fun _ => go) (fun c => absurd rfl c)
set_option maxRecDepth 100000 in
theorem lwc_24 {K : VC} {al : Al} {w w1 w2 : Wd} {b L i : Nat} {xs : Nat → Int32} {r : Int32} (hk : VH K RL cL_law 15 560) (hN : NX (kG K)) (hs : SC K b L xs) (hi : i + 6 ≤ L) (hL : L < 2 ^ 31) (h1 : fX9_recoversBy w (xs (i + 1)) (xs (i + 2)) = some (r, w1)) (h2 : fX11_recoversBy (gN (kG K) 10) w1 (xs (i + 1)) (xs (i + 2)) = some (r, w2)) (go : V K al w2 1552 (Lw b al i) []) : V K al w 888 (Lw b al i) [] := by
  refine r_aload_n 889 hk dL_law_888 rfl 1 rfl rfl ?_
  refine r_arg 895 hk hs (k := 1) (by omega) hL dL_law_889 dL_law_890 dL_law_892 rfl dL_law_893 dL_law_894 rfl ?_
  refine r_arg 901 hk hs (k := 2) (by omega) hL dL_law_895 dL_law_896 dL_law_898 rfl dL_law_899 dL_law_900 rfl ?_
  refine r_cVi 904 (As := [.int (xs (i + 1)), .int (xs (i + 2))]) (rest := []) hk (kX9_recoversBy hN h1) cf_RL_119 mi_X9_recoversBy ⟨TX9, 16, rfl⟩ dL_law_901 rfl (Nat.le_of_ble_eq_true rfl) (Nat.le_of_ble_eq_true rfl) (mk_9_0 (nx_9 hN (j := 0) (by decide))) rfl rfl (Nat.le_of_ble_eq_true rfl) ?_
  refine r_aload_n 905 hk dL_law_904 rfl 2 rfl rfl ?_
  refine r_arg 911 hk hs (k := 1) (by omega) hL dL_law_905 dL_law_906 dL_law_908 rfl dL_law_909 dL_law_910 rfl ?_
  refine r_arg 917 hk hs (k := 2) (by omega) hL dL_law_911 dL_law_912 dL_law_914 rfl dL_law_915 dL_law_916 rfl ?_
  refine r_cVi 920 (As := [.int (xs (i + 1)), .int (xs (i + 2))]) (rest := [.int r]) hk (kX11_recoversBy hN h2) cf_RL_122 mi_X11_recoversBy ⟨TX11, 36, rfl⟩ dL_law_917 rfl (Nat.le_of_ble_eq_true rfl) (Nat.le_of_ble_eq_true rfl) (mk_11_0 (nx_11 hN (j := 0) (by decide))) rfl rfl (Nat.le_of_ble_eq_true rfl) ?_
  exact r_icmp_eq 1552 923 hk dL_law_920 rfl rfl (fun _ => go) (fun c => absurd rfl c)
set_option maxRecDepth 100000 in
theorem lwc_25 {K : VC} {al : Al} {w w1 w2 : Wd} {b L i : Nat} {xs : Nat → Int32} {r : Int32} (hk : VH K RL cL_law 15 560) (hN : NX (kG K)) (hs : SC K b L xs) (hi : i + 6 ≤ L) (hL : L < 2 ^ 31) (h1 : fX9_runWrites w = some (r, w1)) (h2 : fX11_runWrites (gN (kG K) 10) w1 = some (r, w2)) (go : V K al w2 1552 (Lw b al i) []) : V K al w 925 (Lw b al i) [] := by
  refine r_aload_n 926 hk dL_law_925 rfl 1 rfl rfl ?_
  refine r_cVi 929 (As := []) (rest := []) hk (kX9_runWrites hN h1) cf_RL_123 mi_X9_runWrites ⟨TX9, 16, rfl⟩ dL_law_926 rfl (Nat.le_of_ble_eq_true rfl) (Nat.le_of_ble_eq_true rfl) (mk_9_0 (nx_9 hN (j := 0) (by decide))) rfl rfl (Nat.le_of_ble_eq_true rfl) ?_
  refine r_aload_n 930 hk dL_law_929 rfl 2 rfl rfl ?_
  refine r_cVi 933 (As := []) (rest := [.int r]) hk (kX11_runWrites hN h2) cf_RL_126 mi_X11_runWrites ⟨TX11, 36, rfl⟩ dL_law_930 rfl (Nat.le_of_ble_eq_true rfl) (Nat.le_of_ble_eq_true rfl) (mk_11_0 (nx_11 hN (j := 0) (by decide))) rfl rfl (Nat.le_of_ble_eq_true rfl) ?_
  exact r_icmp_eq 1552 936 hk dL_law_933 rfl rfl (fun _ => go) (fun c => absurd rfl c)
set_option maxRecDepth 100000 in
theorem lwc_26 {K : VC} {al : Al} {w w1 w2 : Wd} {b L i : Nat} {xs : Nat → Int32} {r : Int32} (hk : VH K RL cL_law 15 560) (hN : NX (kG K)) (hs : SC K b L xs) (hi : i + 6 ≤ L) (hL : L < 2 ^ 31) (h1 : fX9_runCleans w = some (r, w1)) (h2 : fX11_runCleans (gN (kG K) 10) w1 = some (r, w2)) (go : V K al w2 1552 (Lw b al i) []) : V K al w 938 (Lw b al i) [] := by
  refine r_aload_n 939 hk dL_law_938 rfl 1 rfl rfl ?_
  refine r_cVi 942 (As := []) (rest := []) hk (kX9_runCleans hN h1) cf_RL_127 mi_X9_runCleans ⟨TX9, 16, rfl⟩ dL_law_939 rfl (Nat.le_of_ble_eq_true rfl) (Nat.le_of_ble_eq_true rfl) (mk_9_0 (nx_9 hN (j := 0) (by decide))) rfl rfl (Nat.le_of_ble_eq_true rfl) ?_
  refine r_aload_n 943 hk dL_law_942 rfl 2 rfl rfl ?_
  refine r_cVi 946 (As := []) (rest := [.int r]) hk (kX11_runCleans hN h2) cf_RL_130 mi_X11_runCleans ⟨TX11, 36, rfl⟩ dL_law_943 rfl (Nat.le_of_ble_eq_true rfl) (Nat.le_of_ble_eq_true rfl) (mk_11_0 (nx_11 hN (j := 0) (by decide))) rfl rfl (Nat.le_of_ble_eq_true rfl) ?_
  exact r_icmp_eq 1552 949 hk dL_law_946 rfl rfl (fun _ => go) (fun c => absurd rfl c)
set_option maxRecDepth 100000 in
theorem lwc_27 {K : VC} {al : Al} {w w1 w2 : Wd} {b L i : Nat} {xs : Nat → Int32} {r : Int32} (hk : VH K RL cL_law 15 560) (hN : NX (kG K)) (hs : SC K b L xs) (hi : i + 6 ≤ L) (hL : L < 2 ^ 31) (h1 : fX9_runRead w (xs (i + 1)) = some (r, w1)) (h2 : fX11_runRead (gN (kG K) 10) w1 (xs (i + 1)) = some (r, w2)) (go : V K al w2 1552 (Lw b al i) []) : V K al w 951 (Lw b al i) [] := by
  refine r_aload_n 952 hk dL_law_951 rfl 1 rfl rfl ?_
  refine r_arg 958 hk hs (k := 1) (by omega) hL dL_law_952 dL_law_953 dL_law_955 rfl dL_law_956 dL_law_957 rfl ?_
  refine r_cVi 961 (As := [.int (xs (i + 1))]) (rest := []) hk (kX9_runRead hN h1) cf_RL_131 mi_X9_runRead ⟨TX9, 16, rfl⟩ dL_law_958 rfl (Nat.le_of_ble_eq_true rfl) (Nat.le_of_ble_eq_true rfl) (mk_9_0 (nx_9 hN (j := 0) (by decide))) rfl rfl (Nat.le_of_ble_eq_true rfl) ?_
  refine r_aload_n 962 hk dL_law_961 rfl 2 rfl rfl ?_
  refine r_arg 968 hk hs (k := 1) (by omega) hL dL_law_962 dL_law_963 dL_law_965 rfl dL_law_966 dL_law_967 rfl ?_
  refine r_cVi 971 (As := [.int (xs (i + 1))]) (rest := [.int r]) hk (kX11_runRead hN h2) cf_RL_134 mi_X11_runRead ⟨TX11, 36, rfl⟩ dL_law_968 rfl (Nat.le_of_ble_eq_true rfl) (Nat.le_of_ble_eq_true rfl) (mk_11_0 (nx_11 hN (j := 0) (by decide))) rfl rfl (Nat.le_of_ble_eq_true rfl) ?_
  exact r_icmp_eq 1552 974 hk dL_law_971 rfl rfl (fun _ => go) (fun c => absurd rfl c)
set_option maxRecDepth 100000 in
theorem lwc_29 {K : VC} {al : Al} {w w1 w2 : Wd} {b L i : Nat} {xs : Nat → Int32} {r : Int32} (hk : VH K RL cL_law 15 560) (hN : NX (kG K)) (hs : SC K b L xs) (hi : i + 6 ≤ L) (hL : L < 2 ^ 31) (h1 : fX9_bySize w (xs (i + 1)) = some (r, w1)) (h2 : fX11_bySize (gN (kG K) 10) w1 (xs (i + 1)) = some (r, w2)) (go : V K al w2 1552 (Lw b al i) []) : V K al w 1018 (Lw b al i) [] := by
  refine r_aload_n 1019 hk dL_law_1018 rfl 1 rfl rfl ?_
  refine r_arg 1025 hk hs (k := 1) (by omega) hL dL_law_1019 dL_law_1020 dL_law_1022 rfl dL_law_1023 dL_law_1024 rfl ?_
  refine r_cVi 1028 (As := [.int (xs (i + 1))]) (rest := []) hk (kX9_bySize hN h1) cf_RL_140 mi_X9_bySize ⟨TX9, 16, rfl⟩ dL_law_1025 rfl (Nat.le_of_ble_eq_true rfl) (Nat.le_of_ble_eq_true rfl) (mk_9_0 (nx_9 hN (j := 0) (by decide))) rfl rfl (Nat.le_of_ble_eq_true rfl) ?_
  refine r_aload_n 1029 hk dL_law_1028 rfl 2 rfl rfl ?_
  refine r_arg 1035 hk hs (k := 1) (by omega) hL dL_law_1029 dL_law_1030 dL_law_1032 rfl dL_law_1033 dL_law_1034 rfl ?_
  refine r_cVi 1038 (As := [.int (xs (i + 1))]) (rest := [.int r]) hk (kX11_bySize hN h2) cf_RL_143 mi_X11_bySize ⟨TX11, 36, rfl⟩ dL_law_1035 rfl (Nat.le_of_ble_eq_true rfl) (Nat.le_of_ble_eq_true rfl) (mk_11_0 (nx_11 hN (j := 0) (by decide))) rfl rfl (Nat.le_of_ble_eq_true rfl) ?_
  exact r_icmp_eq 1552 1041 hk dL_law_1038 rfl rfl (fun _ => go) (fun c => absurd rfl c)
set_option maxRecDepth 100000 in
theorem lwc_30 {K : VC} {al : Al} {w w1 w2 : Wd} {b L i : Nat} {xs : Nat → Int32} {r : Int32} (hk : VH K RL cL_law 15 560) (hN : NX (kG K)) (hs : SC K b L xs) (hi : i + 6 ≤ L) (hL : L < 2 ^ 31) (h1 : fX9_bestSize w = some (r, w1)) (h2 : fX11_bestSize (gN (kG K) 10) w1 = some (r, w2)) (go : V K al w2 1552 (Lw b al i) []) : V K al w 1043 (Lw b al i) [] := by
  refine r_aload_n 1044 hk dL_law_1043 rfl 1 rfl rfl ?_
  refine r_cVi 1047 (As := []) (rest := []) hk (kX9_bestSize hN h1) cf_RL_144 mi_X9_bestSize ⟨TX9, 16, rfl⟩ dL_law_1044 rfl (Nat.le_of_ble_eq_true rfl) (Nat.le_of_ble_eq_true rfl) (mk_9_0 (nx_9 hN (j := 0) (by decide))) rfl rfl (Nat.le_of_ble_eq_true rfl) ?_
  refine r_aload_n 1048 hk dL_law_1047 rfl 2 rfl rfl ?_
  refine r_cVi 1051 (As := []) (rest := [.int r]) hk (kX11_bestSize hN h2) cf_RL_147 mi_X11_bestSize ⟨TX11, 36, rfl⟩ dL_law_1048 rfl (Nat.le_of_ble_eq_true rfl) (Nat.le_of_ble_eq_true rfl) (mk_11_0 (nx_11 hN (j := 0) (by decide))) rfl rfl (Nat.le_of_ble_eq_true rfl) ?_
  exact r_icmp_eq 1552 1054 hk dL_law_1051 rfl rfl (fun _ => go) (fun c => absurd rfl c)
set_option maxRecDepth 100000 in
theorem lwc_31 {K : VC} {al : Al} {w w1 w2 : Wd} {b L i : Nat} {xs : Nat → Int32} {r : Int32} (hk : VH K RL cL_law 15 560) (hN : NX (kG K)) (hs : SC K b L xs) (hi : i + 6 ≤ L) (hL : L < 2 ^ 31) (h1 : fX9_byLog w (xs (i + 1)) = some (r, w1)) (h2 : fX11_byLog (gN (kG K) 10) w1 (xs (i + 1)) = some (r, w2)) (go : V K al w2 1552 (Lw b al i) []) : V K al w 1056 (Lw b al i) [] := by
  refine r_aload_n 1057 hk dL_law_1056 rfl 1 rfl rfl ?_
  refine r_arg 1063 hk hs (k := 1) (by omega) hL dL_law_1057 dL_law_1058 dL_law_1060 rfl dL_law_1061 dL_law_1062 rfl ?_
  refine r_cVi 1066 (As := [.int (xs (i + 1))]) (rest := []) hk (kX9_byLog hN h1) cf_RL_148 mi_X9_byLog ⟨TX9, 16, rfl⟩ dL_law_1063 rfl (Nat.le_of_ble_eq_true rfl) (Nat.le_of_ble_eq_true rfl) (mk_9_0 (nx_9 hN (j := 0) (by decide))) rfl rfl (Nat.le_of_ble_eq_true rfl) ?_
  refine r_aload_n 1067 hk dL_law_1066 rfl 2 rfl rfl ?_
  refine r_arg 1073 hk hs (k := 1) (by omega) hL dL_law_1067 dL_law_1068 dL_law_1070 rfl dL_law_1071 dL_law_1072 rfl ?_
  refine r_cVi 1076 (As := [.int (xs (i + 1))]) (rest := [.int r]) hk (kX11_byLog hN h2) cf_RL_151 mi_X11_byLog ⟨TX11, 36, rfl⟩ dL_law_1073 rfl (Nat.le_of_ble_eq_true rfl) (Nat.le_of_ble_eq_true rfl) (mk_11_0 (nx_11 hN (j := 0) (by decide))) rfl rfl (Nat.le_of_ble_eq_true rfl) ?_
  exact r_icmp_eq 1552 1079 hk dL_law_1076 rfl rfl (fun _ => go) (fun c => absurd rfl c)
set_option maxRecDepth 100000 in
theorem lwc_32 {K : VC} {al : Al} {w w1 w2 : Wd} {b L i : Nat} {xs : Nat → Int32} {r : Int32} (hk : VH K RL cL_law 15 560) (hN : NX (kG K)) (hs : SC K b L xs) (hi : i + 6 ≤ L) (hL : L < 2 ^ 31) (h1 : fX9_logFor w (xs (i + 1)) = some (r, w1)) (h2 : fX11_logFor (gN (kG K) 10) w1 (xs (i + 1)) = some (r, w2)) (go : V K al w2 1552 (Lw b al i) []) : V K al w 1081 (Lw b al i) [] := by
  refine r_aload_n 1082 hk dL_law_1081 rfl 1 rfl rfl ?_
  refine r_arg 1088 hk hs (k := 1) (by omega) hL dL_law_1082 dL_law_1083 dL_law_1085 rfl dL_law_1086 dL_law_1087 rfl ?_
  refine r_cVi 1091 (As := [.int (xs (i + 1))]) (rest := []) hk (kX9_logFor hN h1) cf_RL_152 mi_X9_logFor ⟨TX9, 16, rfl⟩ dL_law_1088 rfl (Nat.le_of_ble_eq_true rfl) (Nat.le_of_ble_eq_true rfl) (mk_9_0 (nx_9 hN (j := 0) (by decide))) rfl rfl (Nat.le_of_ble_eq_true rfl) ?_
  refine r_aload_n 1092 hk dL_law_1091 rfl 2 rfl rfl ?_
  refine r_arg 1098 hk hs (k := 1) (by omega) hL dL_law_1092 dL_law_1093 dL_law_1095 rfl dL_law_1096 dL_law_1097 rfl ?_
  refine r_cVi 1101 (As := [.int (xs (i + 1))]) (rest := [.int r]) hk (kX11_logFor hN h2) cf_RL_155 mi_X11_logFor ⟨TX11, 36, rfl⟩ dL_law_1098 rfl (Nat.le_of_ble_eq_true rfl) (Nat.le_of_ble_eq_true rfl) (mk_11_0 (nx_11 hN (j := 0) (by decide))) rfl rfl (Nat.le_of_ble_eq_true rfl) ?_
  exact r_icmp_eq 1552 1104 hk dL_law_1101 rfl rfl (fun _ => go) (fun c => absurd rfl c)
set_option maxRecDepth 100000 in
theorem lwc_33 {K : VC} {al : Al} {w w1 w2 : Wd} {b L i : Nat} {xs : Nat → Int32} {r : Int32} (hk : VH K RL cL_law 15 560) (hN : NX (kG K)) (hs : SC K b L xs) (hi : i + 6 ≤ L) (hL : L < 2 ^ 31) (h1 : fX9_fits w = some (r, w1)) (h2 : fX11_fits (gN (kG K) 10) w1 = some (r, w2)) (go : V K al w2 1552 (Lw b al i) []) : V K al w 1106 (Lw b al i) [] := by
  refine r_aload_n 1107 hk dL_law_1106 rfl 1 rfl rfl ?_
  refine r_cVi 1110 (As := []) (rest := []) hk (kX9_fits hN h1) cf_RL_156 mi_X9_fits ⟨TX9, 16, rfl⟩ dL_law_1107 rfl (Nat.le_of_ble_eq_true rfl) (Nat.le_of_ble_eq_true rfl) (mk_9_0 (nx_9 hN (j := 0) (by decide))) rfl rfl (Nat.le_of_ble_eq_true rfl) ?_
  refine r_aload_n 1111 hk dL_law_1110 rfl 2 rfl rfl ?_
  refine r_cVi 1114 (As := []) (rest := [.int r]) hk (kX11_fits hN h2) cf_RL_159 mi_X11_fits ⟨TX11, 36, rfl⟩ dL_law_1111 rfl (Nat.le_of_ble_eq_true rfl) (Nat.le_of_ble_eq_true rfl) (mk_11_0 (nx_11 hN (j := 0) (by decide))) rfl rfl (Nat.le_of_ble_eq_true rfl) ?_
  exact r_icmp_eq 1552 1117 hk dL_law_1114 rfl rfl (fun _ => go) (fun c => absurd rfl c)
set_option maxRecDepth 100000 in
theorem lwc_34 {K : VC} {al : Al} {w w1 w2 : Wd} {b L i : Nat} {xs : Nat → Int32} {r : Int32} (hk : VH K RL cL_law 15 560) (hN : NX (kG K)) (hs : SC K b L xs) (hi : i + 6 ≤ L) (hL : L < 2 ^ 31) (h1 : fX9_fitAt w (xs (i + 1)) = some (r, w1)) (h2 : fX11_fitAt (gN (kG K) 10) w1 (xs (i + 1)) = some (r, w2)) (go : V K al w2 1552 (Lw b al i) []) : V K al w 1119 (Lw b al i) [] := by
  refine r_aload_n 1120 hk dL_law_1119 rfl 1 rfl rfl ?_
  refine r_arg 1126 hk hs (k := 1) (by omega) hL dL_law_1120 dL_law_1121 dL_law_1123 rfl dL_law_1124 dL_law_1125 rfl ?_
  refine r_cVi 1129 (As := [.int (xs (i + 1))]) (rest := []) hk (kX9_fitAt hN h1) cf_RL_160 mi_X9_fitAt ⟨TX9, 16, rfl⟩ dL_law_1126 rfl (Nat.le_of_ble_eq_true rfl) (Nat.le_of_ble_eq_true rfl) (mk_9_0 (nx_9 hN (j := 0) (by decide))) rfl rfl (Nat.le_of_ble_eq_true rfl) ?_
  refine r_aload_n 1130 hk dL_law_1129 rfl 2 rfl rfl ?_
  refine r_arg 1136 hk hs (k := 1) (by omega) hL dL_law_1130 dL_law_1131 dL_law_1133 rfl dL_law_1134 dL_law_1135 rfl ?_
  refine r_cVi 1139 (As := [.int (xs (i + 1))]) (rest := [.int r]) hk (kX11_fitAt hN h2) cf_RL_163 mi_X11_fitAt ⟨TX11, 36, rfl⟩ dL_law_1136 rfl (Nat.le_of_ble_eq_true rfl) (Nat.le_of_ble_eq_true rfl) (mk_11_0 (nx_11 hN (j := 0) (by decide))) rfl rfl (Nat.le_of_ble_eq_true rfl) ?_
  exact r_icmp_eq 1552 1142 hk dL_law_1139 rfl rfl (fun _ => go) (fun c => absurd rfl c)
set_option maxRecDepth 100000 in
theorem lwc_35 {K : VC} {al : Al} {w w1 w2 : Wd} {b L i : Nat} {xs : Nat → Int32} {r : Int32} (hk : VH K RL cL_law 15 560) (hN : NX (kG K)) (hs : SC K b L xs) (hi : i + 6 ≤ L) (hL : L < 2 ^ 31) (h1 : fX9_could w = some (r, w1)) (h2 : fX11_could (gN (kG K) 10) w1 = some (r, w2)) (go : V K al w2 1552 (Lw b al i) []) : V K al w 1144 (Lw b al i) [] := by
  refine r_aload_n 1145 hk dL_law_1144 rfl 1 rfl rfl ?_
  refine r_cVi 1148 (As := []) (rest := []) hk (kX9_could hN h1) cf_RL_164 mi_X9_could ⟨TX9, 16, rfl⟩ dL_law_1145 rfl (Nat.le_of_ble_eq_true rfl) (Nat.le_of_ble_eq_true rfl) (mk_9_0 (nx_9 hN (j := 0) (by decide))) rfl rfl (Nat.le_of_ble_eq_true rfl) ?_
  refine r_aload_n 1149 hk dL_law_1148 rfl 2 rfl rfl ?_
  refine r_cVi 1152 (As := []) (rest := [.int r]) hk (kX11_could hN h2) cf_RL_167 mi_X11_could ⟨TX11, 36, rfl⟩ dL_law_1149 rfl (Nat.le_of_ble_eq_true rfl) (Nat.le_of_ble_eq_true rfl) (mk_11_0 (nx_11 hN (j := 0) (by decide))) rfl rfl (Nat.le_of_ble_eq_true rfl) ?_
  exact r_icmp_eq 1552 1155 hk dL_law_1152 rfl rfl (fun _ => go) (fun c => absurd rfl c)
set_option maxRecDepth 100000 in
theorem lwc_36 {K : VC} {al : Al} {w w1 w2 : Wd} {b L i : Nat} {xs : Nat → Int32} {r : Int32} (hk : VH K RL cL_law 15 560) (hN : NX (kG K)) (hs : SC K b L xs) (hi : i + 6 ≤ L) (hL : L < 2 ^ 31) (h1 : fX9_surely w = some (r, w1)) (h2 : fX11_surely (gN (kG K) 10) w1 = some (r, w2)) (go : V K al w2 1552 (Lw b al i) []) : V K al w 1157 (Lw b al i) [] := by
  refine r_aload_n 1158 hk dL_law_1157 rfl 1 rfl rfl ?_
  refine r_cVi 1161 (As := []) (rest := []) hk (kX9_surely hN h1) cf_RL_168 mi_X9_surely ⟨TX9, 16, rfl⟩ dL_law_1158 rfl (Nat.le_of_ble_eq_true rfl) (Nat.le_of_ble_eq_true rfl) (mk_9_0 (nx_9 hN (j := 0) (by decide))) rfl rfl (Nat.le_of_ble_eq_true rfl) ?_
  refine r_aload_n 1162 hk dL_law_1161 rfl 2 rfl rfl ?_
  refine r_cVi 1165 (As := []) (rest := [.int r]) hk (kX11_surely hN h2) cf_RL_171 mi_X11_surely ⟨TX11, 36, rfl⟩ dL_law_1162 rfl (Nat.le_of_ble_eq_true rfl) (Nat.le_of_ble_eq_true rfl) (mk_11_0 (nx_11 hN (j := 0) (by decide))) rfl rfl (Nat.le_of_ble_eq_true rfl) ?_
  exact r_icmp_eq 1552 1168 hk dL_law_1165 rfl rfl (fun _ => go) (fun c => absurd rfl c)
set_option maxRecDepth 100000 in
theorem lwc_37 {K : VC} {al : Al} {w w1 w2 : Wd} {b L i : Nat} {xs : Nat → Int32} {r : Int32} (hk : VH K RL cL_law 15 560) (hN : NX (kG K)) (hs : SC K b L xs) (hi : i + 6 ≤ L) (hL : L < 2 ^ 31) (h1 : fX9_ask w = some (r, w1)) (h2 : fX11_ask (gN (kG K) 10) w1 = some (r, w2)) (go : V K al w2 1552 (Lw b al i) []) : V K al w 1170 (Lw b al i) [] := by
  refine r_aload_n 1171 hk dL_law_1170 rfl 1 rfl rfl ?_
  refine r_cVi 1174 (As := []) (rest := []) hk (kX9_ask hN h1) cf_RL_172 mi_X9_ask ⟨TX9, 16, rfl⟩ dL_law_1171 rfl (Nat.le_of_ble_eq_true rfl) (Nat.le_of_ble_eq_true rfl) (mk_9_0 (nx_9 hN (j := 0) (by decide))) rfl rfl (Nat.le_of_ble_eq_true rfl) ?_
  refine r_aload_n 1175 hk dL_law_1174 rfl 2 rfl rfl ?_
  refine r_cVi 1178 (As := []) (rest := [.int r]) hk (kX11_ask hN h2) cf_RL_175 mi_X11_ask ⟨TX11, 36, rfl⟩ dL_law_1175 rfl (Nat.le_of_ble_eq_true rfl) (Nat.le_of_ble_eq_true rfl) (mk_11_0 (nx_11 hN (j := 0) (by decide))) rfl rfl (Nat.le_of_ble_eq_true rfl) ?_
  exact r_icmp_eq 1552 1181 hk dL_law_1178 rfl rfl (fun _ => go) (fun c => absurd rfl c)
set_option maxRecDepth 100000 in
theorem lwc_38 {K : VC} {al : Al} {w w1 w2 : Wd} {b L i : Nat} {xs : Nat → Int32} {r : Int32} (hk : VH K RL cL_law 15 560) (hN : NX (kG K)) (hs : SC K b L xs) (hi : i + 6 ≤ L) (hL : L < 2 ^ 31) (h1 : fX9_askLeaves w = some (r, w1)) (h2 : fX11_askLeaves (gN (kG K) 10) w1 = some (r, w2)) (go : V K al w2 1552 (Lw b al i) []) : V K al w 1183 (Lw b al i) [] := by
  refine r_aload_n 1184 hk dL_law_1183 rfl 1 rfl rfl ?_
  refine r_cVi 1187 (As := []) (rest := []) hk (kX9_askLeaves hN h1) cf_RL_176 mi_X9_askLeaves ⟨TX9, 16, rfl⟩ dL_law_1184 rfl (Nat.le_of_ble_eq_true rfl) (Nat.le_of_ble_eq_true rfl) (mk_9_0 (nx_9 hN (j := 0) (by decide))) rfl rfl (Nat.le_of_ble_eq_true rfl) ?_
  refine r_aload_n 1188 hk dL_law_1187 rfl 2 rfl rfl ?_
  refine r_cVi 1191 (As := []) (rest := [.int r]) hk (kX11_askLeaves hN h2) cf_RL_179 mi_X11_askLeaves ⟨TX11, 36, rfl⟩ dL_law_1188 rfl (Nat.le_of_ble_eq_true rfl) (Nat.le_of_ble_eq_true rfl) (mk_11_0 (nx_11 hN (j := 0) (by decide))) rfl rfl (Nat.le_of_ble_eq_true rfl) ?_
  exact r_icmp_eq 1552 1194 hk dL_law_1191 rfl rfl (fun _ => go) (fun c => absurd rfl c)
set_option maxRecDepth 100000 in
theorem lwc_39 {K : VC} {al : Al} {w w1 w2 : Wd} {b L i : Nat} {xs : Nat → Int32} {r : Int32} (hk : VH K RL cL_law 15 560) (hN : NX (kG K)) (hs : SC K b L xs) (hi : i + 6 ≤ L) (hL : L < 2 ^ 31) (h1 : fX9_judge w = some (r, w1)) (h2 : fX11_judge (gN (kG K) 10) w1 = some (r, w2)) (go : V K al w2 1552 (Lw b al i) []) : V K al w 1196 (Lw b al i) [] := by
  refine r_aload_n 1197 hk dL_law_1196 rfl 1 rfl rfl ?_
  refine r_cVi 1200 (As := []) (rest := []) hk (kX9_judge hN h1) cf_RL_180 mi_X9_judge ⟨TX9, 16, rfl⟩ dL_law_1197 rfl (Nat.le_of_ble_eq_true rfl) (Nat.le_of_ble_eq_true rfl) (mk_9_0 (nx_9 hN (j := 0) (by decide))) rfl rfl (Nat.le_of_ble_eq_true rfl) ?_
  refine r_aload_n 1201 hk dL_law_1200 rfl 2 rfl rfl ?_
  refine r_cVi 1204 (As := []) (rest := [.int r]) hk (kX11_judge hN h2) cf_RL_183 mi_X11_judge ⟨TX11, 36, rfl⟩ dL_law_1201 rfl (Nat.le_of_ble_eq_true rfl) (Nat.le_of_ble_eq_true rfl) (mk_11_0 (nx_11 hN (j := 0) (by decide))) rfl rfl (Nat.le_of_ble_eq_true rfl) ?_
  exact r_icmp_eq 1552 1207 hk dL_law_1204 rfl rfl (fun _ => go) (fun c => absurd rfl c)
set_option maxRecDepth 100000 in
theorem lwc_40 {K : VC} {al : Al} {w w1 w2 : Wd} {b L i : Nat} {xs : Nat → Int32} {r : Int32} (hk : VH K RL cL_law 15 560) (hN : NX (kG K)) (hs : SC K b L xs) (hi : i + 6 ≤ L) (hL : L < 2 ^ 31) (h1 : fX9_drawnRead w (xs (i + 1)) (xs (i + 2)) (xs (i + 3)) = some (r, w1)) (h2 : fX11_drawnRead (gN (kG K) 10) w1 (xs (i + 1)) (xs (i + 2)) (xs (i + 3)) = some (r, w2)) (go : V K al w2 1552 (Lw b al i) []) : V K al w 1209 (Lw b al i) [] := by
  refine r_aload_n 1210 hk dL_law_1209 rfl 1 rfl rfl ?_
  refine r_arg 1216 hk hs (k := 1) (by omega) hL dL_law_1210 dL_law_1211 dL_law_1213 rfl dL_law_1214 dL_law_1215 rfl ?_
  refine r_arg 1222 hk hs (k := 2) (by omega) hL dL_law_1216 dL_law_1217 dL_law_1219 rfl dL_law_1220 dL_law_1221 rfl ?_
  refine r_arg 1228 hk hs (k := 3) (by omega) hL dL_law_1222 dL_law_1223 dL_law_1225 rfl dL_law_1226 dL_law_1227 rfl ?_
  refine r_cVi 1231 (As := [.int (xs (i + 1)), .int (xs (i + 2)), .int (xs (i + 3))]) (rest := []) hk (kX9_drawnRead hN h1) cf_RL_184 mi_X9_drawnRead ⟨TX9, 16, rfl⟩ dL_law_1228 rfl (Nat.le_of_ble_eq_true rfl) (Nat.le_of_ble_eq_true rfl) (mk_9_0 (nx_9 hN (j := 0) (by decide))) rfl rfl (Nat.le_of_ble_eq_true rfl) ?_
  refine r_aload_n 1232 hk dL_law_1231 rfl 2 rfl rfl ?_
  refine r_arg 1238 hk hs (k := 1) (by omega) hL dL_law_1232 dL_law_1233 dL_law_1235 rfl dL_law_1236 dL_law_1237 rfl ?_
  refine r_arg 1244 hk hs (k := 2) (by omega) hL dL_law_1238 dL_law_1239 dL_law_1241 rfl dL_law_1242 dL_law_1243 rfl ?_
  refine r_arg 1250 hk hs (k := 3) (by omega) hL dL_law_1244 dL_law_1245 dL_law_1247 rfl dL_law_1248 dL_law_1249 rfl ?_
  refine r_cVi 1253 (As := [.int (xs (i + 1)), .int (xs (i + 2)), .int (xs (i + 3))]) (rest := [.int r]) hk (kX11_drawnRead hN h2) cf_RL_187 mi_X11_drawnRead ⟨TX11, 36, rfl⟩ dL_law_1250 rfl (Nat.le_of_ble_eq_true rfl) (Nat.le_of_ble_eq_true rfl) (mk_11_0 (nx_11 hN (j := 0) (by decide))) rfl rfl (Nat.le_of_ble_eq_true rfl) ?_
  exact r_icmp_eq 1552 1256 hk dL_law_1253 rfl rfl (fun _ => go) (fun c => absurd rfl c)
set_option maxRecDepth 100000 in
theorem lwc_41 {K : VC} {al : Al} {w w1 w2 : Wd} {b L i : Nat} {xs : Nat → Int32} {r : Int32} (hk : VH K RL cL_law 15 560) (hN : NX (kG K)) (hs : SC K b L xs) (hi : i + 6 ≤ L) (hL : L < 2 ^ 31) (h1 : fX9_drawnWrites w (xs (i + 1)) (xs (i + 2)) = some (r, w1)) (h2 : fX11_drawnWrites (gN (kG K) 10) w1 (xs (i + 1)) (xs (i + 2)) = some (r, w2)) (go : V K al w2 1552 (Lw b al i) []) : V K al w 1258 (Lw b al i) [] := by
  refine r_aload_n 1259 hk dL_law_1258 rfl 1 rfl rfl ?_
  refine r_arg 1265 hk hs (k := 1) (by omega) hL dL_law_1259 dL_law_1260 dL_law_1262 rfl dL_law_1263 dL_law_1264 rfl ?_
  refine r_arg 1271 hk hs (k := 2) (by omega) hL dL_law_1265 dL_law_1266 dL_law_1268 rfl dL_law_1269 dL_law_1270 rfl ?_
  refine r_cVi 1274 (As := [.int (xs (i + 1)), .int (xs (i + 2))]) (rest := []) hk (kX9_drawnWrites hN h1) cf_RL_188 mi_X9_drawnWrites ⟨TX9, 16, rfl⟩ dL_law_1271 rfl (Nat.le_of_ble_eq_true rfl) (Nat.le_of_ble_eq_true rfl) (mk_9_0 (nx_9 hN (j := 0) (by decide))) rfl rfl (Nat.le_of_ble_eq_true rfl) ?_
  refine r_aload_n 1275 hk dL_law_1274 rfl 2 rfl rfl ?_
  refine r_arg 1281 hk hs (k := 1) (by omega) hL dL_law_1275 dL_law_1276 dL_law_1278 rfl dL_law_1279 dL_law_1280 rfl ?_
  refine r_arg 1287 hk hs (k := 2) (by omega) hL dL_law_1281 dL_law_1282 dL_law_1284 rfl dL_law_1285 dL_law_1286 rfl ?_
  refine r_cVi 1290 (As := [.int (xs (i + 1)), .int (xs (i + 2))]) (rest := [.int r]) hk (kX11_drawnWrites hN h2) cf_RL_191 mi_X11_drawnWrites ⟨TX11, 36, rfl⟩ dL_law_1287 rfl (Nat.le_of_ble_eq_true rfl) (Nat.le_of_ble_eq_true rfl) (mk_11_0 (nx_11 hN (j := 0) (by decide))) rfl rfl (Nat.le_of_ble_eq_true rfl) ?_
  exact r_icmp_eq 1552 1293 hk dL_law_1290 rfl rfl (fun _ => go) (fun c => absurd rfl c)
set_option maxRecDepth 100000 in
theorem lwc_42 {K : VC} {al : Al} {w w1 w2 : Wd} {b L i : Nat} {xs : Nat → Int32} {r : Int32} (hk : VH K RL cL_law 15 560) (hN : NX (kG K)) (hs : SC K b L xs) (hi : i + 6 ≤ L) (hL : L < 2 ^ 31) (h1 : fX9_write w (xs (i + 1)) (xs (i + 2)) = some (r, w1)) (h2 : fX11_write (gN (kG K) 10) w1 (xs (i + 1)) (xs (i + 2)) = some (r, w2)) (go : V K al w2 1552 (Lw b al i) []) : V K al w 1295 (Lw b al i) [] := by
  refine r_aload_n 1296 hk dL_law_1295 rfl 1 rfl rfl ?_
  refine r_arg 1302 hk hs (k := 1) (by omega) hL dL_law_1296 dL_law_1297 dL_law_1299 rfl dL_law_1300 dL_law_1301 rfl ?_
  refine r_arg 1308 hk hs (k := 2) (by omega) hL dL_law_1302 dL_law_1303 dL_law_1305 rfl dL_law_1306 dL_law_1307 rfl ?_
  refine r_cVi 1311 (As := [.int (xs (i + 1)), .int (xs (i + 2))]) (rest := []) hk (kX9_write hN h1) cf_RL_192 mi_X9_write ⟨TX9, 16, rfl⟩ dL_law_1308 rfl (Nat.le_of_ble_eq_true rfl) (Nat.le_of_ble_eq_true rfl) (mk_9_0 (nx_9 hN (j := 0) (by decide))) rfl rfl (Nat.le_of_ble_eq_true rfl) ?_
  refine r_aload_n 1312 hk dL_law_1311 rfl 2 rfl rfl ?_
  refine r_arg 1318 hk hs (k := 1) (by omega) hL dL_law_1312 dL_law_1313 dL_law_1315 rfl dL_law_1316 dL_law_1317 rfl ?_
  refine r_arg 1324 hk hs (k := 2) (by omega) hL dL_law_1318 dL_law_1319 dL_law_1321 rfl dL_law_1322 dL_law_1323 rfl ?_
  refine r_cVi 1327 (As := [.int (xs (i + 1)), .int (xs (i + 2))]) (rest := [.int r]) hk (kX11_write hN h2) cf_RL_195 mi_X11_write ⟨TX11, 36, rfl⟩ dL_law_1324 rfl (Nat.le_of_ble_eq_true rfl) (Nat.le_of_ble_eq_true rfl) (mk_11_0 (nx_11 hN (j := 0) (by decide))) rfl rfl (Nat.le_of_ble_eq_true rfl) ?_
  exact r_icmp_eq 1552 1330 hk dL_law_1327 rfl rfl (fun _ => go) (fun c => absurd rfl c)
set_option maxRecDepth 100000 in
theorem lwc_43 {K : VC} {al : Al} {w w1 w2 : Wd} {b L i : Nat} {xs : Nat → Int32} {r : Int32} (hk : VH K RL cL_law 15 560) (hN : NX (kG K)) (hs : SC K b L xs) (hi : i + 6 ≤ L) (hL : L < 2 ^ 31) (h1 : fX9_clean w (xs (i + 1)) = some (r, w1)) (h2 : fX11_clean (gN (kG K) 10) w1 (xs (i + 1)) = some (r, w2)) (go : V K al w2 1552 (Lw b al i) []) : V K al w 1332 (Lw b al i) [] := by
  refine r_aload_n 1333 hk dL_law_1332 rfl 1 rfl rfl ?_
  refine r_arg 1339 hk hs (k := 1) (by omega) hL dL_law_1333 dL_law_1334 dL_law_1336 rfl dL_law_1337 dL_law_1338 rfl ?_
  refine r_cVi 1342 (As := [.int (xs (i + 1))]) (rest := []) hk (kX9_clean hN h1) cf_RL_196 mi_X9_clean ⟨TX9, 16, rfl⟩ dL_law_1339 rfl (Nat.le_of_ble_eq_true rfl) (Nat.le_of_ble_eq_true rfl) (mk_9_0 (nx_9 hN (j := 0) (by decide))) rfl rfl (Nat.le_of_ble_eq_true rfl) ?_
  refine r_aload_n 1343 hk dL_law_1342 rfl 2 rfl rfl ?_
  refine r_arg 1349 hk hs (k := 1) (by omega) hL dL_law_1343 dL_law_1344 dL_law_1346 rfl dL_law_1347 dL_law_1348 rfl ?_
  refine r_cVi 1352 (As := [.int (xs (i + 1))]) (rest := [.int r]) hk (kX11_clean hN h2) cf_RL_199 mi_X11_clean ⟨TX11, 36, rfl⟩ dL_law_1349 rfl (Nat.le_of_ble_eq_true rfl) (Nat.le_of_ble_eq_true rfl) (mk_11_0 (nx_11 hN (j := 0) (by decide))) rfl rfl (Nat.le_of_ble_eq_true rfl) ?_
  exact r_icmp_eq 1552 1355 hk dL_law_1352 rfl rfl (fun _ => go) (fun c => absurd rfl c)
set_option maxRecDepth 100000 in
theorem lwc_44 {K : VC} {al : Al} {w w1 w2 : Wd} {b L i : Nat} {xs : Nat → Int32} {r : Int32} (hk : VH K RL cL_law 15 560) (hN : NX (kG K)) (hs : SC K b L xs) (hi : i + 6 ≤ L) (hL : L < 2 ^ 31) (h1 : fX9_cut w (xs (i + 1)) (xs (i + 2)) = some (r, w1)) (h2 : fX11_cut (gN (kG K) 10) w1 (xs (i + 1)) (xs (i + 2)) = some (r, w2)) (go : V K al w2 1552 (Lw b al i) []) : V K al w 1357 (Lw b al i) [] := by
  refine r_aload_n 1358 hk dL_law_1357 rfl 1 rfl rfl ?_
  refine r_arg 1364 hk hs (k := 1) (by omega) hL dL_law_1358 dL_law_1359 dL_law_1361 rfl dL_law_1362 dL_law_1363 rfl ?_
  refine r_arg 1370 hk hs (k := 2) (by omega) hL dL_law_1364 dL_law_1365 dL_law_1367 rfl dL_law_1368 dL_law_1369 rfl ?_
  refine r_cVi 1373 (As := [.int (xs (i + 1)), .int (xs (i + 2))]) (rest := []) hk (kX9_cut hN h1) cf_RL_200 mi_X9_cut ⟨TX9, 16, rfl⟩ dL_law_1370 rfl (Nat.le_of_ble_eq_true rfl) (Nat.le_of_ble_eq_true rfl) (mk_9_0 (nx_9 hN (j := 0) (by decide))) rfl rfl (Nat.le_of_ble_eq_true rfl) ?_
  refine r_aload_n 1374 hk dL_law_1373 rfl 2 rfl rfl ?_
  refine r_arg 1380 hk hs (k := 1) (by omega) hL dL_law_1374 dL_law_1375 dL_law_1377 rfl dL_law_1378 dL_law_1379 rfl ?_
  refine r_arg 1386 hk hs (k := 2) (by omega) hL dL_law_1380 dL_law_1381 dL_law_1383 rfl dL_law_1384 dL_law_1385 rfl ?_
  refine r_cVi 1389 (As := [.int (xs (i + 1)), .int (xs (i + 2))]) (rest := [.int r]) hk (kX11_cut hN h2) cf_RL_203 mi_X11_cut ⟨TX11, 36, rfl⟩ dL_law_1386 rfl (Nat.le_of_ble_eq_true rfl) (Nat.le_of_ble_eq_true rfl) (mk_11_0 (nx_11 hN (j := 0) (by decide))) rfl rfl (Nat.le_of_ble_eq_true rfl) ?_
  exact r_icmp_eq 1552 1392 hk dL_law_1389 rfl rfl (fun _ => go) (fun c => absurd rfl c)
set_option maxRecDepth 100000 in
theorem lwc_45 {K : VC} {al : Al} {w w1 w2 : Wd} {b L i : Nat} {xs : Nat → Int32} {r : Int32} (hk : VH K RL cL_law 15 560) (hN : NX (kG K)) (hs : SC K b L xs) (hi : i + 6 ≤ L) (hL : L < 2 ^ 31) (h1 : fX9_recover w = some (r, w1)) (h2 : fX11_recover (gN (kG K) 10) w1 = some (r, w2)) (go : V K al w2 1552 (Lw b al i) []) : V K al w 1394 (Lw b al i) [] := by
  refine r_aload_n 1395 hk dL_law_1394 rfl 1 rfl rfl ?_
  refine r_cVi 1398 (As := []) (rest := []) hk (kX9_recover hN h1) cf_RL_204 mi_X9_recover ⟨TX9, 16, rfl⟩ dL_law_1395 rfl (Nat.le_of_ble_eq_true rfl) (Nat.le_of_ble_eq_true rfl) (mk_9_0 (nx_9 hN (j := 0) (by decide))) rfl rfl (Nat.le_of_ble_eq_true rfl) ?_
  refine r_aload_n 1399 hk dL_law_1398 rfl 2 rfl rfl ?_
  refine r_cVi 1402 (As := []) (rest := [.int r]) hk (kX11_recover hN h2) cf_RL_207 mi_X11_recover ⟨TX11, 36, rfl⟩ dL_law_1399 rfl (Nat.le_of_ble_eq_true rfl) (Nat.le_of_ble_eq_true rfl) (mk_11_0 (nx_11 hN (j := 0) (by decide))) rfl rfl (Nat.le_of_ble_eq_true rfl) ?_
  exact r_icmp_eq 1552 1405 hk dL_law_1402 rfl rfl (fun _ => go) (fun c => absurd rfl c)
set_option maxRecDepth 100000 in
theorem lwc_46 {K : VC} {al : Al} {w w1 w2 : Wd} {b L i : Nat} {xs : Nat → Int32} {r : Int32} (hk : VH K RL cL_law 15 560) (hN : NX (kG K)) (hs : SC K b L xs) (hi : i + 6 ≤ L) (hL : L < 2 ^ 31) (h1 : fX9_undo w = some (r, w1)) (h2 : fX11_undo (gN (kG K) 10) w1 = some (r, w2)) (go : V K al w2 1552 (Lw b al i) []) : V K al w 1407 (Lw b al i) [] := by
  refine r_aload_n 1408 hk dL_law_1407 rfl 1 rfl rfl ?_
  refine r_cVi 1411 (As := []) (rest := []) hk (kX9_undo hN h1) cf_RL_208 mi_X9_undo ⟨TX9, 16, rfl⟩ dL_law_1408 rfl (Nat.le_of_ble_eq_true rfl) (Nat.le_of_ble_eq_true rfl) (mk_9_0 (nx_9 hN (j := 0) (by decide))) rfl rfl (Nat.le_of_ble_eq_true rfl) ?_
  refine r_aload_n 1412 hk dL_law_1411 rfl 2 rfl rfl ?_
  refine r_cVi 1415 (As := []) (rest := [.int r]) hk (kX11_undo hN h2) cf_RL_212 mi_X11_undo ⟨TX11, 36, rfl⟩ dL_law_1412 rfl (Nat.le_of_ble_eq_true rfl) (Nat.le_of_ble_eq_true rfl) (mk_11_0 (nx_11 hN (j := 0) (by decide))) rfl rfl (Nat.le_of_ble_eq_true rfl) ?_
  exact r_icmp_eq 1552 1418 hk dL_law_1415 rfl rfl (fun _ => go) (fun c => absurd rfl c)
set_option maxRecDepth 100000 in
theorem lwc_47 {K : VC} {al : Al} {w w1 w2 : Wd} {b L i : Nat} {xs : Nat → Int32} {r : Int32} (hk : VH K RL cL_law 15 560) (hN : NX (kG K)) (hs : SC K b L xs) (hi : i + 6 ≤ L) (hL : L < 2 ^ 31) (h1 : fX9_image w = some (r, w1)) (h2 : fX11_image (gN (kG K) 10) w1 = some (r, w2)) (go : V K al w2 1552 (Lw b al i) []) : V K al w 1420 (Lw b al i) [] := by
  refine r_aload_n 1421 hk dL_law_1420 rfl 1 rfl rfl ?_
  refine r_cVi 1424 (As := []) (rest := []) hk (kX9_image hN h1) cf_RL_213 mi_X9_image ⟨TX9, 16, rfl⟩ dL_law_1421 rfl (Nat.le_of_ble_eq_true rfl) (Nat.le_of_ble_eq_true rfl) (mk_9_0 (nx_9 hN (j := 0) (by decide))) rfl rfl (Nat.le_of_ble_eq_true rfl) ?_
  refine r_aload_n 1425 hk dL_law_1424 rfl 2 rfl rfl ?_
  refine r_cVi 1428 (As := []) (rest := [.int r]) hk (kX11_image hN h2) cf_RL_216 mi_X11_image ⟨TX11, 36, rfl⟩ dL_law_1425 rfl (Nat.le_of_ble_eq_true rfl) (Nat.le_of_ble_eq_true rfl) (mk_11_0 (nx_11 hN (j := 0) (by decide))) rfl rfl (Nat.le_of_ble_eq_true rfl) ?_
  exact r_icmp_eq 1552 1431 hk dL_law_1428 rfl rfl (fun _ => go) (fun c => absurd rfl c)
set_option maxRecDepth 100000 in
theorem lwc_48 {K : VC} {al : Al} {w w1 w2 : Wd} {b L i : Nat} {xs : Nat → Int32} {r : Int32} (hk : VH K RL cL_law 15 560) (hN : NX (kG K)) (hs : SC K b L xs) (hi : i + 6 ≤ L) (hL : L < 2 ^ 31) (h1 : fX9_back w (xs (i + 1)) = some (r, w1)) (h2 : fX11_back (gN (kG K) 10) w1 (xs (i + 1)) = some (r, w2)) (go : V K al w2 1552 (Lw b al i) []) : V K al w 1433 (Lw b al i) [] := by
  refine r_aload_n 1434 hk dL_law_1433 rfl 1 rfl rfl ?_
  refine r_arg 1440 hk hs (k := 1) (by omega) hL dL_law_1434 dL_law_1435 dL_law_1437 rfl dL_law_1438 dL_law_1439 rfl ?_
  refine r_cVi 1443 (As := [.int (xs (i + 1))]) (rest := []) hk (kX9_back hN h1) cf_RL_217 mi_X9_back ⟨TX9, 16, rfl⟩ dL_law_1440 rfl (Nat.le_of_ble_eq_true rfl) (Nat.le_of_ble_eq_true rfl) (mk_9_0 (nx_9 hN (j := 0) (by decide))) rfl rfl (Nat.le_of_ble_eq_true rfl) ?_
  refine r_aload_n 1444 hk dL_law_1443 rfl 2 rfl rfl ?_
  refine r_arg 1450 hk hs (k := 1) (by omega) hL dL_law_1444 dL_law_1445 dL_law_1447 rfl dL_law_1448 dL_law_1449 rfl ?_
  refine r_cVi 1453 (As := [.int (xs (i + 1))]) (rest := [.int r]) hk (kX11_back hN h2) cf_RL_221 mi_X11_back ⟨TX11, 36, rfl⟩ dL_law_1450 rfl (Nat.le_of_ble_eq_true rfl) (Nat.le_of_ble_eq_true rfl) (mk_11_0 (nx_11 hN (j := 0) (by decide))) rfl rfl (Nat.le_of_ble_eq_true rfl) ?_
  exact r_icmp_eq 1552 1456 hk dL_law_1453 rfl rfl (fun _ => go) (fun c => absurd rfl c)
set_option maxRecDepth 100000 in
theorem lwc_50 {K : VC} {al : Al} {w w1 w2 : Wd} {b L i : Nat} {xs : Nat → Int32} {r : Int32} (hk : VH K RL cL_law 15 560) (hN : NX (kG K)) (hs : SC K b L xs) (hi : i + 6 ≤ L) (hL : L < 2 ^ 31) (h1 : fX9_size w (xs (i + 1)) = some (r, w1)) (h2 : fX11_size (gN (kG K) 10) w1 (xs (i + 1)) = some (r, w2)) (go : V K al w2 1552 (Lw b al i) []) : V K al w 1514 (Lw b al i) [] := by
  refine r_aload_n 1515 hk dL_law_1514 rfl 1 rfl rfl ?_
  refine r_arg 1521 hk hs (k := 1) (by omega) hL dL_law_1515 dL_law_1516 dL_law_1518 rfl dL_law_1519 dL_law_1520 rfl ?_
  refine r_cVi 1524 (As := [.int (xs (i + 1))]) (rest := []) hk (kX9_size hN h1) cf_RL_231 mi_X9_size ⟨TX9, 16, rfl⟩ dL_law_1521 rfl (Nat.le_of_ble_eq_true rfl) (Nat.le_of_ble_eq_true rfl) (mk_9_0 (nx_9 hN (j := 0) (by decide))) rfl rfl (Nat.le_of_ble_eq_true rfl) ?_
  refine r_aload_n 1525 hk dL_law_1524 rfl 2 rfl rfl ?_
  refine r_arg 1531 hk hs (k := 1) (by omega) hL dL_law_1525 dL_law_1526 dL_law_1528 rfl dL_law_1529 dL_law_1530 rfl ?_
  refine r_cVi 1534 (As := [.int (xs (i + 1))]) (rest := [.int r]) hk (kX11_size hN h2) cf_RL_234 mi_X11_size ⟨TX11, 36, rfl⟩ dL_law_1531 rfl (Nat.le_of_ble_eq_true rfl) (Nat.le_of_ble_eq_true rfl) (mk_11_0 (nx_11 hN (j := 0) (by decide))) rfl rfl (Nat.le_of_ble_eq_true rfl) ?_
  exact r_icmp_eq 1552 1537 hk dL_law_1534 rfl rfl (fun _ => go) (fun c => absurd rfl c)
set_option maxRecDepth 100000 in
theorem lwc_51 {K : VC} {al : Al} {w w1 w2 : Wd} {b L i : Nat} {xs : Nat → Int32} {r : Int32} (hk : VH K RL cL_law 15 560) (hN : NX (kG K)) (hs : SC K b L xs) (hi : i + 6 ≤ L) (hL : L < 2 ^ 31) (h1 : fX9_trouble w = some (r, w1)) (h2 : fX11_trouble (gN (kG K) 10) w1 = some (r, w2)) (go : V K al w2 1552 (Lw b al i) []) : V K al w 1539 (Lw b al i) [] := by
  refine r_aload_n 1540 hk dL_law_1539 rfl 1 rfl rfl ?_
  refine r_cVi 1543 (As := []) (rest := []) hk (kX9_trouble hN h1) cf_RL_235 mi_X9_trouble ⟨TX9, 16, rfl⟩ dL_law_1540 rfl (Nat.le_of_ble_eq_true rfl) (Nat.le_of_ble_eq_true rfl) (mk_9_0 (nx_9 hN (j := 0) (by decide))) rfl rfl (Nat.le_of_ble_eq_true rfl) ?_
  refine r_aload_n 1544 hk dL_law_1543 rfl 2 rfl rfl ?_
  refine r_cVi 1547 (As := []) (rest := [.int r]) hk (kX11_trouble hN h2) cf_RL_238 mi_X11_trouble ⟨TX11, 36, rfl⟩ dL_law_1544 rfl (Nat.le_of_ble_eq_true rfl) (Nat.le_of_ble_eq_true rfl) (mk_11_0 (nx_11 hN (j := 0) (by decide))) rfl rfl (Nat.le_of_ble_eq_true rfl) ?_
  exact r_icmp_eq 1552 1550 hk dL_law_1547 rfl rfl (fun _ => go) (fun c => absurd rfl c)
