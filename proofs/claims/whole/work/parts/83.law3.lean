section KL
variable {p : Program} {l : Launch} {e : Env} {s : State} {m : MethodId} {below : List Frame} {meth : Method} {c : Code} {bb L i : Nat} {xs : Nat → Int32} {G : kz_G} {x : Nat} {a sv ah h t o : Nat → Nat} {b : Nat → Nat → Nat} {V S Sv Sa Y : kz_S} {R : Nat → kz_S} {T M : kz_S}
set_option maxHeartbeats 1000000 in
set_option maxRecDepth 100000 in
theorem kl_c_day (C0 : kl_C p s m c bb L xs G) (hi : i + 4 ≤ L) (hL : L ≤ 2048) (I : kl_I V S Sv Y R T M) (KK : kl_K p l e s m below meth c bb G x a sv ah h t o b i) : kl_at p l e s m below meth c bb G x a sv ah h t o b i 378 V S Sv Sa Y R T M := by
  obtain ⟨hx, hb, hml, hown, hts, hX, hbl, hK, hZ⟩ := C0
  have hA : ∀ q : Nat, s.heap.size ≤ q → (fun q : Nat => s.heap.size ≤ q) q := fun _ h => h
  have hbA : ¬ (fun q : Nat => s.heap.size ≤ q) bb := Nat.not_le.mpr hbl
  intro H locs ls hP hD hS hl
  refine lv_aload_n hx hb dL_law_378 rfl (lv_at hl 1 rfl) ?_
  refine kz_rdV (As := []) (rest := []) (b := x) ⟨hx, hb, hml, hown, hts⟩ (c_X3_day l G x (sv 0) (ah 0) (h 0) (t 0) V a S) (cwV 0 hts gL_law_X3_day rfl rfl rfl (by decide +kernel) ⟨Nat.le_of_ble_eq_true rfl, Nat.le_of_ble_eq_true rfl⟩) hK (hP.sub [0, 1] rfl) (kz_recv hK hP (ci := 3) (q0 := 0) rfl rfl) rfl hl.1 rfl (Nat.le_of_ble_eq_true rfl) dL_law_379 ⟨Nat.le_of_ble_eq_true rfl, Nat.le_of_ble_eq_true rfl⟩ ?_
  refine lv_aload_n hx hb dL_law_382 rfl (lv_at hl 2 rfl) ?_
  refine kz_rdV (As := []) (rest := [.int (X3_day_r V S)]) (b := o 0) ⟨hx, hb, hml, hown, hts⟩ (c_X4_day l G o M) (cwV 0 hts gL_law_X4_day rfl rfl rfl (by decide +kernel) ⟨Nat.le_of_ble_eq_true rfl, Nat.le_of_ble_eq_true rfl⟩) hK (hP.sub [12] rfl) (kz_recv hK (hP.sub (cs := [mdW G o M]) [12] rfl) (ci := 4) (q0 := 0) rfl rfl) rfl hl.1 rfl (Nat.le_of_ble_eq_true rfl) dL_law_383 ⟨Nat.le_of_ble_eq_true rfl, Nat.le_of_ble_eq_true rfl⟩ ?_
  refine lv_icmp_eq (tgt := 861) hx hb dL_law_386 (by decide) (fun _ => ?_) (fun c9 => absurd (kl_p_day I) c9)
  exact (KK _ _ _ _ _ _ _ _ I) _ _ _ hP hD hS hl
set_option maxHeartbeats 1000000 in
set_option maxRecDepth 100000 in
theorem kl_c_parcel (C0 : kl_C p s m c bb L xs G) (hi : i + 4 ≤ L) (hL : L ≤ 2048) (I : kl_I V S Sv Y R T M) (KK : kl_K p l e s m below meth c bb G x a sv ah h t o b i) : kl_at p l e s m below meth c bb G x a sv ah h t o b i 391 V S Sv Sa Y R T M := by
  obtain ⟨hx, hb, hml, hown, hts, hX, hbl, hK, hZ⟩ := C0
  have hA : ∀ q : Nat, s.heap.size ≤ q → (fun q : Nat => s.heap.size ≤ q) q := fun _ h => h
  have hbA : ¬ (fun q : Nat => s.heap.size ≤ q) bb := Nat.not_le.mpr hbl
  intro H locs ls hP hD hS hl
  have hi1 : vp_in (nI i + 1) L := kl_in (k := 1) (by omega) hi hL
  obtain ⟨q, hq⟩ : ∃ z : Int32, z = xs (nI i + 1).toNatClampNeg := ⟨_, rfl⟩
  have hi2 : vp_in (nI i + 2) L := kl_in (k := 2) (by omega) hi hL
  obtain ⟨v, hv⟩ : ∃ z : Int32, z = xs (nI i + 2).toNatClampNeg := ⟨_, rfl⟩
  refine lv_aload_n hx hb dL_law_391 rfl (lv_at hl 1 rfl) ?_
  refine lv_aload_n hx hb dL_law_392 rfl (lv_at hl 0 rfl) ?_
  refine lv_iload_n hx hb dL_law_393 rfl (lv_at hl 3 rfl) ?_
  refine lv_iconst (v := 1) hx hb dL_law_394 (by decide +kernel) ?_
  refine lv_iadd hx hb dL_law_395 ?_
  refine va_sld hx hb hX hbl hbA hS hi1 dL_law_396 ?_
  refine lv_topi (fun y ey => ?_)
  obtain rfl : q = y := hq.trans ey.symm
  refine lv_aload_n hx hb dL_law_397 rfl (lv_at hl 0 rfl) ?_
  refine lv_iload_n hx hb dL_law_398 rfl (lv_at hl 3 rfl) ?_
  refine lv_iconst (v := 2) hx hb dL_law_399 (by decide +kernel) ?_
  refine lv_iadd hx hb dL_law_400 ?_
  refine va_sld hx hb hX hbl hbA hS hi2 dL_law_401 ?_
  refine lv_topi (fun y ey => ?_)
  obtain rfl : v = y := hv.trans ey.symm
  refine kz_rdV (As := [.int q, .int v]) (rest := []) (b := x) ⟨hx, hb, hml, hown, hts⟩ (c_X3_parcel l G x (sv 0) (ah 0) (h 0) (t 0) V a S q v) (cwV 2 hts gL_law_X3_parcel rfl rfl rfl (by decide +kernel) ⟨Nat.le_of_ble_eq_true rfl, Nat.le_of_ble_eq_true rfl⟩) hK (hP.sub [0, 1] rfl) (kz_recv hK hP (ci := 3) (q0 := 0) rfl rfl) rfl hl.1 rfl (Nat.le_of_ble_eq_true rfl) dL_law_402 ⟨Nat.le_of_ble_eq_true rfl, Nat.le_of_ble_eq_true rfl⟩ ?_
  refine lv_aload_n hx hb dL_law_405 rfl (lv_at hl 2 rfl) ?_
  refine lv_aload_n hx hb dL_law_406 rfl (lv_at hl 0 rfl) ?_
  refine lv_iload_n hx hb dL_law_407 rfl (lv_at hl 3 rfl) ?_
  refine lv_iconst (v := 1) hx hb dL_law_408 (by decide +kernel) ?_
  refine lv_iadd hx hb dL_law_409 ?_
  refine va_sld hx hb hX hbl hbA hS hi1 dL_law_410 ?_
  refine lv_topi (fun y ey => ?_)
  obtain rfl : q = y := hq.trans ey.symm
  refine lv_aload_n hx hb dL_law_411 rfl (lv_at hl 0 rfl) ?_
  refine lv_iload_n hx hb dL_law_412 rfl (lv_at hl 3 rfl) ?_
  refine lv_iconst (v := 2) hx hb dL_law_413 (by decide +kernel) ?_
  refine lv_iadd hx hb dL_law_414 ?_
  refine va_sld hx hb hX hbl hbA hS hi2 dL_law_415 ?_
  refine lv_topi (fun y ey => ?_)
  obtain rfl : v = y := hv.trans ey.symm
  refine kz_rdV (As := [.int q, .int v]) (rest := [.int (X3_parcel_r V S q v)]) (b := o 0) ⟨hx, hb, hml, hown, hts⟩ (c_X4_parcel l G o M q v (kl_M I)) (cwV 2 hts gL_law_X4_parcel rfl rfl rfl (by decide +kernel) ⟨Nat.le_of_ble_eq_true rfl, Nat.le_of_ble_eq_true rfl⟩) hK (hP.sub [12] rfl) (kz_recv hK (hP.sub (cs := [mdW G o M]) [12] rfl) (ci := 4) (q0 := 0) rfl rfl) rfl hl.1 rfl (Nat.le_of_ble_eq_true rfl) dL_law_416 ⟨Nat.le_of_ble_eq_true rfl, Nat.le_of_ble_eq_true rfl⟩ ?_
  refine lv_icmp_eq (tgt := 861) hx hb dL_law_419 (by decide) (fun _ => ?_) (fun c9 => absurd (kl_p_parcel I q v) c9)
  exact (KK _ _ _ _ _ _ _ _ I) _ _ _ hP hD hS hl
set_option maxHeartbeats 1000000 in
set_option maxRecDepth 100000 in
theorem kl_c_codeAt (C0 : kl_C p s m c bb L xs G) (hi : i + 4 ≤ L) (hL : L ≤ 2048) (I : kl_I V S Sv Y R T M) (KK : kl_K p l e s m below meth c bb G x a sv ah h t o b i) : kl_at p l e s m below meth c bb G x a sv ah h t o b i 424 V S Sv Sa Y R T M := by
  obtain ⟨hx, hb, hml, hown, hts, hX, hbl, hK, hZ⟩ := C0
  have hA : ∀ q : Nat, s.heap.size ≤ q → (fun q : Nat => s.heap.size ≤ q) q := fun _ h => h
  have hbA : ¬ (fun q : Nat => s.heap.size ≤ q) bb := Nat.not_le.mpr hbl
  intro H locs ls hP hD hS hl
  have hi1 : vp_in (nI i + 1) L := kl_in (k := 1) (by omega) hi hL
  obtain ⟨q, hq⟩ : ∃ z : Int32, z = xs (nI i + 1).toNatClampNeg := ⟨_, rfl⟩
  have hi2 : vp_in (nI i + 2) L := kl_in (k := 2) (by omega) hi hL
  obtain ⟨v, hv⟩ : ∃ z : Int32, z = xs (nI i + 2).toNatClampNeg := ⟨_, rfl⟩
  refine lv_aload_n hx hb dL_law_424 rfl (lv_at hl 1 rfl) ?_
  refine lv_aload_n hx hb dL_law_425 rfl (lv_at hl 0 rfl) ?_
  refine lv_iload_n hx hb dL_law_426 rfl (lv_at hl 3 rfl) ?_
  refine lv_iconst (v := 1) hx hb dL_law_427 (by decide +kernel) ?_
  refine lv_iadd hx hb dL_law_428 ?_
  refine va_sld hx hb hX hbl hbA hS hi1 dL_law_429 ?_
  refine lv_topi (fun y ey => ?_)
  obtain rfl : q = y := hq.trans ey.symm
  refine lv_aload_n hx hb dL_law_430 rfl (lv_at hl 0 rfl) ?_
  refine lv_iload_n hx hb dL_law_431 rfl (lv_at hl 3 rfl) ?_
  refine lv_iconst (v := 2) hx hb dL_law_432 (by decide +kernel) ?_
  refine lv_iadd hx hb dL_law_433 ?_
  refine va_sld hx hb hX hbl hbA hS hi2 dL_law_434 ?_
  refine lv_topi (fun y ey => ?_)
  obtain rfl : v = y := hv.trans ey.symm
  refine kz_rdV (As := [.int q, .int v]) (rest := []) (b := x) ⟨hx, hb, hml, hown, hts⟩ (c_X3_codeAt l G x (sv 0) (ah 0) (h 0) (t 0) V a S q v) (cwV 2 hts gL_law_X3_codeAt rfl rfl rfl (by decide +kernel) ⟨Nat.le_of_ble_eq_true rfl, Nat.le_of_ble_eq_true rfl⟩) hK (hP.sub [0, 1] rfl) (kz_recv hK hP (ci := 3) (q0 := 0) rfl rfl) rfl hl.1 rfl (Nat.le_of_ble_eq_true rfl) dL_law_435 ⟨Nat.le_of_ble_eq_true rfl, Nat.le_of_ble_eq_true rfl⟩ ?_
  refine lv_aload_n hx hb dL_law_438 rfl (lv_at hl 2 rfl) ?_
  refine lv_aload_n hx hb dL_law_439 rfl (lv_at hl 0 rfl) ?_
  refine lv_iload_n hx hb dL_law_440 rfl (lv_at hl 3 rfl) ?_
  refine lv_iconst (v := 1) hx hb dL_law_441 (by decide +kernel) ?_
  refine lv_iadd hx hb dL_law_442 ?_
  refine va_sld hx hb hX hbl hbA hS hi1 dL_law_443 ?_
  refine lv_topi (fun y ey => ?_)
  obtain rfl : q = y := hq.trans ey.symm
  refine lv_aload_n hx hb dL_law_444 rfl (lv_at hl 0 rfl) ?_
  refine lv_iload_n hx hb dL_law_445 rfl (lv_at hl 3 rfl) ?_
  refine lv_iconst (v := 2) hx hb dL_law_446 (by decide +kernel) ?_
  refine lv_iadd hx hb dL_law_447 ?_
  refine va_sld hx hb hX hbl hbA hS hi2 dL_law_448 ?_
  refine lv_topi (fun y ey => ?_)
  obtain rfl : v = y := hv.trans ey.symm
  refine kz_rdV (As := [.int q, .int v]) (rest := [.int (X3_codeAt_r V S q v)]) (b := o 0) ⟨hx, hb, hml, hown, hts⟩ (c_X4_codeAt l G o M q v) (cwV 2 hts gL_law_X4_codeAt rfl rfl rfl (by decide +kernel) ⟨Nat.le_of_ble_eq_true rfl, Nat.le_of_ble_eq_true rfl⟩) hK (hP.sub [12] rfl) (kz_recv hK (hP.sub (cs := [mdW G o M]) [12] rfl) (ci := 4) (q0 := 0) rfl rfl) rfl hl.1 rfl (Nat.le_of_ble_eq_true rfl) dL_law_449 ⟨Nat.le_of_ble_eq_true rfl, Nat.le_of_ble_eq_true rfl⟩ ?_
  refine lv_icmp_eq (tgt := 861) hx hb dL_law_452 (by decide) (fun _ => ?_) (fun c9 => absurd (kl_p_codeAt I q v) c9)
  exact (KK _ _ _ _ _ _ _ _ I) _ _ _ hP hD hS hl
set_option maxHeartbeats 1000000 in
set_option maxRecDepth 100000 in
theorem kl_c_shelf (C0 : kl_C p s m c bb L xs G) (hi : i + 4 ≤ L) (hL : L ≤ 2048) (I : kl_I V S Sv Y R T M) (KK : kl_K p l e s m below meth c bb G x a sv ah h t o b i) : kl_at p l e s m below meth c bb G x a sv ah h t o b i 457 V S Sv Sa Y R T M := by
  obtain ⟨hx, hb, hml, hown, hts, hX, hbl, hK, hZ⟩ := C0
  have hA : ∀ q : Nat, s.heap.size ≤ q → (fun q : Nat => s.heap.size ≤ q) q := fun _ h => h
  have hbA : ¬ (fun q : Nat => s.heap.size ≤ q) bb := Nat.not_le.mpr hbl
  intro H locs ls hP hD hS hl
  have hi1 : vp_in (nI i + 1) L := kl_in (k := 1) (by omega) hi hL
  obtain ⟨q, hq⟩ : ∃ z : Int32, z = xs (nI i + 1).toNatClampNeg := ⟨_, rfl⟩
  have hi2 : vp_in (nI i + 2) L := kl_in (k := 2) (by omega) hi hL
  obtain ⟨v, hv⟩ : ∃ z : Int32, z = xs (nI i + 2).toNatClampNeg := ⟨_, rfl⟩
  refine lv_aload_n hx hb dL_law_457 rfl (lv_at hl 1 rfl) ?_
  refine lv_aload_n hx hb dL_law_458 rfl (lv_at hl 0 rfl) ?_
  refine lv_iload_n hx hb dL_law_459 rfl (lv_at hl 3 rfl) ?_
  refine lv_iconst (v := 1) hx hb dL_law_460 (by decide +kernel) ?_
  refine lv_iadd hx hb dL_law_461 ?_
  refine va_sld hx hb hX hbl hbA hS hi1 dL_law_462 ?_
  refine lv_topi (fun y ey => ?_)
  obtain rfl : q = y := hq.trans ey.symm
  refine lv_aload_n hx hb dL_law_463 rfl (lv_at hl 0 rfl) ?_
  refine lv_iload_n hx hb dL_law_464 rfl (lv_at hl 3 rfl) ?_
  refine lv_iconst (v := 2) hx hb dL_law_465 (by decide +kernel) ?_
  refine lv_iadd hx hb dL_law_466 ?_
  refine va_sld hx hb hX hbl hbA hS hi2 dL_law_467 ?_
  refine lv_topi (fun y ey => ?_)
  obtain rfl : v = y := hv.trans ey.symm
  refine kz_rdV (As := [.int q, .int v]) (rest := []) (b := x) ⟨hx, hb, hml, hown, hts⟩ (c_X3_shelf l G x (sv 0) (ah 0) (h 0) (t 0) V a S q v (kl_t I)) (cwV 2 hts gL_law_X3_shelf rfl rfl rfl (by decide +kernel) ⟨Nat.le_of_ble_eq_true rfl, Nat.le_of_ble_eq_true rfl⟩) hK (hP.sub [0, 1] rfl) (kz_recv hK hP (ci := 3) (q0 := 0) rfl rfl) rfl hl.1 rfl (Nat.le_of_ble_eq_true rfl) dL_law_468 ⟨Nat.le_of_ble_eq_true rfl, Nat.le_of_ble_eq_true rfl⟩ ?_
  refine lv_aload_n hx hb dL_law_471 rfl (lv_at hl 2 rfl) ?_
  refine lv_aload_n hx hb dL_law_472 rfl (lv_at hl 0 rfl) ?_
  refine lv_iload_n hx hb dL_law_473 rfl (lv_at hl 3 rfl) ?_
  refine lv_iconst (v := 1) hx hb dL_law_474 (by decide +kernel) ?_
  refine lv_iadd hx hb dL_law_475 ?_
  refine va_sld hx hb hX hbl hbA hS hi1 dL_law_476 ?_
  refine lv_topi (fun y ey => ?_)
  obtain rfl : q = y := hq.trans ey.symm
  refine lv_aload_n hx hb dL_law_477 rfl (lv_at hl 0 rfl) ?_
  refine lv_iload_n hx hb dL_law_478 rfl (lv_at hl 3 rfl) ?_
  refine lv_iconst (v := 2) hx hb dL_law_479 (by decide +kernel) ?_
  refine lv_iadd hx hb dL_law_480 ?_
  refine va_sld hx hb hX hbl hbA hS hi2 dL_law_481 ?_
  refine lv_topi (fun y ey => ?_)
  obtain rfl : v = y := hv.trans ey.symm
  refine kz_rdV (As := [.int q, .int v]) (rest := [.int (X3_shelf_r V S q v)]) (b := o 0) ⟨hx, hb, hml, hown, hts⟩ (c_X4_shelf l G o M q v (kl_zt I)) (cwV 2 hts gL_law_X4_shelf rfl rfl rfl (by decide +kernel) ⟨Nat.le_of_ble_eq_true rfl, Nat.le_of_ble_eq_true rfl⟩) hK (hP.sub [12] rfl) (kz_recv hK (hP.sub (cs := [mdW G o M]) [12] rfl) (ci := 4) (q0 := 0) rfl rfl) rfl hl.1 rfl (Nat.le_of_ble_eq_true rfl) dL_law_482 ⟨Nat.le_of_ble_eq_true rfl, Nat.le_of_ble_eq_true rfl⟩ ?_
  refine lv_icmp_eq (tgt := 861) hx hb dL_law_485 (by decide) (fun _ => ?_) (fun c9 => absurd (kl_p_shelf I q v) c9)
  exact (KK _ _ _ _ _ _ _ _ I) _ _ _ hP hD hS hl
set_option maxHeartbeats 1000000 in
set_option maxRecDepth 100000 in
theorem kl_c_sender (C0 : kl_C p s m c bb L xs G) (hi : i + 4 ≤ L) (hL : L ≤ 2048) (I : kl_I V S Sv Y R T M) (KK : kl_K p l e s m below meth c bb G x a sv ah h t o b i) : kl_at p l e s m below meth c bb G x a sv ah h t o b i 490 V S Sv Sa Y R T M := by
  obtain ⟨hx, hb, hml, hown, hts, hX, hbl, hK, hZ⟩ := C0
  have hA : ∀ q : Nat, s.heap.size ≤ q → (fun q : Nat => s.heap.size ≤ q) q := fun _ h => h
  have hbA : ¬ (fun q : Nat => s.heap.size ≤ q) bb := Nat.not_le.mpr hbl
  intro H locs ls hP hD hS hl
  have hi1 : vp_in (nI i + 1) L := kl_in (k := 1) (by omega) hi hL
  obtain ⟨q, hq⟩ : ∃ z : Int32, z = xs (nI i + 1).toNatClampNeg := ⟨_, rfl⟩
  have hi2 : vp_in (nI i + 2) L := kl_in (k := 2) (by omega) hi hL
  obtain ⟨v, hv⟩ : ∃ z : Int32, z = xs (nI i + 2).toNatClampNeg := ⟨_, rfl⟩
  refine lv_aload_n hx hb dL_law_490 rfl (lv_at hl 1 rfl) ?_
  refine lv_aload_n hx hb dL_law_491 rfl (lv_at hl 0 rfl) ?_
  refine lv_iload_n hx hb dL_law_492 rfl (lv_at hl 3 rfl) ?_
  refine lv_iconst (v := 1) hx hb dL_law_493 (by decide +kernel) ?_
  refine lv_iadd hx hb dL_law_494 ?_
  refine va_sld hx hb hX hbl hbA hS hi1 dL_law_495 ?_
  refine lv_topi (fun y ey => ?_)
  obtain rfl : q = y := hq.trans ey.symm
  refine lv_aload_n hx hb dL_law_496 rfl (lv_at hl 0 rfl) ?_
  refine lv_iload_n hx hb dL_law_497 rfl (lv_at hl 3 rfl) ?_
  refine lv_iconst (v := 2) hx hb dL_law_498 (by decide +kernel) ?_
  refine lv_iadd hx hb dL_law_499 ?_
  refine va_sld hx hb hX hbl hbA hS hi2 dL_law_500 ?_
  refine lv_topi (fun y ey => ?_)
  obtain rfl : v = y := hv.trans ey.symm
  refine kz_rdV (As := [.int q, .int v]) (rest := []) (b := x) ⟨hx, hb, hml, hown, hts⟩ (c_X3_sender l G x (sv 0) (ah 0) (h 0) (t 0) V a S q v) (cwV 2 hts gL_law_X3_sender rfl rfl rfl (by decide +kernel) ⟨Nat.le_of_ble_eq_true rfl, Nat.le_of_ble_eq_true rfl⟩) hK (hP.sub [0, 1] rfl) (kz_recv hK hP (ci := 3) (q0 := 0) rfl rfl) rfl hl.1 rfl (Nat.le_of_ble_eq_true rfl) dL_law_501 ⟨Nat.le_of_ble_eq_true rfl, Nat.le_of_ble_eq_true rfl⟩ ?_
  refine lv_aload_n hx hb dL_law_504 rfl (lv_at hl 2 rfl) ?_
  refine lv_aload_n hx hb dL_law_505 rfl (lv_at hl 0 rfl) ?_
  refine lv_iload_n hx hb dL_law_506 rfl (lv_at hl 3 rfl) ?_
  refine lv_iconst (v := 1) hx hb dL_law_507 (by decide +kernel) ?_
  refine lv_iadd hx hb dL_law_508 ?_
  refine va_sld hx hb hX hbl hbA hS hi1 dL_law_509 ?_
  refine lv_topi (fun y ey => ?_)
  obtain rfl : q = y := hq.trans ey.symm
  refine lv_aload_n hx hb dL_law_510 rfl (lv_at hl 0 rfl) ?_
  refine lv_iload_n hx hb dL_law_511 rfl (lv_at hl 3 rfl) ?_
  refine lv_iconst (v := 2) hx hb dL_law_512 (by decide +kernel) ?_
  refine lv_iadd hx hb dL_law_513 ?_
  refine va_sld hx hb hX hbl hbA hS hi2 dL_law_514 ?_
  refine lv_topi (fun y ey => ?_)
  obtain rfl : v = y := hv.trans ey.symm
  refine kz_rdV (As := [.int q, .int v]) (rest := [.int (X3_sender_r V S q v)]) (b := o 0) ⟨hx, hb, hml, hown, hts⟩ (c_X4_sender l G o M q v) (cwV 2 hts gL_law_X4_sender rfl rfl rfl (by decide +kernel) ⟨Nat.le_of_ble_eq_true rfl, Nat.le_of_ble_eq_true rfl⟩) hK (hP.sub [12] rfl) (kz_recv hK (hP.sub (cs := [mdW G o M]) [12] rfl) (ci := 4) (q0 := 0) rfl rfl) rfl hl.1 rfl (Nat.le_of_ble_eq_true rfl) dL_law_515 ⟨Nat.le_of_ble_eq_true rfl, Nat.le_of_ble_eq_true rfl⟩ ?_
  refine lv_icmp_eq (tgt := 861) hx hb dL_law_518 (by decide) (fun _ => ?_) (fun c9 => absurd (kl_p_sender I q v) c9)
  exact (KK _ _ _ _ _ _ _ _ I) _ _ _ hP hD hS hl
set_option maxHeartbeats 1000000 in
set_option maxRecDepth 100000 in
theorem kl_c_total (C0 : kl_C p s m c bb L xs G) (hi : i + 4 ≤ L) (hL : L ≤ 2048) (I : kl_I V S Sv Y R T M) (KK : kl_K p l e s m below meth c bb G x a sv ah h t o b i) : kl_at p l e s m below meth c bb G x a sv ah h t o b i 523 V S Sv Sa Y R T M := by
  obtain ⟨hx, hb, hml, hown, hts, hX, hbl, hK, hZ⟩ := C0
  have hA : ∀ q : Nat, s.heap.size ≤ q → (fun q : Nat => s.heap.size ≤ q) q := fun _ h => h
  have hbA : ¬ (fun q : Nat => s.heap.size ≤ q) bb := Nat.not_le.mpr hbl
  intro H locs ls hP hD hS hl
  have hi1 : vp_in (nI i + 1) L := kl_in (k := 1) (by omega) hi hL
  obtain ⟨q, hq⟩ : ∃ z : Int32, z = xs (nI i + 1).toNatClampNeg := ⟨_, rfl⟩
  refine lv_aload_n hx hb dL_law_523 rfl (lv_at hl 1 rfl) ?_
  refine lv_aload_n hx hb dL_law_524 rfl (lv_at hl 0 rfl) ?_
  refine lv_iload_n hx hb dL_law_525 rfl (lv_at hl 3 rfl) ?_
  refine lv_iconst (v := 1) hx hb dL_law_526 (by decide +kernel) ?_
  refine lv_iadd hx hb dL_law_527 ?_
  refine va_sld hx hb hX hbl hbA hS hi1 dL_law_528 ?_
  refine lv_topi (fun y ey => ?_)
  obtain rfl : q = y := hq.trans ey.symm
  refine kz_rdV (As := [.int q]) (rest := []) (b := x) ⟨hx, hb, hml, hown, hts⟩ (c_X3_total l G x (sv 0) (ah 0) (h 0) (t 0) V a S q) (cwV 1 hts gL_law_X3_total rfl rfl rfl (by decide +kernel) ⟨Nat.le_of_ble_eq_true rfl, Nat.le_of_ble_eq_true rfl⟩) hK (hP.sub [0, 1] rfl) (kz_recv hK hP (ci := 3) (q0 := 0) rfl rfl) rfl hl.1 rfl (Nat.le_of_ble_eq_true rfl) dL_law_529 ⟨Nat.le_of_ble_eq_true rfl, Nat.le_of_ble_eq_true rfl⟩ ?_
  refine lv_aload_n hx hb dL_law_532 rfl (lv_at hl 2 rfl) ?_
  refine lv_aload_n hx hb dL_law_533 rfl (lv_at hl 0 rfl) ?_
  refine lv_iload_n hx hb dL_law_534 rfl (lv_at hl 3 rfl) ?_
  refine lv_iconst (v := 1) hx hb dL_law_535 (by decide +kernel) ?_
  refine lv_iadd hx hb dL_law_536 ?_
  refine va_sld hx hb hX hbl hbA hS hi1 dL_law_537 ?_
  refine lv_topi (fun y ey => ?_)
  obtain rfl : q = y := hq.trans ey.symm
  refine kz_rdV (As := [.int q]) (rest := [.int (X3_total_r V S q)]) (b := o 0) ⟨hx, hb, hml, hown, hts⟩ (c_X4_total l G o M q) (cwV 1 hts gL_law_X4_total rfl rfl rfl (by decide +kernel) ⟨Nat.le_of_ble_eq_true rfl, Nat.le_of_ble_eq_true rfl⟩) hK (hP.sub [12] rfl) (kz_recv hK (hP.sub (cs := [mdW G o M]) [12] rfl) (ci := 4) (q0 := 0) rfl rfl) rfl hl.1 rfl (Nat.le_of_ble_eq_true rfl) dL_law_538 ⟨Nat.le_of_ble_eq_true rfl, Nat.le_of_ble_eq_true rfl⟩ ?_
  refine lv_icmp_eq (tgt := 861) hx hb dL_law_541 (by decide) (fun _ => ?_) (fun c9 => absurd (kl_p_total I q) c9)
  exact (KK _ _ _ _ _ _ _ _ I) _ _ _ hP hD hS hl
set_option maxHeartbeats 1000000 in
set_option maxRecDepth 100000 in
theorem kl_c_refusal (C0 : kl_C p s m c bb L xs G) (hi : i + 4 ≤ L) (hL : L ≤ 2048) (I : kl_I V S Sv Y R T M) (KK : kl_K p l e s m below meth c bb G x a sv ah h t o b i) : kl_at p l e s m below meth c bb G x a sv ah h t o b i 546 V S Sv Sa Y R T M := by
  obtain ⟨hx, hb, hml, hown, hts, hX, hbl, hK, hZ⟩ := C0
  have hA : ∀ q : Nat, s.heap.size ≤ q → (fun q : Nat => s.heap.size ≤ q) q := fun _ h => h
  have hbA : ¬ (fun q : Nat => s.heap.size ≤ q) bb := Nat.not_le.mpr hbl
  intro H locs ls hP hD hS hl
  have hi1 : vp_in (nI i + 1) L := kl_in (k := 1) (by omega) hi hL
  obtain ⟨q, hq⟩ : ∃ z : Int32, z = xs (nI i + 1).toNatClampNeg := ⟨_, rfl⟩
  refine lv_aload_n hx hb dL_law_546 rfl (lv_at hl 1 rfl) ?_
  refine lv_aload_n hx hb dL_law_547 rfl (lv_at hl 0 rfl) ?_
  refine lv_iload_n hx hb dL_law_548 rfl (lv_at hl 3 rfl) ?_
  refine lv_iconst (v := 1) hx hb dL_law_549 (by decide +kernel) ?_
  refine lv_iadd hx hb dL_law_550 ?_
  refine va_sld hx hb hX hbl hbA hS hi1 dL_law_551 ?_
  refine lv_topi (fun y ey => ?_)
  obtain rfl : q = y := hq.trans ey.symm
  refine kz_rdV (As := [.int q]) (rest := []) (b := x) ⟨hx, hb, hml, hown, hts⟩ (c_X3_refusal l G x (a 0) (sv 0) (ah 0) (h 0) (t 0) V q) (cwV 1 hts gL_law_X3_refusal rfl rfl rfl (by decide +kernel) ⟨Nat.le_of_ble_eq_true rfl, Nat.le_of_ble_eq_true rfl⟩) hK (hP.sub [0] rfl) (kz_recv hK hP (ci := 3) (q0 := 0) rfl rfl) rfl hl.1 rfl (Nat.le_of_ble_eq_true rfl) dL_law_552 ⟨Nat.le_of_ble_eq_true rfl, Nat.le_of_ble_eq_true rfl⟩ ?_
  refine lv_aload_n hx hb dL_law_555 rfl (lv_at hl 2 rfl) ?_
  refine lv_aload_n hx hb dL_law_556 rfl (lv_at hl 0 rfl) ?_
  refine lv_iload_n hx hb dL_law_557 rfl (lv_at hl 3 rfl) ?_
  refine lv_iconst (v := 1) hx hb dL_law_558 (by decide +kernel) ?_
  refine lv_iadd hx hb dL_law_559 ?_
  refine va_sld hx hb hX hbl hbA hS hi1 dL_law_560 ?_
  refine lv_topi (fun y ey => ?_)
  obtain rfl : q = y := hq.trans ey.symm
  refine kz_rdV (As := [.int q]) (rest := [.int (X3_refusal_r V q)]) (b := o 0) ⟨hx, hb, hml, hown, hts⟩ (c_X4_refusal l G o M q) (cwV 1 hts gL_law_X4_refusal rfl rfl rfl (by decide +kernel) ⟨Nat.le_of_ble_eq_true rfl, Nat.le_of_ble_eq_true rfl⟩) hK (hP.sub [12] rfl) (kz_recv hK (hP.sub (cs := [mdW G o M]) [12] rfl) (ci := 4) (q0 := 0) rfl rfl) rfl hl.1 rfl (Nat.le_of_ble_eq_true rfl) dL_law_561 ⟨Nat.le_of_ble_eq_true rfl, Nat.le_of_ble_eq_true rfl⟩ ?_
  refine lv_icmp_eq (tgt := 861) hx hb dL_law_564 (by decide) (fun _ => ?_) (fun c9 => absurd (kl_p_refusal I q) c9)
  exact (KK _ _ _ _ _ _ _ _ I) _ _ _ hP hD hS hl
set_option maxHeartbeats 1000000 in
set_option maxRecDepth 100000 in
theorem kl_c_isCode (C0 : kl_C p s m c bb L xs G) (hi : i + 4 ≤ L) (hL : L ≤ 2048) (I : kl_I V S Sv Y R T M) (KK : kl_K p l e s m below meth c bb G x a sv ah h t o b i) : kl_at p l e s m below meth c bb G x a sv ah h t o b i 569 V S Sv Sa Y R T M := by
  obtain ⟨hx, hb, hml, hown, hts, hX, hbl, hK, hZ⟩ := C0
  have hA : ∀ q : Nat, s.heap.size ≤ q → (fun q : Nat => s.heap.size ≤ q) q := fun _ h => h
  have hbA : ¬ (fun q : Nat => s.heap.size ≤ q) bb := Nat.not_le.mpr hbl
  intro H locs ls hP hD hS hl
  have hi1 : vp_in (nI i + 1) L := kl_in (k := 1) (by omega) hi hL
  obtain ⟨q, hq⟩ : ∃ z : Int32, z = xs (nI i + 1).toNatClampNeg := ⟨_, rfl⟩
  refine lv_aload_n hx hb dL_law_569 rfl (lv_at hl 1 rfl) ?_
  refine lv_aload_n hx hb dL_law_570 rfl (lv_at hl 0 rfl) ?_
  refine lv_iload_n hx hb dL_law_571 rfl (lv_at hl 3 rfl) ?_
  refine lv_iconst (v := 1) hx hb dL_law_572 (by decide +kernel) ?_
  refine lv_iadd hx hb dL_law_573 ?_
  refine va_sld hx hb hX hbl hbA hS hi1 dL_law_574 ?_
  refine lv_topi (fun y ey => ?_)
  obtain rfl : q = y := hq.trans ey.symm
  refine kz_rdV (As := [.int q]) (rest := []) (b := x) ⟨hx, hb, hml, hown, hts⟩ (c_X3_isCode l G x (a 0) (sv 0) (ah 0) (h 0) (t 0) V q) (cwV 1 hts gL_law_X3_isCode rfl rfl rfl (by decide +kernel) ⟨Nat.le_of_ble_eq_true rfl, Nat.le_of_ble_eq_true rfl⟩) hK (hP.sub [0] rfl) (kz_recv hK hP (ci := 3) (q0 := 0) rfl rfl) rfl hl.1 rfl (Nat.le_of_ble_eq_true rfl) dL_law_575 ⟨Nat.le_of_ble_eq_true rfl, Nat.le_of_ble_eq_true rfl⟩ ?_
  refine lv_aload_n hx hb dL_law_578 rfl (lv_at hl 2 rfl) ?_
  refine lv_aload_n hx hb dL_law_579 rfl (lv_at hl 0 rfl) ?_
  refine lv_iload_n hx hb dL_law_580 rfl (lv_at hl 3 rfl) ?_
  refine lv_iconst (v := 1) hx hb dL_law_581 (by decide +kernel) ?_
  refine lv_iadd hx hb dL_law_582 ?_
  refine va_sld hx hb hX hbl hbA hS hi1 dL_law_583 ?_
  refine lv_topi (fun y ey => ?_)
  obtain rfl : q = y := hq.trans ey.symm
  refine kz_rdV (As := [.int q]) (rest := [.int (X3_isCode_r V q)]) (b := o 0) ⟨hx, hb, hml, hown, hts⟩ (c_X4_isCode l G o M q) (cwV 1 hts gL_law_X4_isCode rfl rfl rfl (by decide +kernel) ⟨Nat.le_of_ble_eq_true rfl, Nat.le_of_ble_eq_true rfl⟩) hK (hP.sub [12] rfl) (kz_recv hK (hP.sub (cs := [mdW G o M]) [12] rfl) (ci := 4) (q0 := 0) rfl rfl) rfl hl.1 rfl (Nat.le_of_ble_eq_true rfl) dL_law_584 ⟨Nat.le_of_ble_eq_true rfl, Nat.le_of_ble_eq_true rfl⟩ ?_
  refine lv_icmp_eq (tgt := 861) hx hb dL_law_587 (by decide) (fun _ => ?_) (fun c9 => absurd (kl_p_isCode I q) c9)
  exact (KK _ _ _ _ _ _ _ _ I) _ _ _ hP hD hS hl
set_option maxHeartbeats 1000000 in
set_option maxRecDepth 100000 in
theorem kl_c_codeOf (C0 : kl_C p s m c bb L xs G) (hi : i + 4 ≤ L) (hL : L ≤ 2048) (I : kl_I V S Sv Y R T M) (KK : kl_K p l e s m below meth c bb G x a sv ah h t o b i) : kl_at p l e s m below meth c bb G x a sv ah h t o b i 592 V S Sv Sa Y R T M := by
  obtain ⟨hx, hb, hml, hown, hts, hX, hbl, hK, hZ⟩ := C0
  have hA : ∀ q : Nat, s.heap.size ≤ q → (fun q : Nat => s.heap.size ≤ q) q := fun _ h => h
  have hbA : ¬ (fun q : Nat => s.heap.size ≤ q) bb := Nat.not_le.mpr hbl
  intro H locs ls hP hD hS hl
  have hi1 : vp_in (nI i + 1) L := kl_in (k := 1) (by omega) hi hL
  obtain ⟨q, hq⟩ : ∃ z : Int32, z = xs (nI i + 1).toNatClampNeg := ⟨_, rfl⟩
  have hi2 : vp_in (nI i + 2) L := kl_in (k := 2) (by omega) hi hL
  obtain ⟨v, hv⟩ : ∃ z : Int32, z = xs (nI i + 2).toNatClampNeg := ⟨_, rfl⟩
  have hi3 : vp_in (nI i + 3) L := kl_in (k := 3) (by omega) hi hL
  obtain ⟨w, hw⟩ : ∃ z : Int32, z = xs (nI i + 3).toNatClampNeg := ⟨_, rfl⟩
  refine lv_aload_n hx hb dL_law_592 rfl (lv_at hl 1 rfl) ?_
  refine lv_aload_n hx hb dL_law_593 rfl (lv_at hl 0 rfl) ?_
  refine lv_iload_n hx hb dL_law_594 rfl (lv_at hl 3 rfl) ?_
  refine lv_iconst (v := 1) hx hb dL_law_595 (by decide +kernel) ?_
  refine lv_iadd hx hb dL_law_596 ?_
  refine va_sld hx hb hX hbl hbA hS hi1 dL_law_597 ?_
  refine lv_topi (fun y ey => ?_)
  obtain rfl : q = y := hq.trans ey.symm
  refine lv_aload_n hx hb dL_law_598 rfl (lv_at hl 0 rfl) ?_
  refine lv_iload_n hx hb dL_law_599 rfl (lv_at hl 3 rfl) ?_
  refine lv_iconst (v := 2) hx hb dL_law_600 (by decide +kernel) ?_
  refine lv_iadd hx hb dL_law_601 ?_
  refine va_sld hx hb hX hbl hbA hS hi2 dL_law_602 ?_
  refine lv_topi (fun y ey => ?_)
  obtain rfl : v = y := hv.trans ey.symm
  refine lv_aload_n hx hb dL_law_603 rfl (lv_at hl 0 rfl) ?_
  refine lv_iload_n hx hb dL_law_604 rfl (lv_at hl 3 rfl) ?_
  refine lv_iconst (v := 3) hx hb dL_law_605 (by decide +kernel) ?_
  refine lv_iadd hx hb dL_law_606 ?_
  refine va_sld hx hb hX hbl hbA hS hi3 dL_law_607 ?_
  refine lv_topi (fun y ey => ?_)
  obtain rfl : w = y := hw.trans ey.symm
  refine kz_rdV (As := [.int q, .int v, .int w]) (rest := []) (b := x) ⟨hx, hb, hml, hown, hts⟩ (c_X3_codeOf l G x (a 0) (sv 0) (ah 0) (h 0) (t 0) V q v w) (cwV 3 hts gL_law_X3_codeOf rfl rfl rfl (by decide +kernel) ⟨Nat.le_of_ble_eq_true rfl, Nat.le_of_ble_eq_true rfl⟩) hK (hP.sub [0] rfl) (kz_recv hK hP (ci := 3) (q0 := 0) rfl rfl) rfl hl.1 rfl (Nat.le_of_ble_eq_true rfl) dL_law_608 ⟨Nat.le_of_ble_eq_true rfl, Nat.le_of_ble_eq_true rfl⟩ ?_
  refine lv_aload_n hx hb dL_law_611 rfl (lv_at hl 2 rfl) ?_
  refine lv_aload_n hx hb dL_law_612 rfl (lv_at hl 0 rfl) ?_
  refine lv_iload_n hx hb dL_law_613 rfl (lv_at hl 3 rfl) ?_
  refine lv_iconst (v := 1) hx hb dL_law_614 (by decide +kernel) ?_
  refine lv_iadd hx hb dL_law_615 ?_
  refine va_sld hx hb hX hbl hbA hS hi1 dL_law_616 ?_
  refine lv_topi (fun y ey => ?_)
  obtain rfl : q = y := hq.trans ey.symm
  refine lv_aload_n hx hb dL_law_617 rfl (lv_at hl 0 rfl) ?_
  refine lv_iload_n hx hb dL_law_618 rfl (lv_at hl 3 rfl) ?_
  refine lv_iconst (v := 2) hx hb dL_law_619 (by decide +kernel) ?_
  refine lv_iadd hx hb dL_law_620 ?_
  refine va_sld hx hb hX hbl hbA hS hi2 dL_law_621 ?_
  refine lv_topi (fun y ey => ?_)
  obtain rfl : v = y := hv.trans ey.symm
  refine lv_aload_n hx hb dL_law_622 rfl (lv_at hl 0 rfl) ?_
  refine lv_iload_n hx hb dL_law_623 rfl (lv_at hl 3 rfl) ?_
  refine lv_iconst (v := 3) hx hb dL_law_624 (by decide +kernel) ?_
  refine lv_iadd hx hb dL_law_625 ?_
  refine va_sld hx hb hX hbl hbA hS hi3 dL_law_626 ?_
  refine lv_topi (fun y ey => ?_)
  obtain rfl : w = y := hw.trans ey.symm
  refine kz_rdV (As := [.int q, .int v, .int w]) (rest := [.int (X3_codeOf_r V q v w)]) (b := o 0) ⟨hx, hb, hml, hown, hts⟩ (c_X4_codeOf l G o M q v w) (cwV 3 hts gL_law_X4_codeOf rfl rfl rfl (by decide +kernel) ⟨Nat.le_of_ble_eq_true rfl, Nat.le_of_ble_eq_true rfl⟩) hK (hP.sub [12] rfl) (kz_recv hK (hP.sub (cs := [mdW G o M]) [12] rfl) (ci := 4) (q0 := 0) rfl rfl) rfl hl.1 rfl (Nat.le_of_ble_eq_true rfl) dL_law_627 ⟨Nat.le_of_ble_eq_true rfl, Nat.le_of_ble_eq_true rfl⟩ ?_
  refine lv_icmp_eq (tgt := 861) hx hb dL_law_630 (by decide) (fun _ => ?_) (fun c9 => absurd (kl_p_codeOf I q v w) c9)
  exact (KK _ _ _ _ _ _ _ _ I) _ _ _ hP hD hS hl
set_option maxHeartbeats 1000000 in
set_option maxRecDepth 100000 in
theorem kl_c_restsUntil (C0 : kl_C p s m c bb L xs G) (hi : i + 4 ≤ L) (hL : L ≤ 2048) (I : kl_I V S Sv Y R T M) (KK : kl_K p l e s m below meth c bb G x a sv ah h t o b i) : kl_at p l e s m below meth c bb G x a sv ah h t o b i 635 V S Sv Sa Y R T M := by
  obtain ⟨hx, hb, hml, hown, hts, hX, hbl, hK, hZ⟩ := C0
  have hA : ∀ q : Nat, s.heap.size ≤ q → (fun q : Nat => s.heap.size ≤ q) q := fun _ h => h
  have hbA : ¬ (fun q : Nat => s.heap.size ≤ q) bb := Nat.not_le.mpr hbl
  intro H locs ls hP hD hS hl
  have hi1 : vp_in (nI i + 1) L := kl_in (k := 1) (by omega) hi hL
  obtain ⟨q, hq⟩ : ∃ z : Int32, z = xs (nI i + 1).toNatClampNeg := ⟨_, rfl⟩
  refine lv_aload_n hx hb dL_law_635 rfl (lv_at hl 1 rfl) ?_
  refine lv_aload_n hx hb dL_law_636 rfl (lv_at hl 0 rfl) ?_
  refine lv_iload_n hx hb dL_law_637 rfl (lv_at hl 3 rfl) ?_
  refine lv_iconst (v := 1) hx hb dL_law_638 (by decide +kernel) ?_
  refine lv_iadd hx hb dL_law_639 ?_
  refine va_sld hx hb hX hbl hbA hS hi1 dL_law_640 ?_
  refine lv_topi (fun y ey => ?_)
  obtain rfl : q = y := hq.trans ey.symm
  refine kz_rdV (As := [.int q]) (rest := []) (b := x) ⟨hx, hb, hml, hown, hts⟩ (c_X3_restsUntil l G x (sv 0) (ah 0) (h 0) (t 0) V a S q) (cwV 1 hts gL_law_X3_restsUntil rfl rfl rfl (by decide +kernel) ⟨Nat.le_of_ble_eq_true rfl, Nat.le_of_ble_eq_true rfl⟩) hK (hP.sub [0, 1] rfl) (kz_recv hK hP (ci := 3) (q0 := 0) rfl rfl) rfl hl.1 rfl (Nat.le_of_ble_eq_true rfl) dL_law_641 ⟨Nat.le_of_ble_eq_true rfl, Nat.le_of_ble_eq_true rfl⟩ ?_
  refine lv_aload_n hx hb dL_law_644 rfl (lv_at hl 2 rfl) ?_
  refine lv_aload_n hx hb dL_law_645 rfl (lv_at hl 0 rfl) ?_
  refine lv_iload_n hx hb dL_law_646 rfl (lv_at hl 3 rfl) ?_
  refine lv_iconst (v := 1) hx hb dL_law_647 (by decide +kernel) ?_
  refine lv_iadd hx hb dL_law_648 ?_
  refine va_sld hx hb hX hbl hbA hS hi1 dL_law_649 ?_
  refine lv_topi (fun y ey => ?_)
  obtain rfl : q = y := hq.trans ey.symm
  refine kz_rdV (As := [.int q]) (rest := [.int (X3_restsUntil_r V S q)]) (b := o 0) ⟨hx, hb, hml, hown, hts⟩ (c_X4_restsUntil l G o M q) (cwV 1 hts gL_law_X4_restsUntil rfl rfl rfl (by decide +kernel) ⟨Nat.le_of_ble_eq_true rfl, Nat.le_of_ble_eq_true rfl⟩) hK (hP.sub [12] rfl) (kz_recv hK (hP.sub (cs := [mdW G o M]) [12] rfl) (ci := 4) (q0 := 0) rfl rfl) rfl hl.1 rfl (Nat.le_of_ble_eq_true rfl) dL_law_650 ⟨Nat.le_of_ble_eq_true rfl, Nat.le_of_ble_eq_true rfl⟩ ?_
  refine lv_icmp_eq (tgt := 861) hx hb dL_law_653 (by decide) (fun _ => ?_) (fun c9 => absurd (kl_p_restsUntil I q) c9)
  exact (KK _ _ _ _ _ _ _ _ I) _ _ _ hP hD hS hl
set_option maxHeartbeats 1000000 in
set_option maxRecDepth 100000 in
theorem kl_c_nextCode (C0 : kl_C p s m c bb L xs G) (hi : i + 4 ≤ L) (hL : L ≤ 2048) (I : kl_I V S Sv Y R T M) (KK : kl_K p l e s m below meth c bb G x a sv ah h t o b i) : kl_at p l e s m below meth c bb G x a sv ah h t o b i 658 V S Sv Sa Y R T M := by
  obtain ⟨hx, hb, hml, hown, hts, hX, hbl, hK, hZ⟩ := C0
  have hA : ∀ q : Nat, s.heap.size ≤ q → (fun q : Nat => s.heap.size ≤ q) q := fun _ h => h
  have hbA : ¬ (fun q : Nat => s.heap.size ≤ q) bb := Nat.not_le.mpr hbl
  intro H locs ls hP hD hS hl
  have hi1 : vp_in (nI i + 1) L := kl_in (k := 1) (by omega) hi hL
  obtain ⟨q, hq⟩ : ∃ z : Int32, z = xs (nI i + 1).toNatClampNeg := ⟨_, rfl⟩
  refine lv_aload_n hx hb dL_law_658 rfl (lv_at hl 1 rfl) ?_
  refine lv_aload_n hx hb dL_law_659 rfl (lv_at hl 0 rfl) ?_
  refine lv_iload_n hx hb dL_law_660 rfl (lv_at hl 3 rfl) ?_
  refine lv_iconst (v := 1) hx hb dL_law_661 (by decide +kernel) ?_
  refine lv_iadd hx hb dL_law_662 ?_
  refine va_sld hx hb hX hbl hbA hS hi1 dL_law_663 ?_
  refine lv_topi (fun y ey => ?_)
  obtain rfl : q = y := hq.trans ey.symm
  refine kz_rdV (As := [.int q]) (rest := []) (b := x) ⟨hx, hb, hml, hown, hts⟩ (c_X3_nextCode l G x (sv 0) (ah 0) (h 0) (t 0) V a S q (kl_t I)) (cwV 1 hts gL_law_X3_nextCode rfl rfl rfl (by decide +kernel) ⟨Nat.le_of_ble_eq_true rfl, Nat.le_of_ble_eq_true rfl⟩) hK (hP.sub [0, 1] rfl) (kz_recv hK hP (ci := 3) (q0 := 0) rfl rfl) rfl hl.1 rfl (Nat.le_of_ble_eq_true rfl) dL_law_664 ⟨Nat.le_of_ble_eq_true rfl, Nat.le_of_ble_eq_true rfl⟩ ?_
  refine lv_aload_n hx hb dL_law_667 rfl (lv_at hl 2 rfl) ?_
  refine lv_aload_n hx hb dL_law_668 rfl (lv_at hl 0 rfl) ?_
  refine lv_iload_n hx hb dL_law_669 rfl (lv_at hl 3 rfl) ?_
  refine lv_iconst (v := 1) hx hb dL_law_670 (by decide +kernel) ?_
  refine lv_iadd hx hb dL_law_671 ?_
  refine va_sld hx hb hX hbl hbA hS hi1 dL_law_672 ?_
  refine lv_topi (fun y ey => ?_)
  obtain rfl : q = y := hq.trans ey.symm
  refine kz_rdV (As := [.int q]) (rest := [.int (X3_nextCode_r V S q)]) (b := o 0) ⟨hx, hb, hml, hown, hts⟩ (c_X4_nextCode l G o M q (kl_zt I)) (cwV 1 hts gL_law_X4_nextCode rfl rfl rfl (by decide +kernel) ⟨Nat.le_of_ble_eq_true rfl, Nat.le_of_ble_eq_true rfl⟩) hK (hP.sub [12] rfl) (kz_recv hK (hP.sub (cs := [mdW G o M]) [12] rfl) (ci := 4) (q0 := 0) rfl rfl) rfl hl.1 rfl (Nat.le_of_ble_eq_true rfl) dL_law_673 ⟨Nat.le_of_ble_eq_true rfl, Nat.le_of_ble_eq_true rfl⟩ ?_
  refine lv_icmp_eq (tgt := 861) hx hb dL_law_676 (by decide) (fun _ => ?_) (fun c9 => absurd (kl_p_nextCode I q) c9)
  exact (KK _ _ _ _ _ _ _ _ I) _ _ _ hP hD hS hl
set_option maxHeartbeats 1000000 in
set_option maxRecDepth 100000 in
theorem kl_c_feeIn (C0 : kl_C p s m c bb L xs G) (hi : i + 4 ≤ L) (hL : L ≤ 2048) (I : kl_I V S Sv Y R T M) (KK : kl_K p l e s m below meth c bb G x a sv ah h t o b i) : kl_at p l e s m below meth c bb G x a sv ah h t o b i 681 V S Sv Sa Y R T M := by
  obtain ⟨hx, hb, hml, hown, hts, hX, hbl, hK, hZ⟩ := C0
  have hA : ∀ q : Nat, s.heap.size ≤ q → (fun q : Nat => s.heap.size ≤ q) q := fun _ h => h
  have hbA : ¬ (fun q : Nat => s.heap.size ≤ q) bb := Nat.not_le.mpr hbl
  intro H locs ls hP hD hS hl
  have hi1 : vp_in (nI i + 1) L := kl_in (k := 1) (by omega) hi hL
  obtain ⟨q, hq⟩ : ∃ z : Int32, z = xs (nI i + 1).toNatClampNeg := ⟨_, rfl⟩
  have hi2 : vp_in (nI i + 2) L := kl_in (k := 2) (by omega) hi hL
  obtain ⟨v, hv⟩ : ∃ z : Int32, z = xs (nI i + 2).toNatClampNeg := ⟨_, rfl⟩
  refine lv_aload_n hx hb dL_law_681 rfl (lv_at hl 1 rfl) ?_
  refine lv_aload_n hx hb dL_law_682 rfl (lv_at hl 0 rfl) ?_
  refine lv_iload_n hx hb dL_law_683 rfl (lv_at hl 3 rfl) ?_
  refine lv_iconst (v := 1) hx hb dL_law_684 (by decide +kernel) ?_
  refine lv_iadd hx hb dL_law_685 ?_
  refine va_sld hx hb hX hbl hbA hS hi1 dL_law_686 ?_
  refine lv_topi (fun y ey => ?_)
  obtain rfl : q = y := hq.trans ey.symm
  refine lv_aload_n hx hb dL_law_687 rfl (lv_at hl 0 rfl) ?_
  refine lv_iload_n hx hb dL_law_688 rfl (lv_at hl 3 rfl) ?_
  refine lv_iconst (v := 2) hx hb dL_law_689 (by decide +kernel) ?_
  refine lv_iadd hx hb dL_law_690 ?_
  refine va_sld hx hb hX hbl hbA hS hi2 dL_law_691 ?_
  refine lv_topi (fun y ey => ?_)
  obtain rfl : v = y := hv.trans ey.symm
  refine kz_rdV (As := [.int q, .int v]) (rest := []) (b := x) ⟨hx, hb, hml, hown, hts⟩ (c_X3_feeIn l G x (sv 0) (ah 0) (h 0) (t 0) V a S q v) (cwV 2 hts gL_law_X3_feeIn rfl rfl rfl (by decide +kernel) ⟨Nat.le_of_ble_eq_true rfl, Nat.le_of_ble_eq_true rfl⟩) hK (hP.sub [0, 1] rfl) (kz_recv hK hP (ci := 3) (q0 := 0) rfl rfl) rfl hl.1 rfl (Nat.le_of_ble_eq_true rfl) dL_law_692 ⟨Nat.le_of_ble_eq_true rfl, Nat.le_of_ble_eq_true rfl⟩ ?_
  refine lv_aload_n hx hb dL_law_695 rfl (lv_at hl 2 rfl) ?_
  refine lv_aload_n hx hb dL_law_696 rfl (lv_at hl 0 rfl) ?_
  refine lv_iload_n hx hb dL_law_697 rfl (lv_at hl 3 rfl) ?_
  refine lv_iconst (v := 1) hx hb dL_law_698 (by decide +kernel) ?_
  refine lv_iadd hx hb dL_law_699 ?_
  refine va_sld hx hb hX hbl hbA hS hi1 dL_law_700 ?_
  refine lv_topi (fun y ey => ?_)
  obtain rfl : q = y := hq.trans ey.symm
  refine lv_aload_n hx hb dL_law_701 rfl (lv_at hl 0 rfl) ?_
  refine lv_iload_n hx hb dL_law_702 rfl (lv_at hl 3 rfl) ?_
  refine lv_iconst (v := 2) hx hb dL_law_703 (by decide +kernel) ?_
  refine lv_iadd hx hb dL_law_704 ?_
  refine va_sld hx hb hX hbl hbA hS hi2 dL_law_705 ?_
  refine lv_topi (fun y ey => ?_)
  obtain rfl : v = y := hv.trans ey.symm
  refine kz_rdV (As := [.int q, .int v]) (rest := [.int (X3_feeIn_r V S q v)]) (b := o 0) ⟨hx, hb, hml, hown, hts⟩ (c_X4_feeIn l G o M q v (kl_M I)) (cwV 2 hts gL_law_X4_feeIn rfl rfl rfl (by decide +kernel) ⟨Nat.le_of_ble_eq_true rfl, Nat.le_of_ble_eq_true rfl⟩) hK (hP.sub [12] rfl) (kz_recv hK (hP.sub (cs := [mdW G o M]) [12] rfl) (ci := 4) (q0 := 0) rfl rfl) rfl hl.1 rfl (Nat.le_of_ble_eq_true rfl) dL_law_706 ⟨Nat.le_of_ble_eq_true rfl, Nat.le_of_ble_eq_true rfl⟩ ?_
  refine lv_icmp_eq (tgt := 861) hx hb dL_law_709 (by decide) (fun _ => ?_) (fun c9 => absurd (kl_p_feeIn I q v) c9)
  exact (KK _ _ _ _ _ _ _ _ I) _ _ _ hP hD hS hl
end KL
