theorem inX0_L_isWell : ∀ w ∈ wsX00, w ∈ wsL_isWell := by decide +kernel
theorem inX1_L_isWell : ∀ w ∈ wsX10, w ∈ wsL_isWell := by decide +kernel
theorem inX2_L_isWell : ∀ w ∈ wsX20, w ∈ wsL_isWell := by decide +kernel
theorem inX3_L_isWell : ∀ w ∈ wsX30, w ∈ wsL_isWell := by decide +kernel
theorem inX4_L_isWell : ∀ w ∈ wsX40, w ∈ wsL_isWell := by decide +kernel
abbrev rmL_isWell : Room := { frames := 3, cells := 0, slots := 0, locals := 65 }
set_option maxHeartbeats 4000000 in
set_option maxRecDepth 100000 in
theorem c_L_isWell (g : GE) (lau : Launch) {N : Nat} {ad : Nat → Nat} {f : Nat → va_E} (hN : 366 ≤ N) {S T : ST} (hS : CAt g ad 0 S f) (hT : CAt g ad 183 T f) {K : Int} {i : Nat} (hW : LW K i S T) (hK2 : K ≤ 1000) (hi : i ≤ 100) : Ct g lau yL_isWell wsL_isWell rmL_isWell N ad [.ref (ad 0), .ref (ad 183)] f (pI N ad (fun x u => x = 1 ∧ u = f)) 0 0 := by
  refine Ct.of (maxL := 10) rfl (by decide +kernel) [some (.ref (ad 0)), some (.ref (ad 183)), none, none, none, none, none, none, none, none] (Nat.le_of_ble_eq_true rfl) (by simp [lvo, lv_args, Value.category]) (fun E hnl _ hC hR => ?_)
  have hM : goodM K S.1 := hW.1.1.1
  have e31 : T.1 = S.1 := hW.2.2.1
  obtain ⟨c, hc, hci⟩ := hW.2.2.2.2
  have hle := cnt_le hc
  have l8 : S.1.2.1.length < 2 ^ 31 := by omega
  have lr : S.1.2.2.1.length < 2 ^ 31 := by omega
  have lp : S.1.2.2.2.length < 2 ^ 31 := by omega
  have k2 : sCount 2 S = nI (c 10) := cn_c hc (k := 2) (by omega) (by omega)
  have k3 : sCount 3 S = nI (c 11) := cn_c hc (k := 3) (by omega) (by omega)
  have k4 : sCount 4 S = nI (c 12) := cn_c hc (k := 4) (by omega) (by omega)
  have k5 : sCount 5 S = nI (c 13) := cn_c hc (k := 5) (by omega) (by omega)
  have k6 : sCount 6 S = nI (c 14) := cn_c hc (k := 6) (by omega) (by omega)
  have k7 : sCount 7 S = nI (c 15) := cn_c hc (k := 7) (by omega) (by omega)
  have k8 : sCount 8 S = nI (c 16) := cn_c hc (k := 8) (by omega) (by omega)
  have k9 : sCount 9 S = nI (c 17) := cn_c hc (k := 9) (by omega) (by omega)
  have k1 := cn_1 S
  have k10 := cn_10 S
  have k11 := cn_11 S
  have k12 := cn_12 S
  have tR : ∀ (j k : Nat), k + j = S.1.2.2.1.length → ∀ (w2 w3 w8 w9 : Option Value) (a4 a6 : Int32), V E g N ad 0 0 f 471 [some (.ref (ad 0)), some (.ref (ad 183)), w2, w3, some (.int (a4)), some (.int (1)), some (.int (a6)), some (.int (nI k)), w8, w9] [] := by
    intro j
    induction j with
    | zero =>
      intro k hk w2 w3 w8 w9 a4 a6
      refine V_iload hC dL_isWell_471 rfl ?_
      refine V_aload_n hC dL_isWell_473 rfl rfl ?_
      refine V_bipush hC 11 dL_isWell_474 (by decide) ?_
      refine V_cvI (n := 1) hC (c_X4_count g (eL E) (o := 0) (by omega) hS (11)) dL_isWell_476 gL_isWell_X4_count rfl rfl rfl ⟨rfl, rfl⟩ (by decide +kernel) (by decide +kernel) (by omega) hS.1.1 rfl (Nat.le_of_ble_eq_true rfl) (by decide) (fun x476 u476 h476 => ?_)
      obtain ⟨rfl, rfl⟩ := h476
      rw [k11]
      refine V_icmp_ge_t hC 533 dL_isWell_479 (by decide) (nI_le (by omega) (by omega)) ?_
      refine V_iload hC dL_isWell_533 rfl ?_
      refine V_zret hC hR rfl dL_isWell_535 ⟨rfl, rfl, _, rfl, ?_⟩
      exact ⟨rfl, rfl⟩
    | succ j ih =>
      intro k hk w2 w3 w8 w9 a4 a6
      have hr := rp_ok hM (k := k) (by omega) lr
      refine V_iload hC dL_isWell_471 rfl ?_
      refine V_aload_n hC dL_isWell_473 rfl rfl ?_
      refine V_bipush hC 11 dL_isWell_474 (by decide) ?_
      refine V_cvI (n := 1) hC (c_X4_count g (eL E) (o := 0) (by omega) hS (11)) dL_isWell_476 gL_isWell_X4_count rfl rfl rfl ⟨rfl, rfl⟩ (by decide +kernel) (by decide +kernel) (by omega) hS.1.1 rfl (Nat.le_of_ble_eq_true rfl) (by decide) (fun x476 u476 h476 => ?_)
      obtain ⟨rfl, rfl⟩ := h476
      rw [k11]
      refine V_icmp_ge_f (tgt := 533) hC dL_isWell_479 (by decide) (nI_ge (by omega) (by omega)) ?_
      refine V_iload hC dL_isWell_482 rfl ?_
      refine V_if_eq_f (tgt := 524) hC dL_isWell_484 (by decide) (by decide) ?_
      refine V_aload_n hC dL_isWell_487 rfl rfl ?_
      refine V_iload hC dL_isWell_488 rfl ?_
      refine V_iconst hC 0 dL_isWell_490 (by decide) ?_
      refine V_cvI (n := 2) hC (c_X4_report g (eL E) (o := 0) (by omega) hS (nI k) (0)) dL_isWell_491 gL_isWell_X4_report rfl rfl rfl ⟨rfl, rfl⟩ (by decide +kernel) (by decide +kernel) (by omega) hS.1.1 rfl (Nat.le_of_ble_eq_true rfl) (by decide) (fun x491 u491 h491 => ?_)
      obtain ⟨rfl, rfl⟩ := h491
      refine V_iconst hC 1 dL_isWell_494 (by decide) ?_
      refine V_icmp_lt_f (tgt := 524) hC dL_isWell_495 (by decide) (Int32.not_lt.mpr hr.1) ?_
      refine V_aload_n hC dL_isWell_498 rfl rfl ?_
      refine V_iload hC dL_isWell_499 rfl ?_
      refine V_iconst hC 0 dL_isWell_501 (by decide) ?_
      refine V_cvI (n := 2) hC (c_X4_report g (eL E) (o := 0) (by omega) hS (nI k) (0)) dL_isWell_502 gL_isWell_X4_report rfl rfl rfl ⟨rfl, rfl⟩ (by decide +kernel) (by decide +kernel) (by omega) hS.1.1 rfl (Nat.le_of_ble_eq_true rfl) (by decide) (fun x502 u502 h502 => ?_)
      obtain ⟨rfl, rfl⟩ := h502
      refine V_bipush hC 6 dL_isWell_505 (by decide) ?_
      refine V_icmp_gt_f (tgt := 524) hC dL_isWell_507 (by decide) (Int32.not_lt.mpr hr.2.1) ?_
      refine V_aload_n hC dL_isWell_510 rfl rfl ?_
      refine V_iload hC dL_isWell_511 rfl ?_
      refine V_iconst hC 1 dL_isWell_513 (by decide) ?_
      refine V_cvI (n := 2) hC (c_X4_report g (eL E) (o := 0) (by omega) hS (nI k) (1)) dL_isWell_514 gL_isWell_X4_report rfl rfl rfl ⟨rfl, rfl⟩ (by decide +kernel) (by decide +kernel) (by omega) hS.1.1 rfl (Nat.le_of_ble_eq_true rfl) (by decide) (fun x514 u514 h514 => ?_)
      obtain ⟨rfl, rfl⟩ := h514
      refine V_if_lt_f (tgt := 524) hC dL_isWell_517 (by decide) (Int32.not_lt.mpr hr.2.2) ?_
      refine V_iconst hC 1 dL_isWell_520 (by decide) ?_
      refine V_goto hC 525 dL_isWell_521 (by decide) ?_
      refine V_istore5 hC dL_isWell_525 (by rw [hnl]; decide) rfl ?_
      refine V_iinc7 hC (nI (k + 1)) dL_isWell_527 (nI_1 k) (by rw [hnl]; decide) rfl ?_
      refine V_goto hC 471 dL_isWell_530 (by decide) ?_
      exact ih (k + 1) (by omega) _ _ _ _ _ _
  have tP : ∀ (j k : Nat), k + j = S.1.2.2.2.length → ∀ (w2 w3 w8 w9 : Option Value) (a4 a6 : Int32), V E g N ad 0 0 f 412 [some (.ref (ad 0)), some (.ref (ad 183)), w2, w3, some (.int (a4)), some (.int (1)), some (.int (a6)), some (.int (nI k)), w8, w9] [] := by
    intro j
    induction j with
    | zero =>
      intro k hk w2 w3 w8 w9 a4 a6
      refine V_iload hC dL_isWell_412 rfl ?_
      refine V_aload_n hC dL_isWell_414 rfl rfl ?_
      refine V_bipush hC 12 dL_isWell_415 (by decide) ?_
      refine V_cvI (n := 1) hC (c_X4_count g (eL E) (o := 0) (by omega) hS (12)) dL_isWell_417 gL_isWell_X4_count rfl rfl rfl ⟨rfl, rfl⟩ (by decide +kernel) (by decide +kernel) (by omega) hS.1.1 rfl (Nat.le_of_ble_eq_true rfl) (by decide) (fun x417 u417 h417 => ?_)
      obtain ⟨rfl, rfl⟩ := h417
      rw [k12]
      refine V_icmp_ge_t hC 468 dL_isWell_420 (by decide) (nI_le (by omega) (by omega)) ?_
      refine V_iconst hC 0 dL_isWell_468 (by decide) ?_
      refine V_istore7 hC dL_isWell_469 (by rw [hnl]; decide) rfl ?_
      exact tR S.1.2.2.1.length 0 (by omega) _ _ _ _ _ _
    | succ j ih =>
      intro k hk w2 w3 w8 w9 a4 a6
      have hr := pl_ok hM (k := k) (by omega) lp
      refine V_iload hC dL_isWell_412 rfl ?_
      refine V_aload_n hC dL_isWell_414 rfl rfl ?_
      refine V_bipush hC 12 dL_isWell_415 (by decide) ?_
      refine V_cvI (n := 1) hC (c_X4_count g (eL E) (o := 0) (by omega) hS (12)) dL_isWell_417 gL_isWell_X4_count rfl rfl rfl ⟨rfl, rfl⟩ (by decide +kernel) (by decide +kernel) (by omega) hS.1.1 rfl (Nat.le_of_ble_eq_true rfl) (by decide) (fun x417 u417 h417 => ?_)
      obtain ⟨rfl, rfl⟩ := h417
      rw [k12]
      refine V_icmp_ge_f (tgt := 468) hC dL_isWell_420 (by decide) (nI_ge (by omega) (by omega)) ?_
      refine V_iload hC dL_isWell_423 rfl ?_
      refine V_if_eq_f (tgt := 459) hC dL_isWell_425 (by decide) (by decide) ?_
      refine V_aload_n hC dL_isWell_428 rfl rfl ?_
      refine V_iload hC dL_isWell_429 rfl ?_
      refine V_cvI (n := 1) hC (c_X4_plan g (eL E) (o := 0) (by omega) hS (nI k)) dL_isWell_431 gL_isWell_X4_plan rfl rfl rfl ⟨rfl, rfl⟩ (by decide +kernel) (by decide +kernel) (by omega) hS.1.1 rfl (Nat.le_of_ble_eq_true rfl) (by decide) (fun x431 u431 h431 => ?_)
      obtain ⟨rfl, rfl⟩ := h431
      refine V_sipush hC 1000 dL_isWell_434 (by decide) ?_
      refine V_icmp_le_f (tgt := 459) hC dL_isWell_437 (by decide) (Int32.not_le.mpr hr) ?_
      refine V_aload_n hC dL_isWell_440 rfl rfl ?_
      refine V_iload hC dL_isWell_441 rfl ?_
      refine V_cvI (n := 1) hC (c_X4_plan g (eL E) (o := 0) (by omega) hS (nI k)) dL_isWell_443 gL_isWell_X4_plan rfl rfl rfl ⟨rfl, rfl⟩ (by decide +kernel) (by decide +kernel) (by omega) hS.1.1 rfl (Nat.le_of_ble_eq_true rfl) (by decide) (fun x443 u443 h443 => ?_)
      obtain ⟨rfl, rfl⟩ := h443
      refine V_aload_n hC dL_isWell_446 rfl rfl ?_
      refine V_iload hC dL_isWell_447 rfl ?_
      refine V_cvI (n := 1) hC (c_X4_plan g (eL E) (o := 183) (by omega) hT (nI k)) dL_isWell_449 gL_isWell_X4_plan rfl rfl rfl ⟨rfl, rfl⟩ (by decide +kernel) (by decide +kernel) (by omega) hT.1.1 rfl (Nat.le_of_ble_eq_true rfl) (by decide) (fun x449 u449 h449 => ?_)
      obtain ⟨rfl, rfl⟩ := h449
      refine V_icmp_ne_f (tgt := 459) hC dL_isWell_452 (by decide) (by rw [e31]) ?_
      refine V_iconst hC 1 dL_isWell_455 (by decide) ?_
      refine V_goto hC 460 dL_isWell_456 (by decide) ?_
      refine V_istore5 hC dL_isWell_460 (by rw [hnl]; decide) rfl ?_
      refine V_iinc7 hC (nI (k + 1)) dL_isWell_462 (nI_1 k) (by rw [hnl]; decide) rfl ?_
      refine V_goto hC 412 dL_isWell_465 (by decide) ?_
      exact ih (k + 1) (by omega) _ _ _ _ _ _
  have t324 : ∀ (w2 w8 w9 : Option Value) (a7 : Int32), V E g N ad 0 0 f 324 [some (.ref (ad 0)), some (.ref (ad 183)), w2, some (.int (nI (twicN S.1.2.1))), some (.int (nI (markN S.1.2.1))), some (.int (1)), some (.int (nI (unN S.1.2.1))), some (.int (a7)), w8, w9] [] := by
    intro w2 w8 w9 a7
    have hs := cn_sum hM hc
    obtain ⟨-, -, -, ⟨-, hb1, hb2⟩, -⟩ := id hc
    refine V_iload hC dL_isWell_324 rfl ?_
    refine V_if_eq_f (tgt := 406) hC dL_isWell_326 (by decide) (by decide) ?_
    refine V_aload_n hC dL_isWell_329 rfl rfl ?_
    refine V_iconst hC 2 dL_isWell_330 (by decide) ?_
    refine V_cvI (n := 1) hC (c_X4_count g (eL E) (o := 0) (by omega) hS (2)) dL_isWell_331 gL_isWell_X4_count rfl rfl rfl ⟨rfl, rfl⟩ (by decide +kernel) (by decide +kernel) (by omega) hS.1.1 rfl (Nat.le_of_ble_eq_true rfl) (by decide) (fun x331 u331 h331 => ?_)
    obtain ⟨rfl, rfl⟩ := h331
    rw [k2]
    refine V_iload hC dL_isWell_334 rfl ?_
    refine V_isub hC dL_isWell_336 ?_
    refine V_aload_n hC dL_isWell_337 rfl rfl ?_
    refine V_bipush hC 11 dL_isWell_338 (by decide) ?_
    refine V_cvI (n := 1) hC (c_X4_count g (eL E) (o := 0) (by omega) hS (11)) dL_isWell_340 gL_isWell_X4_count rfl rfl rfl ⟨rfl, rfl⟩ (by decide +kernel) (by decide +kernel) (by omega) hS.1.1 rfl (Nat.le_of_ble_eq_true rfl) (by decide) (fun x340 u340 h340 => ?_)
    obtain ⟨rfl, rfl⟩ := h340
    rw [k11]
    refine V_aload_n hC dL_isWell_343 rfl rfl ?_
    refine V_bipush hC 12 dL_isWell_344 (by decide) ?_
    refine V_cvI (n := 1) hC (c_X4_count g (eL E) (o := 0) (by omega) hS (12)) dL_isWell_346 gL_isWell_X4_count rfl rfl rfl ⟨rfl, rfl⟩ (by decide +kernel) (by decide +kernel) (by omega) hS.1.1 rfl (Nat.le_of_ble_eq_true rfl) (by decide) (fun x346 u346 h346 => ?_)
    obtain ⟨rfl, rfl⟩ := h346
    rw [k12]
    refine V_iadd hC dL_isWell_349 ?_
    refine V_aload_n hC dL_isWell_350 rfl rfl ?_
    refine V_bipush hC 6 dL_isWell_351 (by decide) ?_
    refine V_cvI (n := 1) hC (c_X4_count g (eL E) (o := 0) (by omega) hS (6)) dL_isWell_353 gL_isWell_X4_count rfl rfl rfl ⟨rfl, rfl⟩ (by decide +kernel) (by decide +kernel) (by omega) hS.1.1 rfl (Nat.le_of_ble_eq_true rfl) (by decide) (fun x353 u353 h353 => ?_)
    obtain ⟨rfl, rfl⟩ := h353
    rw [k6]
    refine V_iadd hC dL_isWell_356 ?_
    refine V_aload_n hC dL_isWell_357 rfl rfl ?_
    refine V_bipush hC 7 dL_isWell_358 (by decide) ?_
    refine V_cvI (n := 1) hC (c_X4_count g (eL E) (o := 0) (by omega) hS (7)) dL_isWell_360 gL_isWell_X4_count rfl rfl rfl ⟨rfl, rfl⟩ (by decide +kernel) (by decide +kernel) (by omega) hS.1.1 rfl (Nat.le_of_ble_eq_true rfl) (by decide) (fun x360 u360 h360 => ?_)
    obtain ⟨rfl, rfl⟩ := h360
    rw [k7]
    refine V_iadd hC dL_isWell_363 ?_
    refine V_aload_n hC dL_isWell_364 rfl rfl ?_
    refine V_bipush hC 9 dL_isWell_365 (by decide) ?_
    refine V_cvI (n := 1) hC (c_X4_count g (eL E) (o := 0) (by omega) hS (9)) dL_isWell_367 gL_isWell_X4_count rfl rfl rfl ⟨rfl, rfl⟩ (by decide +kernel) (by decide +kernel) (by omega) hS.1.1 rfl (Nat.le_of_ble_eq_true rfl) (by decide) (fun x367 u367 h367 => ?_)
    obtain ⟨rfl, rfl⟩ := h367
    rw [k9]
    refine V_iadd hC dL_isWell_370 ?_
    refine V_icmp_ne_f (tgt := 406) hC dL_isWell_371 (by decide) hs ?_
    refine V_iload_n hC dL_isWell_374 rfl rfl ?_
    refine V_aload_n hC dL_isWell_375 rfl rfl ?_
    refine V_bipush hC 8 dL_isWell_376 (by decide) ?_
    refine V_cvI (n := 1) hC (c_X4_count g (eL E) (o := 0) (by omega) hS (8)) dL_isWell_378 gL_isWell_X4_count rfl rfl rfl ⟨rfl, rfl⟩ (by decide +kernel) (by decide +kernel) (by omega) hS.1.1 rfl (Nat.le_of_ble_eq_true rfl) (by decide) (fun x378 u378 h378 => ?_)
    obtain ⟨rfl, rfl⟩ := h378
    rw [k8]
    refine V_icmp_gt_f (tgt := 406) hC dL_isWell_381 (by decide) (Int32.not_lt.mpr (nI_le hb1 (by omega))) ?_
    refine V_iload hC dL_isWell_384 rfl ?_
    refine V_aload_n hC dL_isWell_386 rfl rfl ?_
    refine V_bipush hC 8 dL_isWell_387 (by decide) ?_
    refine V_cvI (n := 1) hC (c_X4_count g (eL E) (o := 0) (by omega) hS (8)) dL_isWell_389 gL_isWell_X4_count rfl rfl rfl ⟨rfl, rfl⟩ (by decide +kernel) (by decide +kernel) (by omega) hS.1.1 rfl (Nat.le_of_ble_eq_true rfl) (by decide) (fun x389 u389 h389 => ?_)
    obtain ⟨rfl, rfl⟩ := h389
    rw [k8]
    refine V_iadd hC dL_isWell_392 ?_
    refine V_eqt (nI (markN S.1.2.1 + c 16)) (nI_add _ _) ?_
    refine V_aload_n hC dL_isWell_393 rfl rfl ?_
    refine V_bipush hC 6 dL_isWell_394 (by decide) ?_
    refine V_cvI (n := 1) hC (c_X4_count g (eL E) (o := 0) (by omega) hS (6)) dL_isWell_396 gL_isWell_X4_count rfl rfl rfl ⟨rfl, rfl⟩ (by decide +kernel) (by decide +kernel) (by omega) hS.1.1 rfl (Nat.le_of_ble_eq_true rfl) (by decide) (fun x396 u396 h396 => ?_)
    obtain ⟨rfl, rfl⟩ := h396
    rw [k6]
    refine V_icmp_gt_f (tgt := 406) hC dL_isWell_399 (by decide) (Int32.not_lt.mpr (nI_le hb2 (by omega))) ?_
    refine V_iconst hC 1 dL_isWell_402 (by decide) ?_
    refine V_goto hC 407 dL_isWell_403 (by decide) ?_
    refine V_istore5 hC dL_isWell_407 (by rw [hnl]; decide) rfl ?_
    refine V_iconst hC 0 dL_isWell_409 (by decide) ?_
    refine V_istore7 hC dL_isWell_410 (by rw [hnl]; decide) rfl ?_
    exact tP S.1.2.2.2.length 0 (by omega) _ _ _ _ _ _
  have tB : ∀ (r d : List (Nat → Int32)), S.1.2.1 = d ++ r → ∀ (w8 w9 : Option Value), V E g N ad 0 0 f 114 [some (.ref (ad 0)), some (.ref (ad 183)), some (.int (nI S.1.2.1.length)), some (.int (nI (twicN d))), some (.int (nI (markN d))), some (.int (1)), some (.int (nI (unN d))), some (.int (nI d.length)), w8, w9] [] := by
    intro r
    induction r with
    | nil =>
      intro d hd w8 w9
      rw [List.append_nil] at hd
      rw [← hd]
      refine V_iload hC dL_isWell_114 rfl ?_
      refine V_iload_n hC dL_isWell_116 rfl rfl ?_
      refine V_icmp_ge_t hC 324 dL_isWell_117 (by decide) (Int32.le_refl _) ?_
      exact t324 _ _ _ _
    | cons x r ih =>
      intro d hd w8 w9
      have hlen : d.length < S.1.2.1.length := by rw [hd]; simp
      have hx : x ∈ S.1.2.1 := by rw [hd]; simp
      have hl : d.length < 2 ^ 31 := by omega
      obtain ⟨x0, x1, x2, x3, x4, x5⟩ := bx_w hd hl
      obtain ⟨s2, s4, s43, s3, s1, s30⟩ := bx_s hM hc hx
      have s5 := bx_n hc (by omega) hx
      have t273 : V E g N ad 0 0 f 273 [some (.ref (ad 0)), some (.ref (ad 183)), some (.int (nI S.1.2.1.length)), some (.int (nI (twicN (d ++ [x])))), some (.int (nI (markN (d ++ [x])))), some (.int (1)), some (.int (nI (unN (d ++ [x])))), some (.int (nI d.length)), some (.int (x 0 + 1000)), some (.int (mkA x))] [] := by
        refine V_aload_n hC dL_isWell_273 rfl rfl ?_
        refine V_iload hC dL_isWell_274 rfl ?_
        refine V_iconst hC 5 dL_isWell_276 (by decide) ?_
        refine V_cvI (n := 2) hC (c_X4_box g (eL E) (o := 0) (by omega) hS (nI d.length) (5)) dL_isWell_277 gL_isWell_X4_box rfl rfl rfl ⟨rfl, rfl⟩ (by decide +kernel) (by decide +kernel) (by omega) hS.1.1 rfl (Nat.le_of_ble_eq_true rfl) (by decide) (fun x277 u277 h277 => ?_)
        obtain ⟨rfl, rfl⟩ := h277
        rw [x5]
        refine V_aload_n hC dL_isWell_280 rfl rfl ?_
        refine V_iconst hC 2 dL_isWell_281 (by decide) ?_
        refine V_cvI (n := 1) hC (c_X4_count g (eL E) (o := 0) (by omega) hS (2)) dL_isWell_282 gL_isWell_X4_count rfl rfl rfl ⟨rfl, rfl⟩ (by decide +kernel) (by decide +kernel) (by omega) hS.1.1 rfl (Nat.le_of_ble_eq_true rfl) (by decide) (fun x282 u282 h282 => ?_)
        obtain ⟨rfl, rfl⟩ := h282
        rw [k2]
        refine V_icmp_ge_f (tgt := 315) hC dL_isWell_285 (by decide) (Int32.not_le.mpr s5) ?_
        refine V_aload_n hC dL_isWell_288 rfl rfl ?_
        refine V_iload hC dL_isWell_289 rfl ?_
        refine V_iconst hC 1 dL_isWell_291 (by decide) ?_
        refine V_cvI (n := 2) hC (c_X4_box g (eL E) (o := 0) (by omega) hS (nI d.length) (1)) dL_isWell_292 gL_isWell_X4_box rfl rfl rfl ⟨rfl, rfl⟩ (by decide +kernel) (by decide +kernel) (by omega) hS.1.1 rfl (Nat.le_of_ble_eq_true rfl) (by decide) (fun x292 u292 h292 => ?_)
        obtain ⟨rfl, rfl⟩ := h292
        rw [x1]
        refine V_iconst hC 4 dL_isWell_295 (by decide) ?_
        refine V_icmp_lt_f (tgt := 315) hC dL_isWell_296 (by decide) (Int32.not_lt.mpr s1) ?_
        refine V_aload_n hC dL_isWell_299 rfl rfl ?_
        refine V_iload hC dL_isWell_300 rfl ?_
        refine V_iconst hC 1 dL_isWell_302 (by decide) ?_
        refine V_cvI (n := 2) hC (c_X4_box g (eL E) (o := 0) (by omega) hS (nI d.length) (1)) dL_isWell_303 gL_isWell_X4_box rfl rfl rfl ⟨rfl, rfl⟩ (by decide +kernel) (by decide +kernel) (by omega) hS.1.1 rfl (Nat.le_of_ble_eq_true rfl) (by decide) (fun x303 u303 h303 => ?_)
        obtain ⟨rfl, rfl⟩ := h303
        rw [x1]
        refine V_bipush hC 30 dL_isWell_306 (by decide) ?_
        refine V_icmp_gt_f (tgt := 315) hC dL_isWell_308 (by decide) (Int32.not_lt.mpr s30) ?_
        refine V_iconst hC 1 dL_isWell_311 (by decide) ?_
        refine V_goto hC 316 dL_isWell_312 (by decide) ?_
        refine V_istore5 hC dL_isWell_316 (by rw [hnl]; decide) rfl ?_
        refine V_iinc7 hC (nI (d ++ [x]).length) dL_isWell_318 len_s (by rw [hnl]; decide) rfl ?_
        refine V_goto hC 114 dL_isWell_321 (by decide) ?_
        exact ih (d ++ [x]) (by rw [hd]; simp) _ _
      have t256 : V E g N ad 0 0 f 256 [some (.ref (ad 0)), some (.ref (ad 183)), some (.int (nI S.1.2.1.length)), some (.int (nI (twicN (d ++ [x])))), some (.int (nI (markN (d ++ [x])))), some (.int (1)), some (.int (nI (unN (d ++ [x])))), some (.int (nI d.length)), some (.int (x 0 + 1000)), some (.int (mkA x))] [] := by
        refine V_aload_n hC dL_isWell_256 rfl rfl ?_
        refine V_iload hC dL_isWell_257 rfl ?_
        refine V_iconst hC 4 dL_isWell_259 (by decide) ?_
        refine V_cvI (n := 2) hC (c_X4_box g (eL E) (o := 0) (by omega) hS (nI d.length) (4)) dL_isWell_260 gL_isWell_X4_box rfl rfl rfl ⟨rfl, rfl⟩ (by decide +kernel) (by decide +kernel) (by omega) hS.1.1 rfl (Nat.le_of_ble_eq_true rfl) (by decide) (fun x260 u260 h260 => ?_)
        obtain ⟨rfl, rfl⟩ := h260
        rw [x4]
        refine V_if_eq hC 273 dL_isWell_263 (by decide) (fun c263 => ?_) (fun c263 => ?_)
        · exact t273
        · refine V_iload hC dL_isWell_266 rfl ?_
          refine V_bipush hC (-6) dL_isWell_268 (by decide) ?_
          refine V_icmp_eq_f (tgt := 315) hC dL_isWell_270 (by decide) (s43 c263) ?_
          exact t273
      have t208 : V E g N ad 0 0 f 208 [some (.ref (ad 0)), some (.ref (ad 183)), some (.int (nI S.1.2.1.length)), some (.int (nI (twicN (d ++ [x])))), some (.int (nI (markN (d ++ [x])))), some (.int (1)), some (.int (nI (unN (d ++ [x])))), some (.int (nI d.length)), some (.int (x 0 + 1000)), some (.int (mkA x))] [] := by
        refine V_iload hC dL_isWell_208 rfl ?_
        refine V_if_eq hC 256 dL_isWell_210 (by decide) (fun c210 => ?_) (fun c210 => ?_)
        · exact t256
        · obtain ⟨d2, y, hdy, hl2⟩ : ∃ d2 y, S.1.2.1 = d2 ++ y :: x :: r ∧ d2.length + 1 = d.length := by
            rcases List.eq_nil_or_concat d with e | ⟨d2, y, e⟩
            · exact absurd (by rw [e]; rfl) c210
            · exact ⟨d2, y, by rw [hd, e]; simp, by rw [e]; simp⟩
          obtain ⟨y0, y1, -, -, -, y5⟩ := bx_w hdy (by omega)
          obtain ⟨z1, z2⟩ := bx_2 (by omega) hM hc hdy
          have ek : nI d.length - 1 = nI d2.length := by rw [← hl2, nI_pred]
          refine V_aload_n hC dL_isWell_213 rfl rfl ?_
          refine V_iload hC dL_isWell_214 rfl ?_
          refine V_iconst hC 1 dL_isWell_216 (by decide) ?_
          refine V_isub hC dL_isWell_217 ?_
          refine V_eqt (nI d2.length) ek ?_
          refine V_iconst hC 0 dL_isWell_218 (by decide) ?_
          refine V_cvI (n := 2) hC (c_X4_box g (eL E) (o := 0) (by omega) hS (nI d2.length) (0)) dL_isWell_219 gL_isWell_X4_box rfl rfl rfl ⟨rfl, rfl⟩ (by decide +kernel) (by decide +kernel) (by omega) hS.1.1 rfl (Nat.le_of_ble_eq_true rfl) (by decide) (fun x219 u219 h219 => ?_)
          obtain ⟨rfl, rfl⟩ := h219
          rw [y0]
          refine V_aload_n hC dL_isWell_222 rfl rfl ?_
          refine V_iload hC dL_isWell_223 rfl ?_
          refine V_iconst hC 1 dL_isWell_225 (by decide) ?_
          refine V_isub hC dL_isWell_226 ?_
          refine V_eqt (nI d2.length) ek ?_
          refine V_iconst hC 1 dL_isWell_227 (by decide) ?_
          refine V_cvI (n := 2) hC (c_X4_box g (eL E) (o := 0) (by omega) hS (nI d2.length) (1)) dL_isWell_228 gL_isWell_X4_box rfl rfl rfl ⟨rfl, rfl⟩ (by decide +kernel) (by decide +kernel) (by omega) hS.1.1 rfl (Nat.le_of_ble_eq_true rfl) (by decide) (fun x228 u228 h228 => ?_)
          obtain ⟨rfl, rfl⟩ := h228
          rw [y1]
          refine V_isub hC dL_isWell_231 ?_
          refine V_iload hC dL_isWell_232 rfl ?_
          refine V_icmp_le_f (tgt := 315) hC dL_isWell_234 (by decide) (Int32.not_le.mpr z1) ?_
          refine V_aload_n hC dL_isWell_237 rfl rfl ?_
          refine V_iload hC dL_isWell_238 rfl ?_
          refine V_iconst hC 5 dL_isWell_240 (by decide) ?_
          refine V_cvI (n := 2) hC (c_X4_box g (eL E) (o := 0) (by omega) hS (nI d.length) (5)) dL_isWell_241 gL_isWell_X4_box rfl rfl rfl ⟨rfl, rfl⟩ (by decide +kernel) (by decide +kernel) (by omega) hS.1.1 rfl (Nat.le_of_ble_eq_true rfl) (by decide) (fun x241 u241 h241 => ?_)
          obtain ⟨rfl, rfl⟩ := h241
          rw [x5]
          refine V_aload_n hC dL_isWell_244 rfl rfl ?_
          refine V_iload hC dL_isWell_245 rfl ?_
          refine V_iconst hC 1 dL_isWell_247 (by decide) ?_
          refine V_isub hC dL_isWell_248 ?_
          refine V_eqt (nI d2.length) ek ?_
          refine V_iconst hC 5 dL_isWell_249 (by decide) ?_
          refine V_cvI (n := 2) hC (c_X4_box g (eL E) (o := 0) (by omega) hS (nI d2.length) (5)) dL_isWell_250 gL_isWell_X4_box rfl rfl rfl ⟨rfl, rfl⟩ (by decide +kernel) (by decide +kernel) (by omega) hS.1.1 rfl (Nat.le_of_ble_eq_true rfl) (by decide) (fun x250 u250 h250 => ?_)
          obtain ⟨rfl, rfl⟩ := h250
          rw [y5]
          refine V_icmp_le_f (tgt := 315) hC dL_isWell_253 (by decide) (Int32.not_le.mpr z2) ?_
          exact t256
      refine V_iload hC dL_isWell_114 rfl ?_
      refine V_iload_n hC dL_isWell_116 rfl rfl ?_
      refine V_icmp_ge_f (tgt := 324) hC dL_isWell_117 (by decide) (nI_ge hlen l8) ?_
      refine V_iload hC dL_isWell_120 rfl ?_
      refine V_if_eq_f (tgt := 324) hC dL_isWell_122 (by decide) (by decide) ?_
      refine V_aload_n hC dL_isWell_125 rfl rfl ?_
      refine V_iload hC dL_isWell_126 rfl ?_
      refine V_iconst hC 0 dL_isWell_128 (by decide) ?_
      refine V_cvI (n := 2) hC (c_X4_box g (eL E) (o := 0) (by omega) hS (nI d.length) (0)) dL_isWell_129 gL_isWell_X4_box rfl rfl rfl ⟨rfl, rfl⟩ (by decide +kernel) (by decide +kernel) (by omega) hS.1.1 rfl (Nat.le_of_ble_eq_true rfl) (by decide) (fun x129 u129 h129 => ?_)
      obtain ⟨rfl, rfl⟩ := h129
      rw [x0]
      refine V_istore8 hC dL_isWell_132 (by rw [hnl]; decide) rfl ?_
      refine V_aload_n hC dL_isWell_134 rfl rfl ?_
      refine V_iload hC dL_isWell_135 rfl ?_
      refine V_iconst hC 3 dL_isWell_137 (by decide) ?_
      refine V_cvI (n := 2) hC (c_X4_box g (eL E) (o := 0) (by omega) hS (nI d.length) (3)) dL_isWell_138 gL_isWell_X4_box rfl rfl rfl ⟨rfl, rfl⟩ (by decide +kernel) (by decide +kernel) (by omega) hS.1.1 rfl (Nat.le_of_ble_eq_true rfl) (by decide) (fun x138 u138 h138 => ?_)
      obtain ⟨rfl, rfl⟩ := h138
      rw [x3]
      refine V_istore9 hC dL_isWell_141 (by rw [hnl]; decide) rfl ?_
      refine V_iload_n hC dL_isWell_143 rfl rfl ?_
      refine V_aload_n hC dL_isWell_144 rfl rfl ?_
      refine V_iload hC dL_isWell_145 rfl ?_
      refine V_iconst hC 4 dL_isWell_147 (by decide) ?_
      refine V_cvI (n := 2) hC (c_X4_box g (eL E) (o := 0) (by omega) hS (nI d.length) (4)) dL_isWell_148 gL_isWell_X4_box rfl rfl rfl ⟨rfl, rfl⟩ (by decide +kernel) (by decide +kernel) (by omega) hS.1.1 rfl (Nat.le_of_ble_eq_true rfl) (by decide) (fun x148 u148 h148 => ?_)
      obtain ⟨rfl, rfl⟩ := h148
      rw [x4]
      refine V_iadd hC dL_isWell_151 ?_
      refine V_eqt (nI (twicN (d ++ [x]))) (tw_s s4) ?_
      refine V_istore_n3 hC dL_isWell_152 rfl (by rw [hnl]; decide) rfl ?_
      refine V_iload hC dL_isWell_153 rfl ?_
      refine V_iload hC dL_isWell_155 rfl ?_
      refine V_bipush hC (-6) dL_isWell_157 (by decide) ?_
      refine V_icmp_ne hC 166 dL_isWell_159 (by decide) (fun c159 => ?_) (fun c159 => ?_)
      · refine V_iconst hC 1 dL_isWell_166 (by decide) ?_
        refine V_iadd hC dL_isWell_167 ?_
        refine V_eqt (nI (markN (d ++ [x]))) (mk_1 (fun q => c159 (s3.mpr q))) ?_
        refine V_istore4 hC dL_isWell_168 (by rw [hnl]; decide) rfl ?_
        refine V_iload hC dL_isWell_170 rfl ?_
        refine V_iconst hC 1 dL_isWell_172 (by decide) ?_
        refine V_aload_n hC dL_isWell_173 rfl rfl ?_
        refine V_iload hC dL_isWell_174 rfl ?_
        refine V_iconst hC 2 dL_isWell_176 (by decide) ?_
        refine V_cvI (n := 2) hC (c_X4_box g (eL E) (o := 0) (by omega) hS (nI d.length) (2)) dL_isWell_177 gL_isWell_X4_box rfl rfl rfl ⟨rfl, rfl⟩ (by decide +kernel) (by decide +kernel) (by omega) hS.1.1 rfl (Nat.le_of_ble_eq_true rfl) (by decide) (fun x177 u177 h177 => ?_)
        obtain ⟨rfl, rfl⟩ := h177
        rw [x2]
        refine V_isub hC dL_isWell_180 ?_
        refine V_iadd hC dL_isWell_181 ?_
        refine V_eqt (nI (unN (d ++ [x]))) (un_s s2) ?_
        refine V_istore6 hC dL_isWell_182 (by rw [hnl]; decide) rfl ?_
        refine V_iload hC dL_isWell_184 rfl ?_
        refine V_aload_n hC dL_isWell_186 rfl rfl ?_
        refine V_iload hC dL_isWell_187 rfl ?_
        refine V_iconst hC 0 dL_isWell_189 (by decide) ?_
        refine V_cvI (n := 2) hC (c_X4_box g (eL E) (o := 183) (by omega) hT (nI d.length) (0)) dL_isWell_190 gL_isWell_X4_box rfl rfl rfl ⟨rfl, rfl⟩ (by decide +kernel) (by decide +kernel) (by omega) hT.1.1 rfl (Nat.le_of_ble_eq_true rfl) (by decide) (fun x190 u190 h190 => ?_)
        obtain ⟨rfl, rfl⟩ := h190
        rw [e31, x0]
        refine V_icmp_ne_f (tgt := 315) hC dL_isWell_193 (by decide) rfl ?_
        refine V_iload hC dL_isWell_196 rfl ?_
        refine V_aload_n hC dL_isWell_198 rfl rfl ?_
        refine V_iload hC dL_isWell_199 rfl ?_
        refine V_iconst hC 3 dL_isWell_201 (by decide) ?_
        refine V_cvI (n := 2) hC (c_X4_box g (eL E) (o := 183) (by omega) hT (nI d.length) (3)) dL_isWell_202 gL_isWell_X4_box rfl rfl rfl ⟨rfl, rfl⟩ (by decide +kernel) (by decide +kernel) (by omega) hT.1.1 rfl (Nat.le_of_ble_eq_true rfl) (by decide) (fun x202 u202 h202 => ?_)
        obtain ⟨rfl, rfl⟩ := h202
        rw [e31, x3]
        refine V_icmp_ne_f (tgt := 315) hC dL_isWell_205 (by decide) rfl ?_
        exact t208
      · refine V_iconst hC 0 dL_isWell_162 (by decide) ?_
        refine V_goto hC 167 dL_isWell_163 (by decide) ?_
        refine V_iadd hC dL_isWell_167 ?_
        refine V_eqt (nI (markN (d ++ [x]))) (mk_0 (s3.mp c159)) ?_
        refine V_istore4 hC dL_isWell_168 (by rw [hnl]; decide) rfl ?_
        refine V_iload hC dL_isWell_170 rfl ?_
        refine V_iconst hC 1 dL_isWell_172 (by decide) ?_
        refine V_aload_n hC dL_isWell_173 rfl rfl ?_
        refine V_iload hC dL_isWell_174 rfl ?_
        refine V_iconst hC 2 dL_isWell_176 (by decide) ?_
        refine V_cvI (n := 2) hC (c_X4_box g (eL E) (o := 0) (by omega) hS (nI d.length) (2)) dL_isWell_177 gL_isWell_X4_box rfl rfl rfl ⟨rfl, rfl⟩ (by decide +kernel) (by decide +kernel) (by omega) hS.1.1 rfl (Nat.le_of_ble_eq_true rfl) (by decide) (fun x177 u177 h177 => ?_)
        obtain ⟨rfl, rfl⟩ := h177
        rw [x2]
        refine V_isub hC dL_isWell_180 ?_
        refine V_iadd hC dL_isWell_181 ?_
        refine V_eqt (nI (unN (d ++ [x]))) (un_s s2) ?_
        refine V_istore6 hC dL_isWell_182 (by rw [hnl]; decide) rfl ?_
        refine V_iload hC dL_isWell_184 rfl ?_
        refine V_aload_n hC dL_isWell_186 rfl rfl ?_
        refine V_iload hC dL_isWell_187 rfl ?_
        refine V_iconst hC 0 dL_isWell_189 (by decide) ?_
        refine V_cvI (n := 2) hC (c_X4_box g (eL E) (o := 183) (by omega) hT (nI d.length) (0)) dL_isWell_190 gL_isWell_X4_box rfl rfl rfl ⟨rfl, rfl⟩ (by decide +kernel) (by decide +kernel) (by omega) hT.1.1 rfl (Nat.le_of_ble_eq_true rfl) (by decide) (fun x190 u190 h190 => ?_)
        obtain ⟨rfl, rfl⟩ := h190
        rw [e31, x0]
        refine V_icmp_ne_f (tgt := 315) hC dL_isWell_193 (by decide) rfl ?_
        refine V_iload hC dL_isWell_196 rfl ?_
        refine V_aload_n hC dL_isWell_198 rfl rfl ?_
        refine V_iload hC dL_isWell_199 rfl ?_
        refine V_iconst hC 3 dL_isWell_201 (by decide) ?_
        refine V_cvI (n := 2) hC (c_X4_box g (eL E) (o := 183) (by omega) hT (nI d.length) (3)) dL_isWell_202 gL_isWell_X4_box rfl rfl rfl ⟨rfl, rfl⟩ (by decide +kernel) (by decide +kernel) (by omega) hT.1.1 rfl (Nat.le_of_ble_eq_true rfl) (by decide) (fun x202 u202 h202 => ?_)
        obtain ⟨rfl, rfl⟩ := h202
        rw [e31, x3]
        refine V_icmp_ne_f (tgt := 315) hC dL_isWell_205 (by decide) rfl ?_
        exact t208
  have tA : ∀ (j k : Nat), k + j = 22 → ∀ (w7 w8 w9 : Option Value), V E g N ad 0 0 f 68 [some (.ref (ad 0)), some (.ref (ad 183)), some (.int (nI S.1.2.1.length)), some (.int (0)), some (.int (0)), some (.int (1)), some (.int (nI k)), w7, w8, w9] [] := by
    intro j
    induction j with
    | zero =>
      intro k hk w7 w8 w9
      have hk : k = 22 := by omega
      subst hk
      refine V_iload hC dL_isWell_68 rfl ?_
      refine V_bipush hC 22 dL_isWell_70 (by decide) ?_
      refine V_icmp_ge_t hC 108 dL_isWell_72 (by decide) (by decide) ?_
      refine V_iconst hC 0 dL_isWell_108 (by decide) ?_
      refine V_istore6 hC dL_isWell_109 (by rw [hnl]; decide) rfl ?_
      refine V_iconst hC 0 dL_isWell_111 (by decide) ?_
      refine V_istore7 hC dL_isWell_112 (by rw [hnl]; decide) rfl ?_
      exact tB S.1.2.1 [] rfl _ _
    | succ j ih =>
      intro k hk w7 w8 w9
      refine V_iload hC dL_isWell_68 rfl ?_
      refine V_bipush hC 22 dL_isWell_70 (by decide) ?_
      refine V_icmp_ge_f (tgt := 108) hC dL_isWell_72 (by decide) (nI_ge (a := k) (b := 22) (by omega) (by omega)) ?_
      refine V_iload hC dL_isWell_75 rfl ?_
      refine V_if_eq_f (tgt := 99) hC dL_isWell_77 (by decide) (by decide) ?_
      refine V_aload_n hC dL_isWell_80 rfl rfl ?_
      refine V_iload hC dL_isWell_81 rfl ?_
      refine V_cvI (n := 1) hC (c_X4_count g (eL E) (o := 0) (by omega) hS (nI k)) dL_isWell_83 gL_isWell_X4_count rfl rfl rfl ⟨rfl, rfl⟩ (by decide +kernel) (by decide +kernel) (by omega) hS.1.1 rfl (Nat.le_of_ble_eq_true rfl) (by decide) (fun x83 u83 h83 => ?_)
      obtain ⟨rfl, rfl⟩ := h83
      refine V_aload_n hC dL_isWell_86 rfl rfl ?_
      refine V_iload hC dL_isWell_87 rfl ?_
      refine V_cvI (n := 1) hC (c_X4_count g (eL E) (o := 183) (by omega) hT (nI k)) dL_isWell_89 gL_isWell_X4_count rfl rfl rfl ⟨rfl, rfl⟩ (by decide +kernel) (by decide +kernel) (by omega) hT.1.1 rfl (Nat.le_of_ble_eq_true rfl) (by decide) (fun x89 u89 h89 => ?_)
      obtain ⟨rfl, rfl⟩ := h89
      refine V_icmp_ne_f (tgt := 99) hC dL_isWell_92 (by decide) (cn_eq e31 (by omega)) ?_
      refine V_iconst hC 1 dL_isWell_95 (by decide) ?_
      refine V_goto hC 100 dL_isWell_96 (by decide) ?_
      refine V_istore5 hC dL_isWell_100 (by rw [hnl]; decide) rfl ?_
      refine V_iinc6 hC (nI (k + 1)) dL_isWell_102 (nI_1 k) (by rw [hnl]; decide) rfl ?_
      refine V_goto hC 68 dL_isWell_105 (by decide) ?_
      exact ih (k + 1) (by omega) _ _ _
  have h18 : 0 ≤ (S.1.1 18).toInt ∧ (S.1.1 18).toInt ≤ 60 := hM.2.2.2.2.2.1
  have a18 : ¬ S.1.1 18 < 0 := by rw [Int32.lt_iff_toInt_lt, show (0 : Int32).toInt = 0 from rfl]; omega
  have b18 : ¬ 60 < S.1.1 18 := by rw [Int32.lt_iff_toInt_lt, show (60 : Int32).toInt = 60 from rfl]; omega
  have hsum : nI (c 10) = nI S.1.2.1.length + nI (c 11) + nI (c 12) + nI (c 13) := by rw [nI_add, nI_add, nI_add, hc.2.1]
  refine V_aload_n hC dL_isWell_0 rfl rfl ?_
  refine V_iconst hC 1 dL_isWell_1 (by decide) ?_
  refine V_cvI (n := 1) hC (c_X4_count g (eL E) (o := 0) (by omega) hS (1)) dL_isWell_2 gL_isWell_X4_count rfl rfl rfl ⟨rfl, rfl⟩ (by decide +kernel) (by decide +kernel) (by omega) hS.1.1 rfl (Nat.le_of_ble_eq_true rfl) (by decide) (fun x2 u2 h2 => ?_)
  obtain ⟨rfl, rfl⟩ := h2
  rw [k1]
  refine V_istore_n2 hC dL_isWell_5 rfl (by rw [hnl]; decide) rfl ?_
  refine V_iconst hC 0 dL_isWell_6 (by decide) ?_
  refine V_istore_n3 hC dL_isWell_7 rfl (by rw [hnl]; decide) rfl ?_
  refine V_iconst hC 0 dL_isWell_8 (by decide) ?_
  refine V_istore4 hC dL_isWell_9 (by rw [hnl]; decide) rfl ?_
  refine V_aload_n hC dL_isWell_11 rfl rfl ?_
  refine V_iconst hC 2 dL_isWell_12 (by decide) ?_
  refine V_cvI (n := 1) hC (c_X4_count g (eL E) (o := 0) (by omega) hS (2)) dL_isWell_13 gL_isWell_X4_count rfl rfl rfl ⟨rfl, rfl⟩ (by decide +kernel) (by decide +kernel) (by omega) hS.1.1 rfl (Nat.le_of_ble_eq_true rfl) (by decide) (fun x13 u13 h13 => ?_)
  obtain ⟨rfl, rfl⟩ := h13
  rw [k2]
  refine V_iload_n hC dL_isWell_16 rfl rfl ?_
  refine V_aload_n hC dL_isWell_17 rfl rfl ?_
  refine V_iconst hC 3 dL_isWell_18 (by decide) ?_
  refine V_cvI (n := 1) hC (c_X4_count g (eL E) (o := 0) (by omega) hS (3)) dL_isWell_19 gL_isWell_X4_count rfl rfl rfl ⟨rfl, rfl⟩ (by decide +kernel) (by decide +kernel) (by omega) hS.1.1 rfl (Nat.le_of_ble_eq_true rfl) (by decide) (fun x19 u19 h19 => ?_)
  obtain ⟨rfl, rfl⟩ := h19
  rw [k3]
  refine V_iadd hC dL_isWell_22 ?_
  refine V_aload_n hC dL_isWell_23 rfl rfl ?_
  refine V_iconst hC 4 dL_isWell_24 (by decide) ?_
  refine V_cvI (n := 1) hC (c_X4_count g (eL E) (o := 0) (by omega) hS (4)) dL_isWell_25 gL_isWell_X4_count rfl rfl rfl ⟨rfl, rfl⟩ (by decide +kernel) (by decide +kernel) (by omega) hS.1.1 rfl (Nat.le_of_ble_eq_true rfl) (by decide) (fun x25 u25 h25 => ?_)
  obtain ⟨rfl, rfl⟩ := h25
  rw [k4]
  refine V_iadd hC dL_isWell_28 ?_
  refine V_aload_n hC dL_isWell_29 rfl rfl ?_
  refine V_iconst hC 5 dL_isWell_30 (by decide) ?_
  refine V_cvI (n := 1) hC (c_X4_count g (eL E) (o := 0) (by omega) hS (5)) dL_isWell_31 gL_isWell_X4_count rfl rfl rfl ⟨rfl, rfl⟩ (by decide +kernel) (by decide +kernel) (by omega) hS.1.1 rfl (Nat.le_of_ble_eq_true rfl) (by decide) (fun x31 u31 h31 => ?_)
  obtain ⟨rfl, rfl⟩ := h31
  rw [k5]
  refine V_iadd hC dL_isWell_34 ?_
  refine V_icmp_ne_f (tgt := 62) hC dL_isWell_35 (by decide) hsum ?_
  refine V_aload_n hC dL_isWell_38 rfl rfl ?_
  refine V_bipush hC 10 dL_isWell_39 (by decide) ?_
  refine V_cvI (n := 1) hC (c_X4_count g (eL E) (o := 0) (by omega) hS (10)) dL_isWell_41 gL_isWell_X4_count rfl rfl rfl ⟨rfl, rfl⟩ (by decide +kernel) (by decide +kernel) (by omega) hS.1.1 rfl (Nat.le_of_ble_eq_true rfl) (by decide) (fun x41 u41 h41 => ?_)
  obtain ⟨rfl, rfl⟩ := h41
  rw [k10]
  refine V_if_lt_f (tgt := 62) hC dL_isWell_44 (by decide) a18 ?_
  refine V_aload_n hC dL_isWell_47 rfl rfl ?_
  refine V_bipush hC 10 dL_isWell_48 (by decide) ?_
  refine V_cvI (n := 1) hC (c_X4_count g (eL E) (o := 0) (by omega) hS (10)) dL_isWell_50 gL_isWell_X4_count rfl rfl rfl ⟨rfl, rfl⟩ (by decide +kernel) (by decide +kernel) (by omega) hS.1.1 rfl (Nat.le_of_ble_eq_true rfl) (by decide) (fun x50 u50 h50 => ?_)
  obtain ⟨rfl, rfl⟩ := h50
  rw [k10]
  refine V_bipush hC 60 dL_isWell_53 (by decide) ?_
  refine V_icmp_gt_f (tgt := 62) hC dL_isWell_55 (by decide) b18 ?_
  refine V_iconst hC 1 dL_isWell_58 (by decide) ?_
  refine V_goto hC 63 dL_isWell_59 (by decide) ?_
  refine V_istore5 hC dL_isWell_63 (by rw [hnl]; decide) rfl ?_
  refine V_iconst hC 0 dL_isWell_65 (by decide) ?_
  refine V_istore6 hC dL_isWell_66 (by rw [hnl]; decide) rfl ?_
  exact tA 22 0 rfl _ _ _
