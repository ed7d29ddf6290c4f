/-! the law's start: the two objects, the machine's words -/
theorem bsS_at {k : Nat} {ad ad2 : Nat → Nat} {y : Nat} (he : ∀ q, y ≤ q → q < y + 16 * k → ad2 q = ad q) : bsS k ad2 y = bsS k ad y := by
  funext j
  unfold bsS
  split
  · rw [he (y + 16 * j) (by omega) (by omega)]
  · rfl
theorem C0.go {g : GE} {ad ad2 : Nat → Nat} {o : Nat} {u v : Nat → va_E} (h : C0 g ad o u) (he : ∀ q, o ≤ q → q < o + 183 → ad2 q = ad q) (hv : ∀ q, o ≤ q → q < o + 183 → v q = u q) : C0 g ad2 o v := by
  obtain ⟨h1, h2, h3, h4, h5, h6, h7, h8, h9, h10⟩ := h
  refine ⟨?_, h2.go (fun q a b => he q (by omega) (by omega)) (fun q a b => hv q (by omega) (by omega)), h3.go (fun q a b => he q (by omega) (by omega)) (fun q a b => hv q (by omega) (by omega)), h4.go (fun q a b => he q (by omega) (by omega)) (fun q a b => hv q (by omega) (by omega)), ?_, h6.go (fun q a b => he q (by omega) (by omega)) (fun q a b => hv q (by omega) (by omega)), h7.go (fun q a b => he q (by omega) (by omega)) (fun q a b => hv q (by omega) (by omega)), (hv _ (by omega) (by omega)).trans h8, ?_, (hv _ (by omega) (by omega)).trans h10⟩
  · rw [hv o (by omega) (by omega), h1, he (o + 1) (by omega) (by omega), he (o + 17) (by omega) (by omega), he (o + 33) (by omega) (by omega), he (o + 147) (by omega) (by omega), he (o + 180) (by omega) (by omega), he (o + 181) (by omega) (by omega)]
  · rw [hv _ (by omega) (by omega), h5, bsS_at fun q a b => he q (by omega) (by omega)]
  · rw [hv _ (by omega) (by omega), h9, he (o + 182) (by omega) (by omega)]
theorem MIs.away {g : GE} {ad : Nat → Nat} {f u v : Nat → va_E} {o : Nat} {S : ST} (h : MIs g ad f o S u) (k : ∀ q, o ≤ q → q < o + 7 → v q = u q) : MIs g ad v o S v := by
  obtain ⟨a, kp, hs, hl, so, sv, pd, pn, sp, od, wb, nb, rfl, hM⟩ := h
  exact ⟨a, kp, hs, hl, so, sv, pd, pn, sp, od, wb, nb, zM_self k, hM⟩
set_option maxHeartbeats 4000000 in
set_option maxRecDepth 100000 in
theorem law_from {E : EV} {g : GE} {ad : Nat → Nat} {f : Nat → va_E} {b L : Nat} {xs : Nat → Int32} (hX : LX E g b L xs) : V E g 0 ad 0 0 f 0 [some (.ref b), none, none, none] [] := by
  have hC := hX.1
  have h4 := hX.2.2.2.2.1
  refine V_new (ci := 4) (fs := [.null, .null, .null, .null, .null, .null]) hC tyX4 tyX4_ok dL_law_0 inlX4 (by decide +kernel) (by decide +kernel) (by decide +kernel) rfl (fun j hj => by rcases (show j = 0 ∨ j = 1 ∨ j = 2 ∨ j = 3 ∨ j = 4 ∨ j = 5 by omega) with rfl | rfl | rfl | rfl | rfl | rfl <;> rfl) (Nat.le_of_ble_eq_true rfl) (Nat.le_of_ble_eq_true rfl) (fun ad1 had1 => ?_)
  refine V_dup hC dL_law_3 rfl ?_
  refine V_ci (rest := [.ref (ad1 0)]) hC (c_X4_init g (eL E) (ad := ad1) (o := 0) (va_up_self _ _ _)) dL_law_4 gL_law_X4_init (by decide +kernel) (by decide +kernel) (by decide +kernel) rfl rfl rfl ⟨rfl, rfl⟩ (by decide +kernel) (by decide +kernel) (Nat.le_of_ble_eq_true rfl) ⟨Nat.le_of_ble_eq_true rfl, Nat.le_of_ble_eq_true rfl⟩ (fun N2 ad2 u2 had2 h2 => ?_)
  obtain ⟨rfl, b2, w2⟩ := h2
  rw [← had2 0 (by omega)]
  refine V_astore_n1 hC dL_law_7 rfl (by rw [h4]; decide) rfl ?_
  refine V_new (ci := 5) (fs := [.null, .null, .null, .int 0, .null, .null, .null, .int 0, .int 0, .int 0, .int 0, .int 0]) hC tyX5 tyX5_ok dL_law_8 inlX5 (by decide +kernel) (by decide +kernel) (by decide +kernel) rfl (fun j hj => by rcases (show j = 0 ∨ j = 1 ∨ j = 2 ∨ j = 3 ∨ j = 4 ∨ j = 5 ∨ j = 6 ∨ j = 7 ∨ j = 8 ∨ j = 9 ∨ j = 10 ∨ j = 11 by omega) with rfl | rfl | rfl | rfl | rfl | rfl | rfl | rfl | rfl | rfl | rfl | rfl <;> rfl) (Nat.le_of_ble_eq_true rfl) (Nat.le_of_ble_eq_true rfl) (fun ad3 had3 => ?_)
  rw [← had3 0 (by omega)]
  refine V_dup hC dL_law_11 rfl ?_
  refine V_ci (rest := [.ref (ad3 (0 + 183))]) hC (c_X5_init g (eL E) (ad := ad3) (o := 0 + 183) (va_up_self _ _ _)) dL_law_12 gL_law_X5_init (by decide +kernel) (by decide +kernel) (by decide +kernel) rfl rfl rfl ⟨rfl, rfl⟩ (by decide +kernel) (by decide +kernel) (Nat.le_of_ble_eq_true rfl) ⟨Nat.le_of_ble_eq_true rfl, Nat.le_of_ble_eq_true rfl⟩ (fun N4 ad4 u4 had4 h5 => ?_)
  obtain ⟨rfl, hM⟩ := h5
  rw [← had4 0 (by omega), ← had4 (0 + 183) (by omega)]
  refine V_astore_n2 hC dL_law_15 rfl (by rw [h4]; decide) rfl ?_
  refine V_iconst hC (nI 0) dL_law_16 (by decide) ?_
  refine V_istore_n3 hC dL_law_17 rfl (by rw [h4]; decide) rfl ?_
  have hc : C0 g ad4 0 u4 := b2.go (fun q a b => (had4 q (by omega)).trans (had3 q (by omega))) (fun q a b => by
    obtain ⟨x1, x2, x3, x4, x5, x6, x7, x8, x9, x10, x11, x12, e, -⟩ := hM
    rw [e, zM_out (by omega), va_up_ne _ _ (by omega)])
  refine V_C0 (o := 0) (by omega) hc fun v hv he => ?_
  exact law_loop hX L 0 100 S0 v (by omega) (by omega) (by omega) (by omega) goodS.zero ⟨hv, v, hM.away fun q a b => he q (by omega)⟩
