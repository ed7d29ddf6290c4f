def bsS (k : Nat) (ad : Nat → Nat) (y : Nat) : Nat → Option Nat := fun j => if j < k then some (ad (y + 16 * j)) else none
theorem bsS_0 {ad : Nat → Nat} {y : Nat} : bsS 0 ad y = fun _ => none := by
  funext j
  unfold bsS
  rw [if_neg (by omega)]
theorem bsS_s {ad : Nat → Nat} {y k : Nat} : va_up (bsS k ad y) k (some (ad (y + 16 * k))) = bsS (k + 1) ad y := by
  funext j
  unfold va_up bsS
  by_cases h : j = k
  · subst h
    rw [if_pos rfl, if_pos (by omega)]
  · rw [if_neg h]
    by_cases h2 : j < k
    · rw [if_pos h2, if_pos (by omega)]
    · rw [if_neg h2, if_neg (by omega)]
theorem bsS_ad {ad ad2 : Nat → Nat} {y k : Nat} (h : ∀ j, j < k → ad2 (y + 16 * j) = ad (y + 16 * j)) : bsS k ad2 y = bsS k ad y := by
  funext j
  unfold bsS
  split
  · rename_i hj
    rw [h j hj]
  · rfl
/-- a history at the start -/
def Y0 (g : GE) (ad : Nat → Nat) (y : Nat) (u : Nat → va_E) : Prop := u y = .inr (2, [.ref (ad (y + 1)), .int 0, .int 0]) ∧ u (y + 1) = .inl (g.2.1 3, 7, .inr (.inr (.inr (.inr (bsS 7 ad (y + 2)))))) ∧ ∀ k, k < 7 → B0 g ad (y + 2 + 16 * k) u
theorem Y0.go {g : GE} {ad ad2 : Nat → Nat} {y : Nat} {u v : Nat → va_E} (h : Y0 g ad y u) (he : ∀ q, y ≤ q → q < y + 114 → ad2 q = ad q) (hv : ∀ q, y ≤ q → q < y + 114 → v q = u q) : Y0 g ad2 y v := by
  obtain ⟨h1, h2, h3⟩ := h
  refine ⟨?_, ?_, fun k hk => (h3 k hk).go (fun q a b => he q (by omega) (by omega)) (fun q a b => hv q (by omega) (by omega))⟩
  · rw [hv _ (by omega) (by omega), h1, he _ (by omega) (by omega)]
  · rw [hv _ (by omega) (by omega), h2, bsS_ad (ad := ad) (ad2 := ad2) (fun j hj => he _ (by omega) (by omega))]
theorem inX0_X2_init : ∀ w ∈ wsX00, w ∈ wsX2_init := by decide +kernel
theorem inX1_X2_init : ∀ w ∈ wsX10, w ∈ wsX2_init := by decide +kernel
theorem inX2_X2_init : ∀ w ∈ wsX20, w ∈ wsX2_init := by decide +kernel
abbrev rmX2_init : Room := { frames := 3, cells := 113, slots := 1386, locals := 100 }
set_option maxHeartbeats 4000000 in
set_option maxRecDepth 100000 in
theorem c_X2_init (g : GE) (lau : Launch) {ad : Nat → Nat} {f : Nat → va_E} {y : Nat} (hf : f y = .inr (2, [.null, .int 0, .int 0])) : Ct g lau yX2_init wsX2_init rmX2_init (y + 1) ad [.ref (ad y)] f (pC (y + 1) ad (fun N2 ad2 u => N2 = y + 114 ∧ Y0 g ad2 y u ∧ ∀ q, q < y → u q = f q)) 113 1386 := by
  refine Ct.of (maxL := 2) rfl (by decide +kernel) [some (.ref (ad y)), none] (Nat.le_of_ble_eq_true rfl) (by simp [lvo, lv_args, Value.category]) (fun E hnl hin0 hC hR => ?_)
  have loop : ∀ (j k : Nat) (ad2 : Nat → Nat) (f2 : Nat → va_E), k + j = 7 → (∀ i, i < y + 1 → ad2 i = ad i) → f2 y = .inr (2, [.ref (ad2 (y + 1)), .int 0, .int 0]) → f2 (y + 1) = .inl (g.2.1 3, 7, .inr (.inr (.inr (.inr (bsS k ad2 (y + 2)))))) → (∀ j, j < k → B0 g ad2 (y + 2 + 16 * j) f2) → (∀ q, q < y → f2 q = f q) → V E g (y + 2 + 16 * k) ad2 (1 + 16 * k) (7 + 197 * k) f2 15 [some (.ref (ad2 y)), some (.int (nI k))] [] := by
    intro j
    induction j with
    | zero =>
      intro k ad2 f2 hk had h1 h2 h3 h4
      have hk : k = 7 := by omega
      subst hk
      refine V_iload_n hC dX2_init_15 rfl rfl ?_
      refine V_bipush hC 7 dX2_init_16 (by decide) ?_
      refine V_icmp_ge_t hC 40 dX2_init_18 (by decide) (by decide) ?_
      refine V_vret hC hR dX2_init_40 ?_
      exact ⟨rfl, had, rfl, ⟨h1, h2, h3⟩, h4⟩
    | succ j ih =>
      intro k ad2 f2 hk had h1 h2 h3 h4
      have hk7 : k < 7 := by omega
      refine V_iload_n hC dX2_init_15 rfl rfl ?_
      refine V_bipush hC 7 dX2_init_16 (by decide) ?_
      refine V_icmp_ge_f (tgt := 40) hC dX2_init_18 (by decide) (nI_ge (b := 7) (by omega) (by decide)) ?_
      refine V_aload_n hC dX2_init_21 rfl rfl ?_
      refine V_get hC 0 dX2_init_22 (by omega) h1 rfl (by decide) inX2_X2_init (by decide +kernel) rfl ?_
      refine V_iload_n hC dX2_init_25 rfl rfl ?_
      refine V_new (ci := 0) (fs := [.null, .null, .null, .int 0, .null, .null, .int 0, .null, .int 0, .null]) hC tyX0 tyX0_ok dX2_init_26 inX0_X2_init (by decide +kernel) (by decide +kernel) (by decide +kernel) rfl (fun j hj => by rcases (show j = 0 ∨ j = 1 ∨ j = 2 ∨ j = 3 ∨ j = 4 ∨ j = 5 ∨ j = 6 ∨ j = 7 ∨ j = 8 ∨ j = 9 by omega) with rfl | rfl | rfl | rfl | rfl | rfl | rfl | rfl | rfl | rfl <;> rfl) (by show 1 + 16 * k + 1 ≤ 113; omega) (by show 7 + 197 * k + 10 ≤ 1386; omega) (fun ad26 had26 => ?_)
      rw [← had26 (y) (by omega), ← had26 (y + 1) (by omega)]
      refine V_dup hC dX2_init_29 rfl ?_
      refine V_ci (rest := [.ref (ad26 (y + 2 + 16 * k)), .int (nI k), .ref (ad26 (y + 1))]) hC (c_X0_init g (eL E) (ad := ad26) (f := va_up f2 (y + 2 + 16 * k) (.inr (0, [.null, .null, .null, .int 0, .null, .null, .int 0, .null, .int 0, .null]))) (c := y + 2 + 16 * k) (va_up_self _ _ _)) dX2_init_30 gX2_init_X0_init (by decide +kernel) (by decide +kernel) (by decide +kernel) rfl rfl rfl ⟨rfl, rfl⟩ (by decide +kernel) (by decide +kernel) (Nat.le_of_ble_eq_true rfl) ⟨by show 1 + 16 * k + 1 + 15 ≤ 113; omega, by show 7 + 197 * k + 10 + 187 ≤ 1386; omega⟩ (fun N30 ad30 u30 had30 h30 => ?_)
      obtain ⟨rfl, h30b, h30o⟩ := h30
      have ho : ∀ q, q < y + 2 + 16 * k → u30 q = f2 q := fun q hq => (h30o q (by omega)).trans (va_up_ne _ _ (by omega))
      have ha : ∀ q, q < y + 2 + 16 * k → ad30 q = ad2 q := fun q hq => (had30 q (by omega)).trans (had26 q (by omega))
      have h2b : u30 (y + 1) = .inl (g.2.1 3, 7, .inr (.inr (.inr (.inr (bsS k ad30 (y + 2)))))) := by
        rw [ho _ (by omega), h2, bsS_ad (ad := ad2) (ad2 := ad30) (fun j hj => ha _ (by omega))]
      rw [← had30 y (by omega), ← had30 (y + 1) (by omega), ← had30 (y + 2 + 16 * k) (by omega)]
      refine V_aast (t0 := 3) (r := (RX0, TX0, 10)) hC dX2_init_33 (by omega) h2b rfl (by omega) h30b.1 rfl (ix_nI (j := k) hk7 (by decide)) ?_
      refine V_f (by rw [bsS_s]) ?_
      refine V_iinc1 hC (nI (k + 1)) dX2_init_34 (nI_1 k) (by rw [hnl]; decide) rfl ?_
      refine V_goto hC 15 dX2_init_37 (by decide) ?_
      rw [show y + 2 + 16 * k + 16 = y + 2 + 16 * (k + 1) by omega]
      refine V_widen (by omega) (by omega) (ih (k + 1) ad30 _ (by omega) (fun i hi => (ha i (by omega)).trans (had i hi)) ?_ (va_up_self _ _ _) (fun j hj => ?_) (fun q hq => (va_up_ne _ _ (by omega)).trans ((ho q (by omega)).trans (h4 q hq))))
      · rw [va_up_ne _ _ (by omega), ho _ (by omega), h1, ha _ (by omega)]
      · by_cases hjk : j = k
        · subst hjk
          exact h30b.go (fun q a b => rfl) (fun q a b => va_up_ne _ _ (by omega))
        · exact (h3 j (by omega)).go (fun q a b => ha q (by omega)) (fun q a b => (va_up_ne _ _ (by omega)).trans (ho q (by omega)))
  refine V_aload_n hC dX2_init_0 rfl rfl ?_
  refine V_objInit hC dX2_init_1 (by decide +kernel) (by decide +kernel) (by decide +kernel) (by decide) (Nat.le_of_ble_eq_true rfl) ?_
  refine V_aload_n hC dX2_init_4 rfl rfl ?_
  refine V_bipush hC 7 dX2_init_5 (by decide) ?_
  refine V_newq (t0 := 3) (n := 7) hC dX2_init_7 (by decide +kernel) rfl hC.2.2.2.2.2.2.2.2.1.2.2.2.1 (by decide) rfl (Nat.le_of_ble_eq_true rfl) (by decide) (Nat.le_of_ble_eq_true rfl) (fun ad7 had7 => ?_)
  rw [← had7 (y) (by omega)]
  refine V_putF hC hin0 0 dX2_init_10 (by omega) ((va_up_ne _ _ (by omega)).trans hf) rfl (by decide) inX2_X2_init (by decide +kernel) tyX2_ok nmX2 rfl rfl rfl rfl rfl (by simp) ?_
  refine V_iconst hC 0 dX2_init_13 (by decide) ?_
  refine V_istore_n1 hC dX2_init_14 rfl (by rw [hnl]; decide) rfl ?_
  have q := loop 7 0 ad7 _ rfl had7 (va_up_self _ _ _) ((va_up_ne _ _ (by omega)).trans (by rw [bsS_0]; exact va_up_self _ _ _)) (fun j hj => absurd hj (by omega)) (fun q hq => (va_up_ne _ _ (by omega)).trans (va_up_ne _ _ (by omega)))
  exact q
