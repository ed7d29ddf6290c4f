theorem V_gen {E : EV} {g : GE} {N : Nat} {ad : Nat → Nat} {ce sl : Nat} {f : Nat → va_E} {pc : Nat} {lo : List (Option Value)} {st : List Value} (kk : ∀ v, v = f → V E g N ad ce sl v pc lo st) : V E g N ad ce sl f pc lo st := kk f rfl
/-- the class's object at the start, with all that it has -/
def C0 (g : GE) (ad : Nat → Nat) (o : Nat) (u : Nat → va_E) : Prop := u o = .inr (4, [.ref (ad (o + 1)), .ref (ad (o + 17)), .ref (ad (o + 33)), .ref (ad (o + 147)), .ref (ad (o + 180)), .ref (ad (o + 181))]) ∧ B0 g ad (o + 1) u ∧ B0 g ad (o + 17) u ∧ Y0 g ad (o + 33) u ∧ u (o + 147) = .inl (g.2.1 3, 2, .inr (.inr (.inr (.inr (bsS 2 ad (o + 148)))))) ∧ B0 g ad (o + 148) u ∧ B0 g ad (o + 164) u ∧ u (o + 180) = .inl (g.2.1 2, 2, .inl (fun _ => 0)) ∧ u (o + 181) = .inr (3, [.ref (ad (o + 182)), .int 0]) ∧ u (o + 182) = .inl (g.2.1 1, 60, .inl (fun _ => 0))
theorem inX0_X4_init : ∀ w ∈ wsX00, w ∈ wsX4_init := by decide +kernel
theorem inX1_X4_init : ∀ w ∈ wsX10, w ∈ wsX4_init := by decide +kernel
theorem inX2_X4_init : ∀ w ∈ wsX20, w ∈ wsX4_init := by decide +kernel
theorem inX3_X4_init : ∀ w ∈ wsX30, w ∈ wsX4_init := by decide +kernel
theorem inX4_X4_init : ∀ w ∈ wsX40, w ∈ wsX4_init := by decide +kernel
abbrev rmX4_init : Room := { frames := 4, cells := 182, slots := 2243, locals := 160 }
set_option maxHeartbeats 4000000 in
set_option maxRecDepth 100000 in
theorem c_X4_init (g : GE) (lau : Launch) {ad : Nat → Nat} {f : Nat → va_E} {o : Nat} (hf : f o = .inr (4, [.null, .null, .null, .null, .null, .null])) : Ct g lau yX4_init wsX4_init rmX4_init (o + 1) ad [.ref (ad o)] f (pC (o + 1) ad (fun N2 ad2 u => N2 = o + 183 ∧ C0 g ad2 o u ∧ ∀ q, q < o → u q = f q)) 182 2243 := by
  refine Ct.of (maxL := 1) rfl (by decide +kernel) [some (.ref (ad o))] (Nat.le_of_ble_eq_true rfl) (by simp [lvo, lv_args, Value.category]) (fun E hnl hin0 hC hR => ?_)
  refine V_aload_n hC dX4_init_0 rfl rfl ?_
  refine V_objInit hC dX4_init_1 (by decide +kernel) (by decide +kernel) (by decide +kernel) (by decide) (Nat.le_of_ble_eq_true rfl) ?_
  refine V_aload_n hC dX4_init_4 rfl rfl ?_
  refine V_new (ci := 0) (fs := [.null, .null, .null, .int 0, .null, .null, .int 0, .null, .int 0, .null]) hC tyX0 tyX0_ok dX4_init_5 inX0_X4_init (by decide +kernel) (by decide +kernel) (by decide +kernel) rfl (fun j hj => by rcases (show j = 0 ∨ j = 1 ∨ j = 2 ∨ j = 3 ∨ j = 4 ∨ j = 5 ∨ j = 6 ∨ j = 7 ∨ j = 8 ∨ j = 9 by omega) with rfl | rfl | rfl | rfl | rfl | rfl | rfl | rfl | rfl | rfl <;> rfl) (Nat.le_of_ble_eq_true rfl) (Nat.le_of_ble_eq_true rfl) (fun ad5 had5 => ?_)
  rw [← had5 (o) (by omega)]
  refine V_dup hC dX4_init_8 rfl ?_
  refine V_ci (rest := [.ref (ad5 (o + 1)), .ref (ad5 (o))]) hC (c_X0_init g (eL E) (ad := ad5) (c := o + 1) (va_up_self _ _ _)) dX4_init_9 gX4_init_X0_init (by decide +kernel) (by decide +kernel) (by decide +kernel) rfl rfl rfl ⟨rfl, rfl⟩ (by decide +kernel) (by decide +kernel) (Nat.le_of_ble_eq_true rfl) ⟨Nat.le_of_ble_eq_true rfl, Nat.le_of_ble_eq_true rfl⟩ (fun N9 ad9 u9 had9 h9 => ?_)
  obtain ⟨rfl, b9, w9⟩ := h9
  have hO9 := (w9 o (by omega)).trans ((va_up_ne _ _ (by omega)).trans hf)
  rw [← had9 (o) (by omega), ← had9 (o + 1) (by omega)]
  refine V_putF hC hin0 0 dX4_init_12 (by omega) hO9 rfl (by decide) inX4_X4_init (by decide +kernel) tyX4_ok nmX4 rfl rfl rfl rfl rfl (by simp) ?_
  refine V_aload_n hC dX4_init_15 rfl rfl ?_
  refine V_new (ci := 0) (fs := [.null, .null, .null, .int 0, .null, .null, .int 0, .null, .int 0, .null]) hC tyX0 tyX0_ok dX4_init_16 inX0_X4_init (by decide +kernel) (by decide +kernel) (by decide +kernel) rfl (fun j hj => by rcases (show j = 0 ∨ j = 1 ∨ j = 2 ∨ j = 3 ∨ j = 4 ∨ j = 5 ∨ j = 6 ∨ j = 7 ∨ j = 8 ∨ j = 9 by omega) with rfl | rfl | rfl | rfl | rfl | rfl | rfl | rfl | rfl | rfl <;> rfl) (Nat.le_of_ble_eq_true rfl) (Nat.le_of_ble_eq_true rfl) (fun ad16 had16 => ?_)
  rw [← had16 (o) (by omega), ← had16 (o + 1) (by omega)]
  refine V_dup hC dX4_init_19 rfl ?_
  refine V_ci (rest := [.ref (ad16 (o + 1 + 16)), .ref (ad16 (o))]) hC (c_X0_init g (eL E) (ad := ad16) (c := o + 1 + 16) (va_up_self _ _ _)) dX4_init_20 gX4_init_X0_init (by decide +kernel) (by decide +kernel) (by decide +kernel) rfl rfl rfl ⟨rfl, rfl⟩ (by decide +kernel) (by decide +kernel) (Nat.le_of_ble_eq_true rfl) ⟨Nat.le_of_ble_eq_true rfl, Nat.le_of_ble_eq_true rfl⟩ (fun N20 ad20 u20 had20 h20 => ?_)
  obtain ⟨rfl, b20, w20⟩ := h20
  have hO20 : u20 o = .inr (4, [.ref (ad20 (o + 1)), .null, .null, .null, .null, .null]) := by
    rw [w20 o (by omega), va_up_ne _ _ (by omega), va_up_self, had20 (o + 1) (by omega)]
    rfl
  rw [← had20 (o) (by omega), ← had20 (o + 1 + 16) (by omega)]
  refine V_putF hC hin0 1 dX4_init_23 (by omega) hO20 rfl (by decide) inX4_X4_init (by decide +kernel) tyX4_ok nmX4 rfl rfl rfl rfl rfl (by simp) ?_
  refine V_aload_n hC dX4_init_26 rfl rfl ?_
  refine V_new (ci := 2) (fs := [.null, .int 0, .int 0]) hC tyX2 tyX2_ok dX4_init_27 inX2_X4_init (by decide +kernel) (by decide +kernel) (by decide +kernel) rfl (fun j hj => by rcases (show j = 0 ∨ j = 1 ∨ j = 2 by omega) with rfl | rfl | rfl <;> rfl) (Nat.le_of_ble_eq_true rfl) (Nat.le_of_ble_eq_true rfl) (fun ad27 had27 => ?_)
  rw [← had27 (o) (by omega), ← had27 (o + 1) (by omega), ← had27 (o + 1 + 16) (by omega)]
  refine V_dup hC dX4_init_30 rfl ?_
  refine V_ci (rest := [.ref (ad27 (o + 1 + 16 + 16)), .ref (ad27 (o))]) hC (c_X2_init g (eL E) (ad := ad27) (y := o + 1 + 16 + 16) (va_up_self _ _ _)) dX4_init_31 gX4_init_X2_init (by decide +kernel) (by decide +kernel) (by decide +kernel) rfl rfl rfl ⟨rfl, rfl⟩ (by decide +kernel) (by decide +kernel) (Nat.le_of_ble_eq_true rfl) ⟨Nat.le_of_ble_eq_true rfl, Nat.le_of_ble_eq_true rfl⟩ (fun N31 ad31 u31 had31 h31 => ?_)
  obtain ⟨rfl, b31, w31⟩ := h31
  have hO31 : u31 o = .inr (4, [.ref (ad31 (o + 1)), .ref (ad31 (o + 1 + 16)), .null, .null, .null, .null]) := by
    rw [w31 o (by omega), va_up_ne _ _ (by omega), va_up_self, had31 (o + 1) (by omega), had31 (o + 1 + 16) (by omega)]
    rfl
  rw [← had31 (o) (by omega), ← had31 (o + 1 + 16 + 16) (by omega)]
  refine V_putF hC hin0 2 dX4_init_34 (by omega) hO31 rfl (by decide) inX4_X4_init (by decide +kernel) tyX4_ok nmX4 rfl rfl rfl rfl rfl (by simp) ?_
  refine V_aload_n hC dX4_init_37 rfl rfl ?_
  refine V_iconst hC 2 dX4_init_38 (by decide) ?_
  refine V_newq (t0 := 3) (n := 2) hC dX4_init_39 (by decide +kernel) rfl hC.2.2.2.2.2.2.2.2.1.2.2.2.1 (by decide) rfl (Nat.le_of_ble_eq_true rfl) (Nat.le_of_ble_eq_true rfl) (Nat.le_of_ble_eq_true rfl) (fun ad39 had39 => ?_)
  rw [← had39 (o) (by omega), ← had39 (o + 1) (by omega), ← had39 (o + 1 + 16) (by omega), ← had39 (o + 1 + 16 + 16) (by omega)]
  refine V_dup hC dX4_init_42 rfl ?_
  refine V_iconst hC 0 dX4_init_43 (by decide) ?_
  refine V_new (ci := 0) (fs := [.null, .null, .null, .int 0, .null, .null, .int 0, .null, .int 0, .null]) hC tyX0 tyX0_ok dX4_init_44 inX0_X4_init (by decide +kernel) (by decide +kernel) (by decide +kernel) rfl (fun j hj => by rcases (show j = 0 ∨ j = 1 ∨ j = 2 ∨ j = 3 ∨ j = 4 ∨ j = 5 ∨ j = 6 ∨ j = 7 ∨ j = 8 ∨ j = 9 by omega) with rfl | rfl | rfl | rfl | rfl | rfl | rfl | rfl | rfl | rfl <;> rfl) (Nat.le_of_ble_eq_true rfl) (Nat.le_of_ble_eq_true rfl) (fun ad44 had44 => ?_)
  rw [← had44 (o) (by omega), ← had44 (o + 1) (by omega), ← had44 (o + 1 + 16) (by omega), ← had44 (o + 1 + 16 + 16) (by omega), ← had44 (o + 1 + 16 + 16 + 114) (by omega)]
  refine V_dup hC dX4_init_47 rfl ?_
  refine V_ci (rest := [.ref (ad44 (o + 1 + 16 + 16 + 114 + 1)), .int 0, .ref (ad44 (o + 1 + 16 + 16 + 114)), .ref (ad44 (o + 1 + 16 + 16 + 114)), .ref (ad44 (o))]) hC (c_X0_init g (eL E) (ad := ad44) (c := o + 1 + 16 + 16 + 114 + 1) (va_up_self _ _ _)) dX4_init_48 gX4_init_X0_init (by decide +kernel) (by decide +kernel) (by decide +kernel) rfl rfl rfl ⟨rfl, rfl⟩ (by decide +kernel) (by decide +kernel) (Nat.le_of_ble_eq_true rfl) ⟨Nat.le_of_ble_eq_true rfl, Nat.le_of_ble_eq_true rfl⟩ (fun N48 ad48 u48 had48 h48 => ?_)
  obtain ⟨rfl, b48, w48⟩ := h48
  have hO48 : u48 o = .inr (4, [.ref (ad48 (o + 1)), .ref (ad48 (o + 1 + 16)), .ref (ad48 (o + 1 + 16 + 16)), .null, .null, .null]) := by
    rw [w48 o (by omega), va_up_ne _ _ (by omega), va_up_ne _ _ (by omega), va_up_self, had48 (o + 1) (by omega), had48 (o + 1 + 16) (by omega), had48 (o + 1 + 16 + 16) (by omega)]
    rfl
  have hS48 : u48 (o + 1 + 16 + 16 + 114) = .inl (g.2.1 3, 2, .inr (.inr (.inr (.inr (fun _ => none))))) := by rw [w48 _ (by omega), va_up_ne _ _ (by omega), va_up_self]
  rw [← had48 (o) (by omega), ← had48 (o + 1 + 16 + 16 + 114) (by omega), ← had48 (o + 1 + 16 + 16 + 114 + 1) (by omega)]
  refine V_aast (t0 := 3) (r := (RX0, TX0, 10)) hC dX4_init_51 (by omega) hS48 rfl (by omega) b48.1 rfl (ix_c (k := 0) (by decide)) ?_
  refine V_dup hC dX4_init_52 rfl ?_
  refine V_iconst hC 1 dX4_init_53 (by decide) ?_
  refine V_new (ci := 0) (fs := [.null, .null, .null, .int 0, .null, .null, .int 0, .null, .int 0, .null]) hC tyX0 tyX0_ok dX4_init_54 inX0_X4_init (by decide +kernel) (by decide +kernel) (by decide +kernel) rfl (fun j hj => by rcases (show j = 0 ∨ j = 1 ∨ j = 2 ∨ j = 3 ∨ j = 4 ∨ j = 5 ∨ j = 6 ∨ j = 7 ∨ j = 8 ∨ j = 9 by omega) with rfl | rfl | rfl | rfl | rfl | rfl | rfl | rfl | rfl | rfl <;> rfl) (Nat.le_of_ble_eq_true rfl) (Nat.le_of_ble_eq_true rfl) (fun ad54 had54 => ?_)
  rw [← had54 (o) (by omega), ← had54 (o + 1 + 16 + 16 + 114) (by omega), ← had54 (o + 1 + 16 + 16 + 114 + 1) (by omega)]
  refine V_dup hC dX4_init_57 rfl ?_
  refine V_ci (rest := [.ref (ad54 (o + 1 + 16 + 16 + 114 + 1 + 16)), .int 1, .ref (ad54 (o + 1 + 16 + 16 + 114)), .ref (ad54 (o + 1 + 16 + 16 + 114)), .ref (ad54 (o))]) hC (c_X0_init g (eL E) (ad := ad54) (c := o + 1 + 16 + 16 + 114 + 1 + 16) (va_up_self _ _ _)) dX4_init_58 gX4_init_X0_init (by decide +kernel) (by decide +kernel) (by decide +kernel) rfl rfl rfl ⟨rfl, rfl⟩ (by decide +kernel) (by decide +kernel) (Nat.le_of_ble_eq_true rfl) ⟨Nat.le_of_ble_eq_true rfl, Nat.le_of_ble_eq_true rfl⟩ (fun N58 ad58 u58 had58 h58 => ?_)
  obtain ⟨rfl, b58, w58⟩ := h58
  have hO58 : u58 o = .inr (4, [.ref (ad58 (o + 1)), .ref (ad58 (o + 1 + 16)), .ref (ad58 (o + 1 + 16 + 16)), .null, .null, .null]) := by rw [w58 o (by omega), va_up_ne _ _ (by omega), va_up_ne _ _ (by omega), hO48, had58 (o + 1) (by omega), had54 (o + 1) (by omega), had58 (o + 1 + 16) (by omega), had54 (o + 1 + 16) (by omega), had58 (o + 1 + 16 + 16) (by omega), had54 (o + 1 + 16 + 16) (by omega)]
  have hS58 : u58 (o + 1 + 16 + 16 + 114) = .inl (g.2.1 3, 2, .inr (.inr (.inr (.inr (va_up (fun _ => none) 0 (some (ad58 (o + 1 + 16 + 16 + 114 + 1)))))))) := by rw [w58 _ (by omega), va_up_ne _ _ (by omega), va_up_self, had58 (o + 1 + 16 + 16 + 114 + 1) (by omega)]
  rw [← had58 (o) (by omega), ← had58 (o + 1 + 16 + 16 + 114) (by omega), ← had58 (o + 1 + 16 + 16 + 114 + 1 + 16) (by omega)]
  refine V_aast (t0 := 3) (r := (RX0, TX0, 10)) hC dX4_init_61 (by omega) hS58 rfl (by omega) b58.1 rfl (ix_c (k := 1) (by decide)) ?_
  refine V_putF hC hin0 3 dX4_init_62 (by omega) ((va_up_ne _ _ (by omega)).trans hO58) rfl (by decide) inX4_X4_init (by decide +kernel) tyX4_ok nmX4 rfl rfl rfl rfl rfl (by simp) ?_
  refine V_aload_n hC dX4_init_65 rfl rfl ?_
  refine V_aload_n hC dX4_init_66 rfl rfl ?_
  refine V_get hC 3 dX4_init_67 (by omega) (va_up_self _ _ _) rfl (by decide) inX4_X4_init (by decide +kernel) rfl ?_
  refine V_alen (t0 := 3) (ty := .object RX0) hC 2 dX4_init_70 (by omega) ((va_up_ne _ _ (by omega)).trans (va_up_self _ _ _)) rfl rfl ?_
  refine V_newa (t0 := 2) (atype := .boolean) (ty := .boolean) (a0 := (2, .inl (fun _ => 0))) hC dX4_init_71 rfl (by decide +kernel) rfl (fun _ => rfl) (by decide) rfl (Nat.le_of_ble_eq_true rfl) (Nat.le_of_ble_eq_true rfl) (Nat.le_of_ble_eq_true rfl) (fun ad71 had71 => ?_)
  rw [← had71 (o) (by omega), ← had71 (o + 1) (by omega), ← had71 (o + 1 + 16) (by omega), ← had71 (o + 1 + 16 + 16) (by omega), ← had71 (o + 1 + 16 + 16 + 114) (by omega), ← had71 (o + 1 + 16 + 16 + 114 + 1) (by omega), ← had71 (o + 1 + 16 + 16 + 114 + 1 + 16) (by omega)]
  refine V_putF hC hin0 4 dX4_init_73 (by omega) ((va_up_ne _ _ (by omega)).trans (va_up_self _ _ _)) rfl (by decide) inX4_X4_init (by decide +kernel) tyX4_ok nmX4 rfl rfl rfl rfl rfl (by simp) ?_
  refine V_aload_n hC dX4_init_76 rfl rfl ?_
  refine V_new (ci := 3) (fs := [.null, .int 0]) hC tyX3 tyX3_ok dX4_init_77 inX3_X4_init (by decide +kernel) (by decide +kernel) (by decide +kernel) rfl (fun j hj => by rcases (show j = 0 ∨ j = 1 by omega) with rfl | rfl <;> rfl) (Nat.le_of_ble_eq_true rfl) (Nat.le_of_ble_eq_true rfl) (fun ad77 had77 => ?_)
  rw [← had77 (o) (by omega), ← had77 (o + 1) (by omega), ← had77 (o + 1 + 16) (by omega), ← had77 (o + 1 + 16 + 16) (by omega), ← had77 (o + 1 + 16 + 16 + 114) (by omega), ← had77 (o + 1 + 16 + 16 + 114 + 1) (by omega), ← had77 (o + 1 + 16 + 16 + 114 + 1 + 16) (by omega), ← had77 (o + 1 + 16 + 16 + 114 + 1 + 16 + 16) (by omega)]
  refine V_dup hC dX4_init_80 rfl ?_
  refine V_ciN (rest := [.ref (ad77 (o + 1 + 16 + 16 + 114 + 1 + 16 + 16 + 1)), .ref (ad77 (o))]) hC (c_X3_init g (eL E) (ad := ad77) (z := o + 1 + 16 + 16 + 114 + 1 + 16 + 16 + 1) (va_up_self _ _ _)) hC.2.2.2.2.2.2.2.2.1.2.1 dX4_init_81 gX4_init_X3_init_n36 (by decide +kernel) (by decide +kernel) rfl rfl rfl ⟨rfl, rfl⟩ (by decide +kernel) (by decide +kernel) (Nat.le_of_ble_eq_true rfl) ⟨Nat.le_of_ble_eq_true rfl, Nat.le_of_ble_eq_true rfl⟩ (fun N81 ad81 u81 had81 h81 => ?_)
  obtain ⟨rfl, rfl⟩ := h81
  rw [← had81 (o) (by omega), ← had81 (o + 1) (by omega), ← had81 (o + 1 + 16) (by omega), ← had81 (o + 1 + 16 + 16) (by omega), ← had81 (o + 1 + 16 + 16 + 114) (by omega), ← had81 (o + 1 + 16 + 16 + 114 + 1) (by omega), ← had81 (o + 1 + 16 + 16 + 114 + 1 + 16) (by omega), ← had81 (o + 1 + 16 + 16 + 114 + 1 + 16 + 16) (by omega), ← had81 (o + 1 + 16 + 16 + 114 + 1 + 16 + 16 + 1) (by omega)]
  refine V_putF hC hin0 5 dX4_init_84 (by omega) ((va_up_ne _ _ (by omega)).trans ((va_up_ne _ _ (by omega)).trans ((va_up_ne _ _ (by omega)).trans (va_up_self _ _ _)))) rfl (by decide) inX4_X4_init (by decide +kernel) tyX4_ok nmX4 rfl rfl rfl rfl rfl (by simp) ?_
  refine V_gen (fun W hW => ?_)
  refine V_vret hC hR dX4_init_87 ?_
  have e58 : ∀ q, q ≠ o → q ≠ o + 1 + 16 + 16 + 114 → q < o + 1 + 16 + 16 + 114 + 1 + 16 + 16 → W q = u58 q := fun q k1 k2 k3 => by rw [hW, va_up_ne _ _ (by omega), va_up_ne _ _ (by omega), va_up_ne _ _ (by omega), va_up_ne _ _ (by omega), va_up_ne _ _ (by omega), va_up_ne _ _ (by omega), va_up_ne _ _ (by omega), va_up_ne _ _ (by omega)]
  have e48 : ∀ q, q ≠ o → q ≠ o + 1 + 16 + 16 + 114 → q < o + 1 + 16 + 16 + 114 + 1 + 16 → W q = u48 q := fun q k1 k2 k3 => (e58 q k1 k2 (by omega)).trans ((w58 q (by omega)).trans ((va_up_ne _ _ (by omega)).trans (va_up_ne _ _ (by omega))))
  have e31 : ∀ q, q ≠ o → q < o + 1 + 16 + 16 + 114 → W q = u31 q := fun q k1 k3 => (e48 q k1 (by omega) (by omega)).trans ((w48 q (by omega)).trans ((va_up_ne _ _ (by omega)).trans ((va_up_ne _ _ (by omega)).trans (va_up_ne _ _ (by omega)))))
  have e20 : ∀ q, q ≠ o → q < o + 1 + 16 + 16 → W q = u20 q := fun q k1 k3 => (e31 q k1 (by omega)).trans ((w31 q (by omega)).trans ((va_up_ne _ _ (by omega)).trans (va_up_ne _ _ (by omega))))
  have e9 : ∀ q, q ≠ o → q < o + 1 + 16 → W q = u9 q := fun q k1 k3 => (e20 q k1 (by omega)).trans ((w20 q (by omega)).trans ((va_up_ne _ _ (by omega)).trans (va_up_ne _ _ (by omega))))
  refine ⟨rfl, fun q a => ?_, rfl, ⟨by rw [hW, va_up_self]; rfl, b9.go (fun q a b => (had81 q (by omega)).trans ((had77 q (by omega)).trans ((had71 q (by omega)).trans ((had58 q (by omega)).trans ((had54 q (by omega)).trans ((had48 q (by omega)).trans ((had44 q (by omega)).trans ((had39 q (by omega)).trans ((had31 q (by omega)).trans ((had27 q (by omega)).trans ((had20 q (by omega)).trans (had16 q (by omega))))))))))))) (fun q a b => e9 q (by omega) (by omega)), b20.go (fun q a b => (had81 q (by omega)).trans ((had77 q (by omega)).trans ((had71 q (by omega)).trans ((had58 q (by omega)).trans ((had54 q (by omega)).trans ((had48 q (by omega)).trans ((had44 q (by omega)).trans ((had39 q (by omega)).trans ((had31 q (by omega)).trans (had27 q (by omega))))))))))) (fun q a b => e20 q (by omega) (by omega)), b31.go (fun q a b => (had81 q (by omega)).trans ((had77 q (by omega)).trans ((had71 q (by omega)).trans ((had58 q (by omega)).trans ((had54 q (by omega)).trans ((had48 q (by omega)).trans ((had44 q (by omega)).trans (had39 q (by omega))))))))) (fun q a b => e31 q (by omega) (by omega)), ?_, b48.go (fun q a b => (had81 q (by omega)).trans ((had77 q (by omega)).trans ((had71 q (by omega)).trans ((had58 q (by omega)).trans (had54 q (by omega)))))) (fun q a b => e48 q (by omega) (by omega) (by omega)), b58.go (fun q a b => (had81 q (by omega)).trans ((had77 q (by omega)).trans (had71 q (by omega)))) (fun q a b => e58 q (by omega) (by omega) (by omega)), ?_, ?_, ?_⟩, fun q hq => ?_⟩
  · exact (had81 q (by omega)).trans ((had77 q (by omega)).trans ((had71 q (by omega)).trans ((had58 q (by omega)).trans ((had54 q (by omega)).trans ((had48 q (by omega)).trans ((had44 q (by omega)).trans ((had39 q (by omega)).trans ((had31 q (by omega)).trans ((had27 q (by omega)).trans ((had20 q (by omega)).trans ((had16 q (by omega)).trans ((had9 q (by omega)).trans (had5 q a)))))))))))))
  · have eb : bsS 2 ad81 (o + 148) = va_up (va_up (fun _ => none) 0 (some (ad81 (o + 148 + 16 * 0)))) 1 (some (ad81 (o + 148 + 16 * 1))) := by rw [← bsS_s (k := 1), ← bsS_s (k := 0), bsS_0]
    rw [eb, hW, va_up_ne _ _ (by omega), va_up_ne _ _ (by omega), va_up_ne _ _ (by omega), va_up_ne _ _ (by omega), va_up_ne _ _ (by omega), va_up_ne _ _ (by omega), va_up_ne _ _ (by omega), va_up_self]
    try rfl
  · rw [hW, va_up_ne _ _ (by omega), va_up_ne _ _ (by omega), va_up_ne _ _ (by omega), va_up_ne _ _ (by omega), va_up_ne _ _ (by omega), va_up_self]
  · rw [hW, va_up_ne _ _ (by omega), va_up_self]
  · rw [hW, va_up_ne _ _ (by omega), va_up_ne _ _ (by omega), va_up_self]
  · have k1 : q ≠ o := by omega
    have k2 : W q = u9 q := e9 q k1 (by omega)
    exact k2.trans ((w9 q (by omega)).trans (va_up_ne _ _ (by omega)))
