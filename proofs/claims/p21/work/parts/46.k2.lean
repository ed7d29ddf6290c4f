abbrev rmX1_init : Room := { frames := 1, cells := 0, slots := 0, locals := 12 }
set_option maxHeartbeats 4000000 in
set_option maxRecDepth 100000 in
theorem c_X1_init (g : GE) (lau : Launch) {ad : Nat → Nat} {N : Nat} {f : Nat → va_E} {i : Nat} : Ct g lau yX1_init wsX1_init rmX1_init N ad [.ref (ad i)] f (pC N ad (fun N2 ad2 u => N2 = N ∧ ad2 = ad ∧ u = f)) 0 0 := by
  refine Ct.of (maxL := 1) rfl (by decide +kernel) [some (.ref (ad i))] (Nat.le_of_ble_eq_true rfl) (by simp [lvo, lv_args, Value.category]) (fun E hnl hin0 hC hR => ?_)
  refine V_aload_n hC dX1_init_0 rfl rfl ?_
  refine V_objInit hC dX1_init_1 (by decide +kernel) (by decide +kernel) (by decide +kernel) (by decide) (Nat.le_of_ble_eq_true rfl) ?_
  refine V_vret hC hR dX1_init_4 ?_
  exact ⟨rfl, fun _ _ => rfl, rfl, rfl, rfl⟩
theorem inX3_X3_init : ∀ w ∈ wsX30, w ∈ wsX3_init := by decide +kernel
abbrev rmX3_init : Room := { frames := 1, cells := 1, slots := 60, locals := 20 }
set_option maxHeartbeats 4000000 in
set_option maxRecDepth 100000 in
theorem c_X3_init (g : GE) (lau : Launch) {ad : Nat → Nat} {f : Nat → va_E} {z : Nat} (hf : f z = .inr (3, [.null, .int 0])) : Ct g lau yX3_init wsX3_init rmX3_init (z + 1) ad [.ref (ad z)] f (pC (z + 1) ad (fun N2 ad2 u => N2 = z + 2 ∧ u = va_up (va_up f (z + 1) (.inl (g.2.1 1, 60, .inl (fun _ => 0)))) z (.inr (3, [.ref (ad2 (z + 1)), .int 0])))) 1 60 := by
  refine Ct.of (maxL := 1) rfl (by decide +kernel) [some (.ref (ad z))] (Nat.le_of_ble_eq_true rfl) (by simp [lvo, lv_args, Value.category]) (fun E hnl hin0 hC hR => ?_)
  refine V_aload_n hC dX3_init_0 rfl rfl ?_
  refine V_objInit hC dX3_init_1 (by decide +kernel) (by decide +kernel) (by decide +kernel) (by decide) (Nat.le_of_ble_eq_true rfl) ?_
  refine V_aload_n hC dX3_init_4 rfl rfl ?_
  refine V_bipush hC 60 dX3_init_5 (by decide) ?_
  refine V_newa (t0 := 1) (atype := .char) (ty := .char) (a0 := (60, .inl (fun _ => 0))) hC dX3_init_7 rfl (by decide +kernel) rfl (fun _ => rfl) (by decide) rfl (Nat.le_of_ble_eq_true rfl) (by decide) (by decide) (fun ad7 had7 => ?_)
  rw [← had7 (z) (by omega)]
  refine V_putF hC hin0 0 dX3_init_9 (by omega) ((va_up_ne _ _ (by omega)).trans hf) rfl (by decide) inX3_X3_init (by decide +kernel) tyX3_ok nmX3 rfl rfl rfl rfl rfl (by simp) ?_
  refine V_vret hC hR dX3_init_12 ?_
  exact ⟨rfl, had7, rfl, rfl⟩
def h0M : Nat → Int32 := upd (upd (upd (upd (upd (upd (upd (upd (upd (fun _ => 0) 0 3) 1 2) 2 2) 3 4) 4 6) 5 20) 6 1) 7 2) 18 20
/-- an empty belt at the start -/
def M0 : MT := (h0M, [], [], [])
def S0 : ST := (M0, [], fun _ => none, [])
