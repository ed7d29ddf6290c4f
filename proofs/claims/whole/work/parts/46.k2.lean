abbrev rmX1_init : Room := { frames := 1, cells := 0, slots := 0, locals := 12 }
set_option maxHeartbeats 4000000 in
set_option maxRecDepth 100000 in
theorem c_X1_init (g : GE) (lau : Launch) {ad : Nat → Nat} {N : Nat} {f : Nat → va_E} {i : Nat} : Ct g lau yX1_init wsX1_init rmX1_init N ad [.ref (ad i)] f (pC N ad (fun N2 ad2 u => N2 = N ∧ ad2 = ad ∧ u = f)) 0 0 := by
  refine Ct.of (maxL := 1) rfl (by decide +kernel) [some (.ref (ad i))] (Nat.le_of_ble_eq_true rfl) (by simp [lvo, lv_args, Value.category]) (fun E hnl hin0 hC hR => ?_)
  refine V_aload_n hC dX1_init_0 rfl rfl ?_
  refine V_objInit hC dX1_init_1 (by decide +kernel) (by decide +kernel) (by decide +kernel) (by decide) (Nat.le_of_ble_eq_true rfl) ?_
  refine V_vret hC hR dX1_init_4 ?_
  exact ⟨rfl, fun _ _ => rfl, rfl, rfl, rfl⟩
theorem inX3_X3_init : ∀ w ∈ wsX30, w ∈ wsX3_init := by decide +kernel
abbrev rmX3_init : Room := { frames := 1, cells := 1, slots := 60, locals := 20 }
set_option maxHeartbeats 4000000 in
set_option maxRecDepth 100000 in
theorem c_X3_init (g : GE) (lau : Launch) {ad : Nat → Nat} {f : Nat → va_E} {z : Nat} (hf : f z = .inr (3, [.null, .int 0])) : Ct g lau yX3_init wsX3_init rmX3_init (z + 1) ad [.ref (ad z)] f (pC (z + 1) ad (fun N2 ad2 u => N2 = z + 2 ∧ u = va_up (va_up f (z + 1) (.inl (g.2.1 1, 60, .inl (fun _ => 0)))) z (.inr (3, [.ref (ad2 (z + 1)), .int 0])))) 1 60 := by
  refine Ct.of (maxL := 1) rfl (by decide +kernel) [some (.ref (ad z))] (Nat.le_of_ble_eq_true rfl) (by simp [lvo, lv_args, Value.category]) (fun E hnl hin0 hC hR => ?_)
  refine V_aload_n hC dX3_init_0 rfl rfl ?_
  refine V_objInit hC dX3_init_1 (by decide +kernel) (by decide +kernel) (by decide +kernel) (by decide) (Nat.le_of_ble_eq_true rfl) ?_
  refine V_aload_n hC dX3_init_4 rfl rfl ?_
  refine V_bipush hC 60 dX3_init_5 (by decide) ?_
  refine V_newa (t0 := 1) (atype := .char) (ty := .char) (a0 := (60, .inl (fun _ => 0))) hC dX3_init_7 rfl (by decide +kernel) rfl (fun _ => rfl) (by decide) rfl (Nat.le_of_ble_eq_true rfl) (by decide) (by decide) (fun ad7 had7 => ?_)
  rw [← had7 (z) (by omega)]
  refine V_putF hC hin0 0 dX3_init_9 (by omega) ((va_up_ne _ _ (by omega)).trans hf) rfl (by decide) inX3_X3_init (by decide +kernel) tyX3_ok nmX3 rfl rfl rfl rfl rfl (by simp) ?_
  refine V_vret hC hR dX3_init_12 ?_
  exact ⟨rfl, had7, rfl, rfl⟩
def h0M : Nat → Int32 := upd (upd (upd (upd (upd (upd (upd (upd (upd (fun _ => 0) 0 3) 1 2) 2 2) 3 4) 4 6) 5 20) 6 1) 7 2) 18 20
/-- an empty belt at the start -/
def M0 : MT := (h0M, [], [], [])
def S0 : ST := (M0, [], fun _ => none, [])
theorem inX5_X5_init : ∀ w ∈ wsX50, w ∈ wsX5_init := by decide +kernel
abbrev rmX5_init : Room := { frames := 1, cells := 6, slots := 1662, locals := 40 }
set_option maxHeartbeats 4000000 in
set_option maxRecDepth 100000 in
theorem c_X5_init (g : GE) (lau : Launch) {ad : Nat → Nat} {f : Nat → va_E} {o : Nat} (hf : f o = .inr (5, [.null, .null, .null, .int 0, .null, .null, .null, .int 0, .int 0, .int 0, .int 0, .int 0])) : Ct g lau yX5_init wsX5_init rmX5_init (o + 1) ad [.ref (ad o)] f (pC (o + 1) ad (fun N2 ad2 u => N2 = o + 7 ∧ MIs g ad2 f o S0 u)) 6 1662 := by
  refine Ct.of (maxL := 1) rfl (by decide +kernel) [some (.ref (ad o))] (Nat.le_of_ble_eq_true rfl) (by simp [lvo, lv_args, Value.category]) (fun E hnl hin0 hC hR => ?_)
  refine V_aload_n hC dX5_init_0 rfl rfl ?_
  refine V_objInit hC dX5_init_1 (by decide +kernel) (by decide +kernel) (by decide +kernel) (by decide) (Nat.le_of_ble_eq_true rfl) ?_
  refine V_aload_n hC dX5_init_4 rfl rfl ?_
  refine V_sipush hC 160 dX5_init_5 (by decide) ?_
  refine V_newa (t0 := 0) (atype := .int) (ty := .int) (a0 := (160, .inl (fun _ => 0))) hC dX5_init_8 rfl (by decide +kernel) rfl (fun _ => rfl) (by decide) rfl (Nat.le_of_ble_eq_true rfl) (by decide) (Nat.le_of_ble_eq_true rfl) (fun ad8 had8 => ?_)
  rw [← had8 (o) (by omega)]
  refine V_putF hC hin0 0 dX5_init_10 (by omega) ((va_up_ne _ _ (by omega)).trans hf) rfl (by decide) inX5_X5_init (by decide +kernel) tyX5_ok nmX5 rfl rfl rfl rfl rfl (by simp) ?_
  refine V_aload_n hC dX5_init_13 rfl rfl ?_
  refine V_sipush hC 160 dX5_init_14 (by decide) ?_
  refine V_newa (t0 := 0) (atype := .int) (ty := .int) (a0 := (160, .inl (fun _ => 0))) hC dX5_init_17 rfl (by decide +kernel) rfl (fun _ => rfl) (by decide) rfl (Nat.le_of_ble_eq_true rfl) (by decide) (Nat.le_of_ble_eq_true rfl) (fun ad17 had17 => ?_)
  rw [← had17 (o) (by omega), ← had17 (o + 1) (by omega)]
  refine V_putF hC hin0 1 dX5_init_19 (by omega) ((va_up_ne _ _ (by omega)).trans (va_up_self _ _ _)) rfl (by decide) inX5_X5_init (by decide +kernel) tyX5_ok nmX5 rfl rfl rfl rfl rfl (by simp) ?_
  refine V_aload_n hC dX5_init_22 rfl rfl ?_
  refine V_sipush hC 960 dX5_init_23 (by decide) ?_
  refine V_newa (t0 := 0) (atype := .int) (ty := .int) (a0 := (960, .inl (fun _ => 0))) hC dX5_init_26 rfl (by decide +kernel) rfl (fun _ => rfl) (by decide) rfl (Nat.le_of_ble_eq_true rfl) (by decide) (Nat.le_of_ble_eq_true rfl) (fun ad26 had26 => ?_)
  rw [← had26 (o) (by omega), ← had26 (o + 1) (by omega), ← had26 (o + 1 + 1) (by omega)]
  refine V_putF hC hin0 2 dX5_init_28 (by omega) ((va_up_ne _ _ (by omega)).trans (va_up_self _ _ _)) rfl (by decide) inX5_X5_init (by decide +kernel) tyX5_ok nmX5 rfl rfl rfl rfl rfl (by simp) ?_
  refine V_aload_n hC dX5_init_31 rfl rfl ?_
  refine V_sipush hC 320 dX5_init_32 (by decide) ?_
  refine V_newa (t0 := 0) (atype := .int) (ty := .int) (a0 := (320, .inl (fun _ => 0))) hC dX5_init_35 rfl (by decide +kernel) rfl (fun _ => rfl) (by decide) rfl (Nat.le_of_ble_eq_true rfl) (by decide) (Nat.le_of_ble_eq_true rfl) (fun ad35 had35 => ?_)
  rw [← had35 (o) (by omega), ← had35 (o + 1) (by omega), ← had35 (o + 1 + 1) (by omega), ← had35 (o + 1 + 1 + 1) (by omega)]
  refine V_putF hC hin0 4 dX5_init_37 (by omega) ((va_up_ne _ _ (by omega)).trans (va_up_self _ _ _)) rfl (by decide) inX5_X5_init (by decide +kernel) tyX5_ok nmX5 rfl rfl rfl rfl rfl (by simp) ?_
  refine V_aload_n hC dX5_init_40 rfl rfl ?_
  refine V_iconst hC 2 dX5_init_41 (by decide) ?_
  refine V_newa (t0 := 0) (atype := .int) (ty := .int) (a0 := (2, .inl (fun _ => 0))) hC dX5_init_42 rfl (by decide +kernel) rfl (fun _ => rfl) (by decide) rfl (Nat.le_of_ble_eq_true rfl) (by decide) (Nat.le_of_ble_eq_true rfl) (fun ad42 had42 => ?_)
  rw [← had42 (o) (by omega), ← had42 (o + 1) (by omega), ← had42 (o + 1 + 1) (by omega), ← had42 (o + 1 + 1 + 1) (by omega), ← had42 (o + 1 + 1 + 1 + 1) (by omega)]
  refine V_putF hC hin0 5 dX5_init_44 (by omega) ((va_up_ne _ _ (by omega)).trans (va_up_self _ _ _)) rfl (by decide) inX5_X5_init (by decide +kernel) tyX5_ok nmX5 rfl rfl rfl rfl rfl (by simp) ?_
  refine V_aload_n hC dX5_init_47 rfl rfl ?_
  refine V_bipush hC 60 dX5_init_48 (by decide) ?_
  refine V_newa (t0 := 0) (atype := .int) (ty := .int) (a0 := (60, .inl (fun _ => 0))) hC dX5_init_50 rfl (by decide +kernel) rfl (fun _ => rfl) (by decide) rfl (Nat.le_of_ble_eq_true rfl) (by decide) (Nat.le_of_ble_eq_true rfl) (fun ad50 had50 => ?_)
  rw [← had50 (o) (by omega), ← had50 (o + 1) (by omega), ← had50 (o + 1 + 1) (by omega), ← had50 (o + 1 + 1 + 1) (by omega), ← had50 (o + 1 + 1 + 1 + 1) (by omega), ← had50 (o + 1 + 1 + 1 + 1 + 1) (by omega)]
  refine V_putF hC hin0 6 dX5_init_52 (by omega) ((va_up_ne _ _ (by omega)).trans (va_up_self _ _ _)) rfl (by decide) inX5_X5_init (by decide +kernel) tyX5_ok nmX5 rfl rfl rfl rfl rfl (by simp) ?_
  refine V_f (f2 := zM g ad50 f o (fun _ => 0) (fun _ => 0) (fun _ => 0) 0 (fun _ => 0) (fun _ => 0) (fun _ => 0) 0 0 0 0 0) ?_ ?_
  · funext q
    by_cases hq : q < o ∨ o + 7 ≤ q
    · rw [zM_out (by omega)]
      rw [va_up_ne _ _ (by omega)]
      rw [va_up_ne _ _ (by omega)]
      rw [va_up_ne _ _ (by omega)]
      rw [va_up_ne _ _ (by omega)]
      rw [va_up_ne _ _ (by omega)]
      rw [va_up_ne _ _ (by omega)]
      rw [va_up_ne _ _ (by omega)]
      rw [va_up_ne _ _ (by omega)]
      rw [va_up_ne _ _ (by omega)]
      rw [va_up_ne _ _ (by omega)]
      rw [va_up_ne _ _ (by omega)]
      rw [va_up_ne _ _ (by omega)]
    · rcases (show q = o ∨ q = o + 1 ∨ q = o + 2 ∨ q = o + 3 ∨ q = o + 4 ∨ q = o + 5 ∨ q = o + 6 by omega) with rfl | rfl | rfl | rfl | rfl | rfl | rfl <;> simp [va_up, zM]
  have hNo : o + 7 ≤ o + 1 + 1 + 1 + 1 + 1 + 1 + 1 := by omega
  refine V_aload_n hC dX5_init_55 rfl rfl ?_
  refine V_zM_all hC hNo dX5_init_56 inX5_X5_init (by decide +kernel) ?_
  refine V_iconst hC 0 dX5_init_59 (by decide) ?_
  refine V_iconst hC 3 dX5_init_60 (by decide) ?_
  refine V_zM_st1 (k := 0) hC hNo dX5_init_61 (ix_c (by decide)) ?_
  refine V_aload_n hC dX5_init_62 rfl rfl ?_
  refine V_zM_all hC hNo dX5_init_63 inX5_X5_init (by decide +kernel) ?_
  refine V_iconst hC 1 dX5_init_66 (by decide) ?_
  refine V_iconst hC 2 dX5_init_67 (by decide) ?_
  refine V_zM_st1 (k := 1) hC hNo dX5_init_68 (ix_c (by decide)) ?_
  refine V_aload_n hC dX5_init_69 rfl rfl ?_
  refine V_zM_all hC hNo dX5_init_70 inX5_X5_init (by decide +kernel) ?_
  refine V_iconst hC 2 dX5_init_73 (by decide) ?_
  refine V_iconst hC 2 dX5_init_74 (by decide) ?_
  refine V_zM_st1 (k := 2) hC hNo dX5_init_75 (ix_c (by decide)) ?_
  refine V_aload_n hC dX5_init_76 rfl rfl ?_
  refine V_zM_all hC hNo dX5_init_77 inX5_X5_init (by decide +kernel) ?_
  refine V_iconst hC 3 dX5_init_80 (by decide) ?_
  refine V_iconst hC 4 dX5_init_81 (by decide) ?_
  refine V_zM_st1 (k := 3) hC hNo dX5_init_82 (ix_c (by decide)) ?_
  refine V_aload_n hC dX5_init_83 rfl rfl ?_
  refine V_zM_all hC hNo dX5_init_84 inX5_X5_init (by decide +kernel) ?_
  refine V_iconst hC 4 dX5_init_87 (by decide) ?_
  refine V_bipush hC 6 dX5_init_88 (by decide) ?_
  refine V_zM_st1 (k := 4) hC hNo dX5_init_90 (ix_c (by decide)) ?_
  refine V_aload_n hC dX5_init_91 rfl rfl ?_
  refine V_zM_all hC hNo dX5_init_92 inX5_X5_init (by decide +kernel) ?_
  refine V_iconst hC 5 dX5_init_95 (by decide) ?_
  refine V_bipush hC 20 dX5_init_96 (by decide) ?_
  refine V_zM_st1 (k := 5) hC hNo dX5_init_98 (ix_c (by decide)) ?_
  refine V_aload_n hC dX5_init_99 rfl rfl ?_
  refine V_zM_all hC hNo dX5_init_100 inX5_X5_init (by decide +kernel) ?_
  refine V_bipush hC 6 dX5_init_103 (by decide) ?_
  refine V_iconst hC 1 dX5_init_105 (by decide) ?_
  refine V_zM_st1 (k := 6) hC hNo dX5_init_106 (ix_c (by decide)) ?_
  refine V_aload_n hC dX5_init_107 rfl rfl ?_
  refine V_zM_all hC hNo dX5_init_108 inX5_X5_init (by decide +kernel) ?_
  refine V_bipush hC 7 dX5_init_111 (by decide) ?_
  refine V_iconst hC 2 dX5_init_113 (by decide) ?_
  refine V_zM_st1 (k := 7) hC hNo dX5_init_114 (ix_c (by decide)) ?_
  refine V_aload_n hC dX5_init_115 rfl rfl ?_
  refine V_zM_all hC hNo dX5_init_116 inX5_X5_init (by decide +kernel) ?_
  refine V_bipush hC 18 dX5_init_119 (by decide) ?_
  refine V_bipush hC 20 dX5_init_121 (by decide) ?_
  refine V_zM_st1 (k := 18) hC hNo dX5_init_123 (ix_c (by decide)) ?_
  refine V_vret hC hR dX5_init_124 ?_
  refine ⟨rfl, fun i hi => ?_, rfl, MIs.mk ?_⟩
  · rw [had50 i (by omega), had42 i (by omega), had35 i (by omega), had26 i (by omega), had17 i (by omega), had8 i hi]
  · refine ⟨⟨fun i h1 h2 h3 h4 => ?_, ⟨rfl, by decide, fun d x hj => by simp [S0, M0] at hj⟩, ⟨rfl, by decide, fun j r hj => by simp [S0, M0] at hj⟩, rfl, by decide, fun j q hj => by simp [S0, M0] at hj⟩, ⟨rfl, by decide, fun j m hj => by simp [S0, M0] at hj⟩, fun k hk => Or.inl ⟨rfl, rfl⟩, rfl, by decide, fun j x hj => by simp [S0, M0] at hj⟩
    rfl
