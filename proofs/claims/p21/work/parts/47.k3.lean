def zXi (f : Nat → va_E) (c k : Nat) : Nat → va_E := fun q => if c + 8 ≤ q ∧ q < c + 8 + k then boxE (fun _ => 0) else f q
def bsI (k : Nat) (ad : Nat → Nat) (c : Nat) : Nat → Option Nat := fun j => if j < k then some (ad (c + 8 + j)) else none
theorem zXi_0 {f : Nat → va_E} {c : Nat} : zXi f c 0 = f := by
  funext q
  unfold zXi
  rw [if_neg (by omega)]
theorem zXi_s {f : Nat → va_E} {c k : Nat} : va_up (zXi f c k) (c + 8 + k) (boxE (fun _ => 0)) = zXi f c (k + 1) := by
  funext q
  unfold va_up zXi
  by_cases h : q = c + 8 + k
  · rw [if_pos h, if_pos (by omega)]
  · rw [if_neg h]
    by_cases h2 : c + 8 ≤ q ∧ q < c + 8 + k
    · rw [if_pos h2, if_pos (by omega)]
    · rw [if_neg h2, if_neg (by omega)]
theorem bsI_0 {ad : Nat → Nat} {c : Nat} : bsI 0 ad c = fun _ => none := by
  funext j
  unfold bsI
  rw [if_neg (by omega)]
theorem bsI_s {ad : Nat → Nat} {c k : Nat} : va_up (bsI k ad c) k (some (ad (c + 8 + k))) = bsI (k + 1) ad c := by
  funext j
  unfold va_up bsI
  by_cases h : j = k
  · subst h
    rw [if_pos rfl, if_pos (by omega)]
  · rw [if_neg h]
    by_cases h2 : j < k
    · rw [if_pos h2, if_pos (by omega)]
    · rw [if_neg h2, if_neg (by omega)]
theorem bsI_ad {ad ad2 : Nat → Nat} {c k : Nat} (h : ∀ j, j < k → ad2 (c + 8 + j) = ad (c + 8 + j)) : bsI k ad2 c = bsI k ad c := by
  funext j
  unfold bsI
  split
  · rename_i hj
    rw [h j hj]
  · rfl
theorem zB0_ad {g : GE} {ad ad2 : Nat → Nat} {f : Nat → va_E} {c : Nat} {s t : Nat → Int32} {bs : Nat → Option Nat} {bc : Int32} {co ex : Nat → Int32} {rc : Int32} {pl : Nat → Int32} {pn : Int32} {wy : Nat → Int32} (h : ∀ j, j < 8 → ad2 (c + j) = ad (c + j)) : zB0 g ad2 f c s t bs bc co ex rc pl pn wy = zB0 g ad f c s t bs bc co ex rc pl pn wy := by
  unfold zB0
  rw [h 1 (by decide), h 2 (by decide), h 3 (by decide), h 4 (by decide), h 5 (by decide), h 6 (by decide), h 7 (by decide)]
theorem zB0_3 {g : GE} {ad : Nat → Nat} {f : Nat → va_E} {c : Nat} {s t : Nat → Int32} {bs bs2 : Nat → Option Nat} {bc : Int32} {co ex : Nat → Int32} {rc : Int32} {pl : Nat → Int32} {pn : Int32} {wy : Nat → Int32} : va_up (zB0 g ad f c s t bs bc co ex rc pl pn wy) (c + 3) (.inl (g.2.1 4, 8, .inr (.inr (.inr (.inr bs2))))) = zB0 g ad f c s t bs2 bc co ex rc pl pn wy := by
  funext q
  unfold va_up zB0
  by_cases h : q = c + 3
  · subst h; simp
  · simp [h]
theorem arrV_ext {cA : ClassId} {n : Nat} {f h : Nat → Value} (e : ∀ j, j < n → f j = h j) : arrV cA n f = arrV cA n h := by
  unfold arrV
  congr 1
  apply Array.ext
  · simp
  · intro i h1 h2
    simp at h1 h2 ⊢
    exact e i (by omega)
theorem cell_q {cA : ClassId} {n : Nat} {a b : Nat → Option Nat} (e : ∀ j, j < n → a j = b j) : vp_cell cA (n, .inr (.inr (.inr (.inr a)))) = vp_cell cA (n, .inr (.inr (.inr (.inr b)))) := by
  rw [vp_cell_q, vp_cell_q]
  exact arrV_ext fun j hj => by rw [e j hj]
theorem rep0 : RepB (lstA [3, 2, 2, 4, 6, 20, 1, 2]) (upd (fun _ => 0) 10 20) (fun i => i % 8) 0 (fun _ => 0) (fun _ => 0) 0 (fun _ => 0) 0 (fun _ => 0) (fun _ _ => 0) M0 := by
  refine ⟨⟨fun i hi => ?_, fun i h1 h2 h3 h4 => ?_, fun k hk => ?_⟩, ⟨rfl, by decide, fun j h => Nat.mod_lt _ (by decide), fun i j h1 h2 h => (by simp only at h; omega), fun j x hj => by simp [M0] at hj⟩, ⟨rfl, by decide, fun j r hj => by simp [M0] at hj⟩, rfl, by decide, fun j q hj => by simp [M0] at hj⟩
  · rcases (show i = 0 ∨ i = 1 ∨ i = 2 ∨ i = 3 ∨ i = 4 ∨ i = 5 ∨ i = 6 ∨ i = 7 by omega) with rfl | rfl | rfl | rfl | rfl | rfl | rfl | rfl <;> rfl
  · rcases (show i = 0 ∨ i = 2 ∨ i = 3 ∨ i = 4 ∨ i = 5 ∨ i = 6 ∨ i = 7 ∨ i = 8 ∨ i = 9 ∨ i = 10 ∨ i = 13 by omega) with rfl | rfl | rfl | rfl | rfl | rfl | rfl | rfl | rfl | rfl | rfl <;> rfl
  · rcases (show k = 0 ∨ k = 1 ∨ k = 2 ∨ k = 3 ∨ k = 4 by omega) with rfl | rfl | rfl | rfl | rfl <;> rfl
/-- a belt at the start -/
def B0 (g : GE) (ad : Nat → Nat) (c : Nat) (u : Nat → va_E) : Prop := hasB g ad u c (lstA [3, 2, 2, 4, 6, 20, 1, 2]) (upd (fun _ => 0) 10 20) (fun i => i % 8) 0 (fun _ => 0) (fun _ => 0) 0 (fun _ => 0) 0 (fun _ => 0) (fun _ _ => 0)
theorem B0.at {g : GE} {ad : Nat → Nat} {c : Nat} {u : Nat → va_E} (h : B0 g ad c u) : BAt g ad c M0 u := ⟨_, _, _, _, _, _, _, _, _, _, _, h, rep0⟩
theorem B0.go {g : GE} {ad ad2 : Nat → Nat} {c : Nat} {u v : Nat → va_E} (h : B0 g ad c u) (he : ∀ q, c ≤ q → q < c + 16 → ad2 q = ad q) (hv : ∀ q, c ≤ q → q < c + 16 → v q = u q) : B0 g ad2 c v := by
  have h := hasB.keep h hv
  obtain ⟨h1, h2, h3, h4, h5, h6, h7, h8, h9⟩ := h
  refine ⟨?_, h2, h3, ?_, h5, h6, h7, h8, h9⟩
  · rw [h1, he (c + 1) (by omega) (by omega), he (c + 2) (by omega) (by omega), he (c + 3) (by omega) (by omega), he (c + 4) (by omega) (by omega), he (c + 5) (by omega) (by omega), he (c + 6) (by omega) (by omega), he (c + 7) (by omega) (by omega)]
  · rw [h4]
    have e : (fun i => some (ad2 (c + 8 + i % 8))) = (fun i => some (ad (c + 8 + i % 8))) := by
      funext i
      have := Nat.mod_lt i (show 0 < 8 by decide)
      rw [he _ (by omega) (by omega)]
    rw [e]
theorem inX0_X0_init : ∀ w ∈ wsX00, w ∈ wsX0_init := by decide +kernel
theorem inX1_X0_init : ∀ w ∈ wsX10, w ∈ wsX0_init := by decide +kernel
abbrev rmX0_init : Room := { frames := 2, cells := 15, slots := 187, locals := 60 }
set_option maxHeartbeats 4000000 in
set_option maxRecDepth 100000 in
theorem c_X0_init (g : GE) (lau : Launch) {ad : Nat → Nat} {f : Nat → va_E} {c : Nat} (hf : f c = .inr (0, [.null, .null, .null, .int 0, .null, .null, .int 0, .null, .int 0, .null])) : Ct g lau yX0_init wsX0_init rmX0_init (c + 1) ad [.ref (ad c)] f (pC (c + 1) ad (fun N2 ad2 u => N2 = c + 16 ∧ B0 g ad2 c u ∧ ∀ q, q < c ∨ c + 16 ≤ q → u q = f q)) 15 187 := by
  refine Ct.of (maxL := 2) rfl (by decide +kernel) [some (.ref (ad c)), none] (Nat.le_of_ble_eq_true rfl) (by simp [lvo, lv_args, Value.category]) (fun E hnl hin0 hC hR => ?_)
  have loop : ∀ (j k : Nat) (ad2 : Nat → Nat), k + j = 8 → (∀ i, i < c + 1 → ad2 i = ad i) → V E g (c + 8 + k) ad2 (7 + k) (131 + 7 * k) (zB0 g ad2 (zXi f c (k)) c (lstA [3, 2, 2, 4, 6, 20, 1, 2]) (fun _ => 0) (bsI (k) ad2 c) 0 (fun _ => 0) (fun _ => 0) 0 (fun _ => 0) 0 (fun _ => 0)) 67 [some (.ref (ad2 c)), some (.int (nI k))] [] := by
    intro j
    induction j with
    | zero =>
      intro k ad2 hk had
      have hk : k = 8 := by omega
      subst hk
      refine V_iload_n hC dX0_init_67 rfl rfl ?_
      refine V_bipush hC 8 dX0_init_68 (by decide) ?_
      refine V_icmp_ge_t hC 92 dX0_init_70 (by decide) (by decide) ?_
      refine V_aload_n hC dX0_init_92 rfl rfl ?_
      refine V_get hC 1 dX0_init_93 (by omega) zB0_0 rfl (by decide) inX0_X0_init (by decide +kernel) rfl ?_
      refine V_bipush hC 10 dX0_init_96 (by decide) ?_
      refine V_bipush hC 20 dX0_init_98 (by decide) ?_
      refine V_iast hC dX0_init_100 (by omega) zB0_a2 (ix_c (k := 10) (by decide)) ?_
      refine V_f zB0_u2 ?_
      refine V_arr (i := c + 3) (y := (8, .inr (.inr (.inr (.inr (fun i => some (ad2 (c + 8 + i % 8)))))))) (by omega) zB0_a3 (cell_q fun j hj => by unfold bsI; rw [if_pos hj, Nat.mod_eq_of_lt hj]) ?_
      refine V_f zB0_3 ?_
      refine V_vret hC hR dX0_init_101 ?_
      exact ⟨rfl, had, rfl, (hasB.of : hasB g ad2 (zB g ad2 f c (lstA [3, 2, 2, 4, 6, 20, 1, 2]) (upd (fun _ => 0) 10 20) (fun i => i % 8) 0 (fun _ => 0) (fun _ => 0) 0 (fun _ => 0) 0 (fun _ => 0) (fun _ _ => 0)) c (lstA [3, 2, 2, 4, 6, 20, 1, 2]) (upd (fun _ => 0) 10 20) (fun i => i % 8) 0 (fun _ => 0) (fun _ => 0) 0 (fun _ => 0) 0 (fun _ => 0) (fun _ _ => 0)), fun q hq => (zB_out (gx := fun _ _ => 0) (p := fun i => i % 8) hq)⟩
    | succ j ih =>
      intro k ad2 hk had
      have hk8 : k < 8 := by omega
      refine V_iload_n hC dX0_init_67 rfl rfl ?_
      refine V_bipush hC 8 dX0_init_68 (by decide) ?_
      refine V_icmp_ge_f (tgt := 92) hC dX0_init_70 (by decide) (nI_ge (b := 8) (by omega) (by decide)) ?_
      refine V_aload_n hC dX0_init_73 rfl rfl ?_
      refine V_get hC 2 dX0_init_74 (by omega) zB0_0 rfl (by decide) inX0_X0_init (by decide +kernel) rfl ?_
      refine V_iload_n hC dX0_init_77 rfl rfl ?_
      refine V_new (ci := 1) (fs := [.int 0, .int 0, .int 0, .int 0, .int 0, .int 0, .int 0]) hC tyX1 tyX1_ok dX0_init_78 inX1_X0_init (by decide +kernel) (by decide +kernel) (by decide +kernel) rfl (fun j hj => by rcases (show j = 0 ∨ j = 1 ∨ j = 2 ∨ j = 3 ∨ j = 4 ∨ j = 5 ∨ j = 6 by omega) with rfl | rfl | rfl | rfl | rfl | rfl | rfl <;> rfl) (by show 7 + k + 1 ≤ 15; omega) (by show 131 + 7 * k + 7 ≤ 187; omega) (fun ad78 had78 => ?_)
      refine V_f (f2 := zB0 g ad78 (va_up (zXi f c k) (c + 8 + k) (boxE (fun _ => 0))) c (lstA [3, 2, 2, 4, 6, 20, 1, 2]) (fun _ => 0) (bsI k ad78 c) 0 (fun _ => 0) (fun _ => 0) 0 (fun _ => 0) 0 (fun _ => 0)) ?_ ?_
      · rw [zB0_ad (ad := ad2) (ad2 := ad78) (fun j hj => had78 _ (by omega)), bsI_ad (ad := ad2) (ad2 := ad78) (fun j hj => had78 _ (by omega))]
        exact zB0_u (by omega)
      rw [← had78 c (by omega), ← had78 (c + 3) (by omega)]
      refine V_dup hC dX0_init_81 rfl ?_
      refine V_ciN (rest := [.ref (ad78 (c + 8 + k)), .int (nI k), .ref (ad78 (c + 3))]) hC (c_X1_init g (eL E) (N := c + 8 + k + 1) (i := c + 8 + k)) hC.2.2.2.2.2.2.2.2.1.1 dX0_init_82 gX0_init_X1_init_n44 (by decide +kernel) (by decide +kernel) rfl rfl rfl ⟨rfl, rfl⟩ (by decide +kernel) (by decide +kernel) (Nat.le_of_ble_eq_true rfl) ⟨by show 7 + k + 1 + 0 ≤ 15; omega, by show 131 + 7 * k + 7 + 0 ≤ 187; omega⟩ (fun N82 ad82 u82 had82 h82 => ?_)
      obtain ⟨rfl, rfl, rfl⟩ := h82
      refine V_aast (t0 := 4) (r := (RX1, TX1, 7)) hC dX0_init_85 (by omega) zB0_a3 rfl (by omega) ((zB0_out (by omega)).trans (va_up_self _ _ _)) rfl (ix_nI (j := k) hk8 (by decide)) ?_
      refine V_f zB0_3 ?_
      refine V_f (by rw [zXi_s, bsI_s]) ?_
      refine V_iinc1 hC (nI (k + 1)) dX0_init_86 (nI_1 k) (by rw [hnl]; decide) rfl ?_
      refine V_goto hC 67 dX0_init_89 (by decide) ?_
      exact V_widen (by omega) (by omega) (ih (k + 1) ad82 (by omega) fun i hi => (had78 i (by omega)).trans (had i hi))
  refine V_aload_n hC dX0_init_0 rfl rfl ?_
  refine V_objInit hC dX0_init_1 (by decide +kernel) (by decide +kernel) (by decide +kernel) (by decide) (Nat.le_of_ble_eq_true rfl) ?_
  refine V_aload_n hC dX0_init_4 rfl rfl ?_
  refine V_gets hC hC.2.2.2.2.2.2.2.1.2.2.1 dX0_init_5 (by decide +kernel) ?_
  refine V_clone hC dX0_init_8 (by decide +kernel) (by decide +kernel) (by decide +kernel) (by decide +kernel) (by decide +kernel) (by decide) (Nat.le_of_ble_eq_true rfl) (by decide) (Nat.le_of_ble_eq_true rfl) (fun ad8 had8 => ?_)
  rw [← had8 (c) (by omega)]
  refine V_castI hC dX0_init_11 (by decide +kernel) (by omega) (va_up_self _ _ _) ?_
  refine V_putF hC hin0 0 dX0_init_14 (by omega) ((va_up_ne _ _ (by omega)).trans hf) rfl (by decide) inX0_X0_init (by decide +kernel) tyX0_ok nmX0 rfl rfl rfl rfl rfl (by simp) ?_
  refine V_aload_n hC dX0_init_17 rfl rfl ?_
  refine V_bipush hC 14 dX0_init_18 (by decide) ?_
  refine V_newa (t0 := 0) (atype := .int) (ty := .int) (a0 := (14, .inl (fun _ => 0))) hC dX0_init_20 rfl (by decide +kernel) rfl (fun _ => rfl) (by decide) rfl (Nat.le_of_ble_eq_true rfl) (by decide) (Nat.le_of_ble_eq_true rfl) (fun ad20 had20 => ?_)
  rw [← had20 (c) (by omega), ← had20 (c + 1) (by omega)]
  refine V_putF hC hin0 1 dX0_init_22 (by omega) ((va_up_ne _ _ (by omega)).trans (va_up_self _ _ _)) rfl (by decide) inX0_X0_init (by decide +kernel) tyX0_ok nmX0 rfl rfl rfl rfl rfl (by simp) ?_
  refine V_aload_n hC dX0_init_25 rfl rfl ?_
  refine V_bipush hC 8 dX0_init_26 (by decide) ?_
  refine V_newq (t0 := 4) (n := 8) hC dX0_init_28 (by decide +kernel) rfl hC.2.2.2.2.2.2.2.2.1.2.2.2.2 (by decide) rfl (Nat.le_of_ble_eq_true rfl) (by decide) (Nat.le_of_ble_eq_true rfl) (fun ad28 had28 => ?_)
  rw [← had28 (c) (by omega), ← had28 (c + 1) (by omega), ← had28 (c + 1 + 1) (by omega)]
  refine V_putF hC hin0 2 dX0_init_31 (by omega) ((va_up_ne _ _ (by omega)).trans (va_up_self _ _ _)) rfl (by decide) inX0_X0_init (by decide +kernel) tyX0_ok nmX0 rfl rfl rfl rfl rfl (by simp) ?_
  refine V_aload_n hC dX0_init_34 rfl rfl ?_
  refine V_bipush hC 32 dX0_init_35 (by decide) ?_
  refine V_newa (t0 := 0) (atype := .int) (ty := .int) (a0 := (32, .inl (fun _ => 0))) hC dX0_init_37 rfl (by decide +kernel) rfl (fun _ => rfl) (by decide) rfl (Nat.le_of_ble_eq_true rfl) (by decide) (Nat.le_of_ble_eq_true rfl) (fun ad37 had37 => ?_)
  rw [← had37 (c) (by omega), ← had37 (c + 1) (by omega), ← had37 (c + 1 + 1) (by omega), ← had37 (c + 1 + 1 + 1) (by omega)]
  refine V_putF hC hin0 4 dX0_init_39 (by omega) ((va_up_ne _ _ (by omega)).trans (va_up_self _ _ _)) rfl (by decide) inX0_X0_init (by decide +kernel) tyX0_ok nmX0 rfl rfl rfl rfl rfl (by simp) ?_
  refine V_aload_n hC dX0_init_42 rfl rfl ?_
  refine V_bipush hC 32 dX0_init_43 (by decide) ?_
  refine V_newa (t0 := 0) (atype := .int) (ty := .int) (a0 := (32, .inl (fun _ => 0))) hC dX0_init_45 rfl (by decide +kernel) rfl (fun _ => rfl) (by decide) rfl (Nat.le_of_ble_eq_true rfl) (by decide) (Nat.le_of_ble_eq_true rfl) (fun ad45 had45 => ?_)
  rw [← had45 (c) (by omega), ← had45 (c + 1) (by omega), ← had45 (c + 1 + 1) (by omega), ← had45 (c + 1 + 1 + 1) (by omega), ← had45 (c + 1 + 1 + 1 + 1) (by omega)]
  refine V_putF hC hin0 5 dX0_init_47 (by omega) ((va_up_ne _ _ (by omega)).trans (va_up_self _ _ _)) rfl (by decide) inX0_X0_init (by decide +kernel) tyX0_ok nmX0 rfl rfl rfl rfl rfl (by simp) ?_
  refine V_aload_n hC dX0_init_50 rfl rfl ?_
  refine V_bipush hC 32 dX0_init_51 (by decide) ?_
  refine V_newa (t0 := 0) (atype := .int) (ty := .int) (a0 := (32, .inl (fun _ => 0))) hC dX0_init_53 rfl (by decide +kernel) rfl (fun _ => rfl) (by decide) rfl (Nat.le_of_ble_eq_true rfl) (by decide) (Nat.le_of_ble_eq_true rfl) (fun ad53 had53 => ?_)
  rw [← had53 (c) (by omega), ← had53 (c + 1) (by omega), ← had53 (c + 1 + 1) (by omega), ← had53 (c + 1 + 1 + 1) (by omega), ← had53 (c + 1 + 1 + 1 + 1) (by omega), ← had53 (c + 1 + 1 + 1 + 1 + 1) (by omega)]
  refine V_putF hC hin0 7 dX0_init_55 (by omega) ((va_up_ne _ _ (by omega)).trans (va_up_self _ _ _)) rfl (by decide) inX0_X0_init (by decide +kernel) tyX0_ok nmX0 rfl rfl rfl rfl rfl (by simp) ?_
  refine V_aload_n hC dX0_init_58 rfl rfl ?_
  refine V_iconst hC 5 dX0_init_59 (by decide) ?_
  refine V_newa (t0 := 0) (atype := .int) (ty := .int) (a0 := (5, .inl (fun _ => 0))) hC dX0_init_60 rfl (by decide +kernel) rfl (fun _ => rfl) (by decide) rfl (Nat.le_of_ble_eq_true rfl) (by decide) (Nat.le_of_ble_eq_true rfl) (fun ad60 had60 => ?_)
  rw [← had60 (c) (by omega), ← had60 (c + 1) (by omega), ← had60 (c + 1 + 1) (by omega), ← had60 (c + 1 + 1 + 1) (by omega), ← had60 (c + 1 + 1 + 1 + 1) (by omega), ← had60 (c + 1 + 1 + 1 + 1 + 1) (by omega), ← had60 (c + 1 + 1 + 1 + 1 + 1 + 1) (by omega)]
  refine V_putF hC hin0 9 dX0_init_62 (by omega) ((va_up_ne _ _ (by omega)).trans (va_up_self _ _ _)) rfl (by decide) inX0_X0_init (by decide +kernel) tyX0_ok nmX0 rfl rfl rfl rfl rfl (by simp) ?_
  refine V_iconst hC 0 dX0_init_65 (by decide) ?_
  refine V_istore_n1 hC dX0_init_66 rfl (by rw [hnl]; decide) rfl ?_
  refine V_f (f2 := zB0 g ad60 f c (lstA [3, 2, 2, 4, 6, 20, 1, 2]) (fun _ => 0) (fun _ => none) 0 (fun _ => 0) (fun _ => 0) 0 (fun _ => 0) 0 (fun _ => 0)) ?_ ?_
  · funext q
    by_cases hq : q < c ∨ c + 8 ≤ q
    · rw [zB0_out (by omega)]
      rw [va_up_ne _ _ (by omega)]
      rw [va_up_ne _ _ (by omega)]
      rw [va_up_ne _ _ (by omega)]
      rw [va_up_ne _ _ (by omega)]
      rw [va_up_ne _ _ (by omega)]
      rw [va_up_ne _ _ (by omega)]
      rw [va_up_ne _ _ (by omega)]
      rw [va_up_ne _ _ (by omega)]
      rw [va_up_ne _ _ (by omega)]
      rw [va_up_ne _ _ (by omega)]
      rw [va_up_ne _ _ (by omega)]
      rw [va_up_ne _ _ (by omega)]
      rw [va_up_ne _ _ (by omega)]
      rw [va_up_ne _ _ (by omega)]
    · rcases (show q = c ∨ q = c + 1 ∨ q = c + 2 ∨ q = c + 3 ∨ q = c + 4 ∨ q = c + 5 ∨ q = c + 6 ∨ q = c + 7 by omega) with rfl | rfl | rfl | rfl | rfl | rfl | rfl | rfl <;> simp [va_up, zB0]
  have q := loop 8 0 ad60 rfl (fun i hi => by rw [had60 i (by omega), had53 i (by omega), had45 i (by omega), had37 i (by omega), had28 i (by omega), had20 i (by omega), had8 i hi])
  rw [zXi_0, bsI_0] at q
  exact q
