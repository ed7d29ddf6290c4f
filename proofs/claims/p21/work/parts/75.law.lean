/-! the law: its end, its loop, its start -/
def LX (E : EV) (g : GE) : Prop := CX E g cL_law wsL_law RL room_1 ∧ eN E = 5 ∧ g.2.2.1 = (eS E).heap.size ∧ ∀ (H : Heap) (ls : Array Slot), W (eP E) (eL E) (eE E) (eR E) (eS E) (eM E) (eA E) (eB E) (eH E) (eC E) H [] 600000 7302250 (eQ E) (F0 (eM E) 108 ls [.int 1])
theorem V_lend {E : EV} {g : GE} {N : Nat} {ad : Nat → Nat} {f : Nat → va_E} {lo : List (Option Value)} (hX : LX E g) : V E g N ad 366 4498 f 108 lo [.int 1] := by
  intro H locs ls hP hD hS hl
  have hz := hX.2.2.1
  refine va_forget (fun q hq => ?_) (W.widen (Nat.le_of_ble_eq_true rfl) (Nat.le_of_ble_eq_true rfl) (hX.2.2.2 H ls))
  have k : g.2.2.1 ≤ q.base := hS.2.2 q hq
  rw [hz] at k
  exact k
set_option maxHeartbeats 4000000 in
set_option maxRecDepth 100000 in
theorem law_loop {E : EV} {g : GE} {ad : Nat → Nat} (hX : LX E g) : ∀ (j i : Nat) (K : Int) (S T : ST) (u : Nat → va_E), i + j = 52 → K = 100 + (i : Int) → LW K i S T → CAt g ad 0 S u → CAt g ad 183 T u → V E g 366 ad 366 4498 u 21 [some (.ref (g.2.2.2 4)), some (.ref (ad 0)), some (.ref (ad 183)), some (.int (1)), some (.int (nI i))] [] := by
  have hC := hX.1
  have hnl := hX.2.1
  have loop : ∀ (j i : Nat) (K : Int) (S T : ST) (u : Nat → va_E), i + j = 52 → K = 100 + (i : Int) → LW K i S T → CAt g ad 0 S u → CAt g ad 183 T u → V E g 366 ad 366 4498 u 21 [some (.ref (g.2.2.2 4)), some (.ref (ad 0)), some (.ref (ad 183)), some (.int (1)), some (.int (nI i))] [] := by
    intro j
    induction j with
    | zero =>
      intro i K S T u hij hK hW hS hT
      have hi : i = 52 := by omega
      subst hi
      obtain ⟨c, hc, hci⟩ := hW.2.2.2.2
      obtain ⟨ol, -, h6, -⟩ := id hS.2.2
      refine V_iload hC dL_law_21 rfl ?_
      refine V_bipush hC 52 dL_law_23 (by decide) ?_
      refine V_icmp_ge_t hC 66 dL_law_25 (by decide) (by decide) ?_
      refine V_iload_n hC dL_law_66 rfl rfl ?_
      refine V_if_eq_f (tgt := 107) hC dL_law_67 (by decide) (by decide) ?_
      refine V_aload_n hC dL_law_70 rfl rfl ?_
      refine V_iconst hC 1 dL_law_71 (by decide) ?_
      refine V_aload_n hC dL_law_72 rfl rfl ?_
      refine V_bipush hC 52 dL_law_73 (by decide) ?_
      refine V_csI (n := 2) hC (c_L_cell g (eL E) (k := 52) (by omega)) dL_law_75 gL_law_L_cell rfl rfl rfl ⟨rfl, rfl⟩ (by decide +kernel) (by decide +kernel) (Nat.le_of_ble_eq_true rfl) ⟨Nat.le_of_ble_eq_true rfl, Nat.le_of_ble_eq_true rfl⟩ (fun x75 u75 h75 => ?_)
      obtain rfl := h75
      refine V_bipush hC 30 dL_law_78 (by decide) ?_
      refine V_csI (n := 2) hC (c_L_up g (eL E) x75 (d := 30) (by decide) (by decide)) dL_law_80 gL_law_L_up rfl rfl rfl ⟨rfl, rfl⟩ (by decide +kernel) (by decide +kernel) (Nat.le_of_ble_eq_true rfl) ⟨Nat.le_of_ble_eq_true rfl, Nat.le_of_ble_eq_true rfl⟩ (fun x80 u80 h80 => ?_)
      obtain ⟨rfl, rfl⟩ := h80
      refine V_iadd hC dL_law_83 ?_
      refine V_eqt (nI (1 + upN x75 30)) (nI_add 1 _) ?_
      refine V_iconst hC 1 dL_law_84 (by decide) ?_
      refine V_aload_n hC dL_law_85 rfl rfl ?_
      refine V_bipush hC 53 dL_law_86 (by decide) ?_
      refine V_csI (n := 2) hC (c_L_cell g (eL E) (k := 53) (by omega)) dL_law_88 gL_law_L_cell rfl rfl rfl ⟨rfl, rfl⟩ (by decide +kernel) (by decide +kernel) (Nat.le_of_ble_eq_true rfl) ⟨Nat.le_of_ble_eq_true rfl, Nat.le_of_ble_eq_true rfl⟩ (fun x88 u88 h88 => ?_)
      obtain rfl := h88
      refine V_bipush hC 30 dL_law_91 (by decide) ?_
      refine V_csI (n := 2) hC (c_L_up g (eL E) x88 (d := 30) (by decide) (by decide)) dL_law_93 gL_law_L_up rfl rfl rfl ⟨rfl, rfl⟩ (by decide +kernel) (by decide +kernel) (Nat.le_of_ble_eq_true rfl) ⟨Nat.le_of_ble_eq_true rfl, Nat.le_of_ble_eq_true rfl⟩ (fun x93 u93 h93 => ?_)
      obtain ⟨rfl, rfl⟩ := h93
      refine V_iadd hC dL_law_96 ?_
      refine V_eqt (nI (1 + upN x88 30)) (nI_add 1 _) ?_
      refine V_csI (n := 3) hC (c_L_isForeseen g (eL E) (by omega) hS hW.1 (by omega) hc (by omega) (by have := hW.2.2.2.1; omega) h6 (a := 1 + upN x75 30) (b := 1 + upN x88 30) (by omega) (by have := upN_lt x75 (d := 30) (by decide); omega) (by omega) (by have := upN_lt x88 (d := 30) (by decide); omega)) dL_law_97 gL_law_L_isForeseen rfl rfl rfl ⟨rfl, rfl⟩ (by decide +kernel) (by decide +kernel) (Nat.le_of_ble_eq_true rfl) ⟨Nat.le_of_ble_eq_true rfl, Nat.le_of_ble_eq_true rfl⟩ (fun x97 u97 h97 => ?_)
      obtain rfl := h97
      refine V_if_eq_f (tgt := 107) hC dL_law_100 (by decide) (by decide) ?_
      refine V_iconst hC 1 dL_law_103 (by decide) ?_
      refine V_goto hC 108 dL_law_104 (by decide) ?_
      exact V_lend hX
    | succ j ih =>
      intro i K S T u hij hK hW hS hT
      refine V_iload hC dL_law_21 rfl ?_
      refine V_bipush hC 52 dL_law_23 (by decide) ?_
      refine V_icmp_ge_f (tgt := 66) hC dL_law_25 (by decide) (nI_ge (a := i) (b := 52) (by omega) (by omega)) ?_
      refine V_iload_n hC dL_law_28 rfl rfl ?_
      refine V_if_eq_f (tgt := 66) hC dL_law_29 (by decide) (by decide) ?_
      refine V_aload_n hC dL_law_32 rfl rfl ?_
      refine V_aload_n hC dL_law_33 rfl rfl ?_
      refine V_aload_n hC dL_law_34 rfl rfl ?_
      refine V_iload hC dL_law_35 rfl ?_
      refine V_csI (n := 2) hC (c_L_cell g (eL E) (k := i) (by omega)) dL_law_37 gL_law_L_cell rfl rfl rfl ⟨rfl, rfl⟩ (by decide +kernel) (by decide +kernel) (Nat.le_of_ble_eq_true rfl) ⟨Nat.le_of_ble_eq_true rfl, Nat.le_of_ble_eq_true rfl⟩ (fun x37 u37 h37 => ?_)
      obtain rfl := h37
      refine V_csI (n := 3) hC (c_L_isStep g (eL E) (by omega) hS hT hW (by omega) (by omega) (by omega) x37) dL_law_40 gL_law_L_isStep rfl rfl rfl ⟨rfl, rfl⟩ (by decide +kernel) (by decide +kernel) (Nat.le_of_ble_eq_true rfl) ⟨Nat.le_of_ble_eq_true rfl, Nat.le_of_ble_eq_true rfl⟩ (fun x40 u40 h40 => ?_)
      obtain ⟨rfl, S2, T2, hW2, hS2, hT2⟩ := h40
      refine V_if_eq_f (tgt := 58) hC dL_law_43 (by decide) (by decide) ?_
      refine V_aload_n hC dL_law_46 rfl rfl ?_
      refine V_aload_n hC dL_law_47 rfl rfl ?_
      refine V_csI (n := 2) hC (c_L_isWell g (eL E) (by omega) hS2 hT2 hW2 (by omega) (by omega)) dL_law_48 gL_law_L_isWell rfl rfl rfl ⟨rfl, rfl⟩ (by decide +kernel) (by decide +kernel) (Nat.le_of_ble_eq_true rfl) ⟨Nat.le_of_ble_eq_true rfl, Nat.le_of_ble_eq_true rfl⟩ (fun x48 u48 h48 => ?_)
      obtain ⟨rfl, rfl⟩ := h48
      refine V_if_eq_f (tgt := 58) hC dL_law_51 (by decide) (by decide) ?_
      refine V_iconst hC 1 dL_law_54 (by decide) ?_
      refine V_goto hC 59 dL_law_55 (by decide) ?_
      refine V_istore_n3 hC dL_law_59 rfl (by rw [hnl]; decide) rfl ?_
      refine V_iinc4 hC (nI (i + 1)) dL_law_60 (nI_1 i) (by rw [hnl]; decide) rfl ?_
      refine V_goto hC 21 dL_law_63 (by decide) ?_
      exact ih (i + 1) (K + 1) S2 T2 _ (by omega) (by omega) hW2 hS2 hT2
  exact loop
theorem bsS_at {k : Nat} {ad ad2 : Nat → Nat} {y : Nat} (he : ∀ q, y ≤ q → q < y + 16 * k → ad2 q = ad q) : bsS k ad2 y = bsS k ad y := by
  funext j
  unfold bsS
  split
  · rw [he (y + 16 * j) (by omega) (by omega)]
  · rfl
theorem C0.go {g : GE} {ad ad2 : Nat → Nat} {o : Nat} {u v : Nat → va_E} (h : C0 g ad o u) (he : ∀ q, o ≤ q → q < o + 183 → ad2 q = ad q) (hv : ∀ q, o ≤ q → q < o + 183 → v q = u q) : C0 g ad2 o v := by
  obtain ⟨h1, h2, h3, h4, h5, h6, h7, h8, h9, h10⟩ := h
  refine ⟨?_, h2.go (fun q a b => he q (by omega) (by omega)) (fun q a b => hv q (by omega) (by omega)), h3.go (fun q a b => he q (by omega) (by omega)) (fun q a b => hv q (by omega) (by omega)), h4.go (fun q a b => he q (by omega) (by omega)) (fun q a b => hv q (by omega) (by omega)), ?_, h6.go (fun q a b => he q (by omega) (by omega)) (fun q a b => hv q (by omega) (by omega)), h7.go (fun q a b => he q (by omega) (by omega)) (fun q a b => hv q (by omega) (by omega)), (hv _ (by omega) (by omega)).trans h8, ?_, (hv _ (by omega) (by omega)).trans h10⟩
  · rw [hv o (by omega) (by omega), h1, he (o + 1) (by omega) (by omega), he (o + 17) (by omega) (by omega), he (o + 33) (by omega) (by omega), he (o + 147) (by omega) (by omega), he (o + 180) (by omega) (by omega), he (o + 181) (by omega) (by omega)]
  · rw [hv _ (by omega) (by omega), h5, bsS_at fun q a b => he q (by omega) (by omega)]
  · rw [hv _ (by omega) (by omega), h9, he (o + 182) (by omega) (by omega)]
/-- no call, nothing counted -/
theorem cnt_zero : cntC (fun _ => 0) S0.1 := ⟨fun k k1 k2 => by
  show h0M k = nI 0
  unfold h0M
  rw [pk_un (by omega), pk_un (by omega), pk_un (by omega), pk_un (by omega), pk_un (by omega), pk_un (by omega), pk_un (by omega), pk_un (by omega), pk_un (by omega)]
  rfl, rfl, rfl, ⟨fun x hx => (by cases hx), Nat.zero_le _, Nat.zero_le _⟩, List.Pairwise.nil, fun x hx => (by cases hx)⟩
theorem LW_zero : LW 100 0 S0 S0 := ⟨goodS.zero, goodS.zero, rfl, (by decide), _, cnt_zero, Nat.zero_le _⟩
set_option maxHeartbeats 4000000 in
set_option maxRecDepth 100000 in
theorem law_from {E : EV} {g : GE} {ad : Nat → Nat} {f : Nat → va_E} (hX : LX E g) : V E g 0 ad 0 0 f 0 [some (.ref (g.2.2.2 4)), none, none, none, none] [] := by
  have hC := hX.1
  have hnl := hX.2.1
  refine V_new (ci := 4) (fs := [.null, .null, .null, .null, .null, .null]) hC tyX4 tyX4_ok dL_law_0 inlX4 (by decide +kernel) (by decide +kernel) (by decide +kernel) rfl (fun j hj => by rcases (show j = 0 ∨ j = 1 ∨ j = 2 ∨ j = 3 ∨ j = 4 ∨ j = 5 by omega) with rfl | rfl | rfl | rfl | rfl | rfl <;> rfl) (Nat.le_of_ble_eq_true rfl) (Nat.le_of_ble_eq_true rfl) (fun ad1 had1 => ?_)
  refine V_dup hC dL_law_3 rfl ?_
  refine V_ci (rest := [.ref (ad1 0)]) hC (c_X4_init g (eL E) (ad := ad1) (o := 0) (va_up_self _ _ _)) dL_law_4 gL_law_X4_init (by decide +kernel) (by decide +kernel) (by decide +kernel) rfl rfl rfl ⟨rfl, rfl⟩ (by decide +kernel) (by decide +kernel) (Nat.le_of_ble_eq_true rfl) ⟨Nat.le_of_ble_eq_true rfl, Nat.le_of_ble_eq_true rfl⟩ (fun N2 ad2 u2 had2 h2 => ?_)
  obtain ⟨rfl, b2, w2⟩ := h2
  rw [← had2 0 (by omega)]
  refine V_astore_n1 hC dL_law_7 rfl (by rw [hnl]; decide) rfl ?_
  refine V_new (ci := 4) (fs := [.null, .null, .null, .null, .null, .null]) hC tyX4 tyX4_ok dL_law_8 inlX4 (by decide +kernel) (by decide +kernel) (by decide +kernel) rfl (fun j hj => by rcases (show j = 0 ∨ j = 1 ∨ j = 2 ∨ j = 3 ∨ j = 4 ∨ j = 5 by omega) with rfl | rfl | rfl | rfl | rfl | rfl <;> rfl) (Nat.le_of_ble_eq_true rfl) (Nat.le_of_ble_eq_true rfl) (fun ad3 had3 => ?_)
  rw [← had3 0 (by omega)]
  refine V_dup hC dL_law_11 rfl ?_
  refine V_ci (rest := [.ref (ad3 (0 + 183))]) hC (c_X4_init g (eL E) (ad := ad3) (o := 0 + 183) (va_up_self _ _ _)) dL_law_12 gL_law_X4_init (by decide +kernel) (by decide +kernel) (by decide +kernel) rfl rfl rfl ⟨rfl, rfl⟩ (by decide +kernel) (by decide +kernel) (Nat.le_of_ble_eq_true rfl) ⟨Nat.le_of_ble_eq_true rfl, Nat.le_of_ble_eq_true rfl⟩ (fun N4 ad4 u4 had4 h5 => ?_)
  obtain ⟨rfl, b4, w4⟩ := h5
  rw [← had4 0 (by omega), ← had4 (0 + 183) (by omega)]
  refine V_astore_n2 hC dL_law_15 rfl (by rw [hnl]; decide) rfl ?_
  refine V_iconst hC 1 dL_law_16 (by decide) ?_
  refine V_istore_n3 hC dL_law_17 rfl (by rw [hnl]; decide) rfl ?_
  refine V_iconst hC (nI 0) dL_law_18 (by decide) ?_
  refine V_istore4 hC dL_law_19 (by rw [hnl]; decide) rfl ?_
  have hc : C0 g ad4 0 u4 := b2.go (fun q a b => (had4 q (by omega)).trans (had3 q (by omega))) (fun q a b => (w4 q (by omega)).trans (va_up_ne _ _ (by omega)))
  refine V_C0 (o := 0) (by omega) hc fun v hv he => ?_
  have hc2 : C0 g ad4 (0 + 183) v := b4.go (fun q a b => rfl) (fun q a b => he q (by omega))
  refine V_C0 (o := 0 + 183) (by omega) hc2 fun v2 hv2 he2 => ?_
  exact law_loop hX 52 0 100 S0 S0 v2 rfl rfl LW_zero (hv.keep fun q a b => he2 q (by omega)) hv2
