/-- the world u has at o the class's object, its slots and its pad, and a belt to try things on -/
def CR (g : GE) (ad : Nat → Nat) (o : Nat) (sl : Nat → Option MT) (pd : List Int32) (u : Nat → va_E) : Prop := u o = .inr (4, [.ref (ad (o + 1)), .ref (ad (o + 17)), .ref (ad (o + 33)), .ref (ad (o + 147)), .ref (ad (o + 180)), .ref (ad (o + 181))]) ∧ (∃ m, BAt g ad (o + 17) m u) ∧ u (o + 147) = .inl (g.2.1 3, 2, .inr (.inr (.inr (.inr (fun k => some (ad (o + 148 + 16 * k))))))) ∧ (∃ sv : Nat → Int32, u (o + 180) = .inl (g.2.1 2, 2, .inl sv) ∧ ∀ k, k < 2 → ∃ m, BAt g ad (o + 148 + 16 * k) m u ∧ ((sl k = none ∧ sv k = 0) ∨ (sl k = some m ∧ sv k = 1))) ∧ ∃ sg : Nat → Int32, u (o + 181) = .inr (3, [.ref (ad (o + 182)), .int (nI pd.length)]) ∧ u (o + 182) = .inl (g.2.1 1, 60, .inl sg) ∧ rPad sg (nI pd.length) pd
def CAt (g : GE) (ad : Nat → Nat) (o : Nat) (S : ST) (u : Nat → va_E) : Prop := CR g ad o S.2.2.1 S.2.2.2 u ∧ BAt g ad (o + 1) S.1 u ∧ YAt g ad (o + 33) S.2.1 u
theorem CR.keep {g : GE} {ad : Nat → Nat} {o : Nat} {sl : Nat → Option MT} {pd : List Int32} {u v : Nat → va_E} (h : CR g ad o sl pd u) (he : ∀ q, (q = o ∨ (o + 17 ≤ q ∧ q < o + 33) ∨ (o + 147 ≤ q ∧ q < o + 183)) → v q = u q) : CR g ad o sl pd v := by
  obtain ⟨h1, ⟨m, hm⟩, h3, ⟨sv, h4, h5⟩, sg, h6, h7, h8⟩ := h
  refine ⟨(he _ (by omega)).trans h1, ⟨m, hm.keep fun q a b => he q (by omega)⟩, (he _ (by omega)).trans h3, ⟨sv, (he _ (by omega)).trans h4, fun k hk => ?_⟩, sg, (he _ (by omega)).trans h6, (he _ (by omega)).trans h7, h8⟩
  obtain ⟨m, q1, q2⟩ := h5 k hk
  exact ⟨m, q1.keep fun q a b => he q (by omega), q2⟩
theorem inX2_X4_recorded : ∀ w ∈ wsX20, w ∈ wsX4_recorded := by decide +kernel
theorem inX4_X4_recorded : ∀ w ∈ wsX40, w ∈ wsX4_recorded := by decide +kernel
abbrev rmX4_recorded : Room := { frames := 2, cells := 0, slots := 0, locals := 42 }
set_option maxHeartbeats 4000000 in
set_option maxRecDepth 100000 in
theorem c_X4_recorded (g : GE) (lau : Launch) {N : Nat} {ad : Nat → Nat} {f : Nat → va_E} {o : Nat} (hN : o + 183 ≤ N) (ho : f o = .inr (4, [.ref (ad (o + 1)), .ref (ad (o + 17)), .ref (ad (o + 33)), .ref (ad (o + 147)), .ref (ad (o + 180)), .ref (ad (o + 181))])) {hi : List MT} {mk : MT} (hH : YN g ad (o + 33) hi mk f) (r : Int32) : Ct g lau yX4_recorded wsX4_recorded rmX4_recorded N ad [.ref (ad o), .int (r)] f (pI N ad (fun x u => x = r ∧ YAt g ad (o + 33) (if r < 0 then hi else pushH hi mk) u ∧ ∀ q, q < o + 33 ∨ o + 147 ≤ q → u q = f q)) 0 0 := by
  refine Ct.of (maxL := 2) rfl (by decide +kernel) [some (.ref (ad o)), some (.int (r))] (Nat.le_of_ble_eq_true rfl) (by simp [lvo, lv_args, Value.category]) (fun E hnl _ hC hR => ?_)
  have hYo : ∃ fs, f (o + 33) = .inr (2, fs) := by obtain ⟨ol, -, -, hY, -⟩ := hH; exact ⟨_, hY.1⟩
  obtain ⟨fs, hYo⟩ := hYo
  refine V_iload_n hC dX4_recorded_0 rfl rfl ?_
  refine V_if_lt hC 11 dX4_recorded_1 (by decide) (fun c1 => ?_) (fun c1 => ?_)
  · refine V_iload_n hC dX4_recorded_11 rfl rfl ?_
    refine V_iret hC hR dX4_recorded_12 ⟨rfl, rfl, _, rfl, ?_⟩
    first | exact ⟨rfl, by rw [if_pos c1]; exact hH.at, fun q hq => rfl⟩ | exact ⟨rfl, by rw [if_neg c1]; exact k1, fun q hq => k2 q (by omega)⟩
  · refine V_aload_n hC dX4_recorded_4 rfl rfl ?_
    refine V_get hC 2 dX4_recorded_5 (by omega) ho rfl (by decide) inX4_X4_recorded (by decide +kernel) rfl ?_
    refine V_cvV (n := 0) hC (c_X2_keepNoted g (eL E) (y := o + 33) (by omega) hH) dX4_recorded_8 gX4_recorded_X2_keepNoted rfl rfl rfl ⟨rfl, rfl⟩ (by decide +kernel) (by decide +kernel) (by omega) hYo rfl (Nat.le_of_ble_eq_true rfl) (by decide) (fun u8 h8 => ?_)
    obtain ⟨k1, k2⟩ := h8
    refine V_iload_n hC dX4_recorded_11 rfl rfl ?_
    refine V_iret hC hR dX4_recorded_12 ⟨rfl, rfl, _, rfl, ?_⟩
    first | exact ⟨rfl, by rw [if_pos c1]; exact hH.at, fun q hq => rfl⟩ | exact ⟨rfl, by rw [if_neg c1]; exact k1, fun q hq => k2 q (by omega)⟩
theorem inX0_X4_set : ∀ w ∈ wsX00, w ∈ wsX4_set := by decide +kernel
theorem inX1_X4_set : ∀ w ∈ wsX10, w ∈ wsX4_set := by decide +kernel
theorem inX2_X4_set : ∀ w ∈ wsX20, w ∈ wsX4_set := by decide +kernel
theorem inX4_X4_set : ∀ w ∈ wsX40, w ∈ wsX4_set := by decide +kernel
abbrev rmX4_set : Room := { frames := 3, cells := 0, slots := 0, locals := 83 }
set_option maxHeartbeats 4000000 in
set_option maxRecDepth 100000 in
theorem c_X4_set (g : GE) (lau : Launch) {N : Nat} {ad : Nat → Nat} {f : Nat → va_E} {o : Nat} (hN : o + 183 ≤ N) {S : ST} (hS : CAt g ad o S f) (k : Int32) (v : Int32) : Ct g lau yX4_set wsX4_set rmX4_set N ad [.ref (ad o), .int (k), .int (v)] f (pI N ad (fun x u => x = (sChange (mSet k v S.1) S).1 ∧ CAt g ad o (sChange (mSet k v S.1) S).2 u ∧ ∀ q, q < o ∨ o + 183 ≤ q → u q = f q)) 0 0 := by
  refine Ct.of (maxL := 3) rfl (by decide +kernel) [some (.ref (ad o)), some (.int (k)), some (.int (v))] (Nat.le_of_ble_eq_true rfl) (by simp [lvo, lv_args, Value.category]) (fun E hnl _ hC hR => ?_)
  have hYo : ∃ fs, f (o + 33) = .inr (2, fs) := by obtain ⟨ol, -, -, hY, -⟩ := hS.2.2; exact ⟨_, hY.1⟩
  obtain ⟨fs, hYo⟩ := hYo
  refine V_aload_n hC dX4_set_0 rfl rfl ?_
  refine V_get hC 2 dX4_set_1 (by omega) hS.1.1 rfl (by decide) inX4_X4_set (by decide +kernel) rfl ?_
  refine V_aload_n hC dX4_set_4 rfl rfl ?_
  refine V_get hC 0 dX4_set_5 (by omega) hS.1.1 rfl (by decide) inX4_X4_set (by decide +kernel) rfl ?_
  refine V_cvV (n := 1) hC (c_X2_note g (eL E) (y := o + 33) (by omega) hS.2.2 (c := o + 1) (by omega) (by omega) hS.2.1) dX4_set_8 gX4_set_X2_note rfl rfl rfl ⟨rfl, rfl⟩ (by decide +kernel) (by decide +kernel) (by omega) hYo rfl (Nat.le_of_ble_eq_true rfl) (by decide) (fun u8 h8 => ?_)
  obtain ⟨n1, n2⟩ := h8
  have eo := (n2 o (by omega)).trans hS.1.1
  obtain ⟨s, t, p, bc, co, ex, rc, pl, pn, wy, gx, hB, hm⟩ := hS.2.1.keep (v := u8) fun q a b => n2 q (by omega)
  refine V_aload_n hC dX4_set_11 rfl rfl ?_
  refine V_aload_n hC dX4_set_12 rfl rfl ?_
  refine V_get hC 0 dX4_set_13 (by omega) eo rfl (by decide) inX4_X4_set (by decide +kernel) rfl ?_
  refine V_iload_n hC dX4_set_16 rfl rfl ?_
  refine V_iload_n hC dX4_set_17 rfl rfl ?_
  refine V_f hB.self ?_
  refine V_cvI (n := 2) hC (c_X0_choose g (eL E) (f := u8) (c := o + 1) (by omega) hm k v) dX4_set_18 gX4_set_X0_choose rfl rfl rfl ⟨rfl, rfl⟩ (by decide +kernel) (by decide +kernel) (by omega) zB_0 rfl (Nat.le_of_ble_eq_true rfl) (by decide) (fun x18 u18 h18 => ?_)
  obtain ⟨rfl, hu⟩ := h18
  obtain ⟨b1, b2⟩ := BIs.at hu
  have eo2 := (b2 o (by omega)).trans eo
  have hH2 := n1.keep (v := u18) fun q a b => b2 q (by omega)
  refine V_cvI (n := 1) hC (c_X4_recorded g (eL E) (o := o) hN eo2 hH2 _) dX4_set_21 gX4_set_X4_recorded rfl rfl rfl ⟨rfl, rfl⟩ (by decide +kernel) (by decide +kernel) (by omega) eo2 rfl (Nat.le_of_ble_eq_true rfl) (by decide) (fun x21 u21 h21 => ?_)
  obtain ⟨rfl, r1, r2⟩ := h21
  refine V_iret hC hR dX4_set_24 ⟨rfl, rfl, _, rfl, ?_⟩
  exact ⟨rfl, ⟨hS.1.keep fun q hq => (r2 q (by omega)).trans ((b2 q (by omega)).trans (n2 q (by omega))), b1.keep fun q a b => r2 q (by omega), r1⟩, fun q hq => (r2 q (by omega)).trans ((b2 q (by omega)).trans (n2 q (by omega)))⟩
theorem inX0_X4_arrive : ∀ w ∈ wsX00, w ∈ wsX4_arrive := by decide +kernel
theorem inX1_X4_arrive : ∀ w ∈ wsX10, w ∈ wsX4_arrive := by decide +kernel
theorem inX2_X4_arrive : ∀ w ∈ wsX20, w ∈ wsX4_arrive := by decide +kernel
theorem inX4_X4_arrive : ∀ w ∈ wsX40, w ∈ wsX4_arrive := by decide +kernel
abbrev rmX4_arrive : Room := { frames := 3, cells := 0, slots := 0, locals := 83 }
set_option maxHeartbeats 4000000 in
set_option maxRecDepth 100000 in
theorem c_X4_arrive (g : GE) (lau : Launch) {N : Nat} {ad : Nat → Nat} {f : Nat → va_E} {o : Nat} (hN : o + 183 ≤ N) {S : ST} (hS : CAt g ad o S f) (v : Int32) : Ct g lau yX4_arrive wsX4_arrive rmX4_arrive N ad [.ref (ad o), .int (v)] f (pI N ad (fun x u => x = (sChange (mArrive v S.1) S).1 ∧ CAt g ad o (sChange (mArrive v S.1) S).2 u ∧ ∀ q, q < o ∨ o + 183 ≤ q → u q = f q)) 0 0 := by
  refine Ct.of (maxL := 2) rfl (by decide +kernel) [some (.ref (ad o)), some (.int (v))] (Nat.le_of_ble_eq_true rfl) (by simp [lvo, lv_args, Value.category]) (fun E hnl _ hC hR => ?_)
  have hYo : ∃ fs, f (o + 33) = .inr (2, fs) := by obtain ⟨ol, -, -, hY, -⟩ := hS.2.2; exact ⟨_, hY.1⟩
  obtain ⟨fs, hYo⟩ := hYo
  refine V_aload_n hC dX4_arrive_0 rfl rfl ?_
  refine V_get hC 2 dX4_arrive_1 (by omega) hS.1.1 rfl (by decide) inX4_X4_arrive (by decide +kernel) rfl ?_
  refine V_aload_n hC dX4_arrive_4 rfl rfl ?_
  refine V_get hC 0 dX4_arrive_5 (by omega) hS.1.1 rfl (by decide) inX4_X4_arrive (by decide +kernel) rfl ?_
  refine V_cvV (n := 1) hC (c_X2_note g (eL E) (y := o + 33) (by omega) hS.2.2 (c := o + 1) (by omega) (by omega) hS.2.1) dX4_arrive_8 gX4_arrive_X2_note rfl rfl rfl ⟨rfl, rfl⟩ (by decide +kernel) (by decide +kernel) (by omega) hYo rfl (Nat.le_of_ble_eq_true rfl) (by decide) (fun u8 h8 => ?_)
  obtain ⟨n1, n2⟩ := h8
  have eo := (n2 o (by omega)).trans hS.1.1
  obtain ⟨s, t, p, bc, co, ex, rc, pl, pn, wy, gx, hB, hm⟩ := hS.2.1.keep (v := u8) fun q a b => n2 q (by omega)
  refine V_aload_n hC dX4_arrive_11 rfl rfl ?_
  refine V_aload_n hC dX4_arrive_12 rfl rfl ?_
  refine V_get hC 0 dX4_arrive_13 (by omega) eo rfl (by decide) inX4_X4_arrive (by decide +kernel) rfl ?_
  refine V_iload_n hC dX4_arrive_16 rfl rfl ?_
  refine V_f hB.self ?_
  refine V_cvI (n := 1) hC (c_X0_takeBox g (eL E) (f := u8) (c := o + 1) (by omega) hm v) dX4_arrive_17 gX4_arrive_X0_takeBox rfl rfl rfl ⟨rfl, rfl⟩ (by decide +kernel) (by decide +kernel) (by omega) zB_0 rfl (Nat.le_of_ble_eq_true rfl) (by decide) (fun x17 u17 h17 => ?_)
  obtain ⟨rfl, hu⟩ := h17
  obtain ⟨b1, b2⟩ := BIs.at hu
  have eo2 := (b2 o (by omega)).trans eo
  have hH2 := n1.keep (v := u17) fun q a b => b2 q (by omega)
  refine V_cvI (n := 1) hC (c_X4_recorded g (eL E) (o := o) hN eo2 hH2 _) dX4_arrive_20 gX4_arrive_X4_recorded rfl rfl rfl ⟨rfl, rfl⟩ (by decide +kernel) (by decide +kernel) (by omega) eo2 rfl (Nat.le_of_ble_eq_true rfl) (by decide) (fun x20 u20 h20 => ?_)
  obtain ⟨rfl, r1, r2⟩ := h20
  refine V_iret hC hR dX4_arrive_23 ⟨rfl, rfl, _, rfl, ?_⟩
  exact ⟨rfl, ⟨hS.1.keep fun q hq => (r2 q (by omega)).trans ((b2 q (by omega)).trans (n2 q (by omega))), b1.keep fun q a b => r2 q (by omega), r1⟩, fun q hq => (r2 q (by omega)).trans ((b2 q (by omega)).trans (n2 q (by omega)))⟩
theorem inX0_X4_turn : ∀ w ∈ wsX00, w ∈ wsX4_turn := by decide +kernel
theorem inX1_X4_turn : ∀ w ∈ wsX10, w ∈ wsX4_turn := by decide +kernel
theorem inX2_X4_turn : ∀ w ∈ wsX20, w ∈ wsX4_turn := by decide +kernel
theorem inX4_X4_turn : ∀ w ∈ wsX40, w ∈ wsX4_turn := by decide +kernel
abbrev rmX4_turn : Room := { frames := 3, cells := 0, slots := 0, locals := 83 }
set_option maxHeartbeats 4000000 in
set_option maxRecDepth 100000 in
theorem c_X4_turn (g : GE) (lau : Launch) {N : Nat} {ad : Nat → Nat} {f : Nat → va_E} {o : Nat} (hN : o + 183 ≤ N) {S : ST} (hS : CAt g ad o S f) (k : Int32) (v : Int32) (hlen : ∀ x ∈ S.1.2.1, okLen (x 1) = true) : Ct g lau yX4_turn wsX4_turn rmX4_turn N ad [.ref (ad o), .int (k), .int (v)] f (pI N ad (fun x u => x = (sChange (mTurn k v S.1) S).1 ∧ CAt g ad o (sChange (mTurn k v S.1) S).2 u ∧ ∀ q, q < o ∨ o + 183 ≤ q → u q = f q)) 0 0 := by
  refine Ct.of (maxL := 3) rfl (by decide +kernel) [some (.ref (ad o)), some (.int (k)), some (.int (v))] (Nat.le_of_ble_eq_true rfl) (by simp [lvo, lv_args, Value.category]) (fun E hnl _ hC hR => ?_)
  have hYo : ∃ fs, f (o + 33) = .inr (2, fs) := by obtain ⟨ol, -, -, hY, -⟩ := hS.2.2; exact ⟨_, hY.1⟩
  obtain ⟨fs, hYo⟩ := hYo
  refine V_aload_n hC dX4_turn_0 rfl rfl ?_
  refine V_get hC 2 dX4_turn_1 (by omega) hS.1.1 rfl (by decide) inX4_X4_turn (by decide +kernel) rfl ?_
  refine V_aload_n hC dX4_turn_4 rfl rfl ?_
  refine V_get hC 0 dX4_turn_5 (by omega) hS.1.1 rfl (by decide) inX4_X4_turn (by decide +kernel) rfl ?_
  refine V_cvV (n := 1) hC (c_X2_note g (eL E) (y := o + 33) (by omega) hS.2.2 (c := o + 1) (by omega) (by omega) hS.2.1) dX4_turn_8 gX4_turn_X2_note rfl rfl rfl ⟨rfl, rfl⟩ (by decide +kernel) (by decide +kernel) (by omega) hYo rfl (Nat.le_of_ble_eq_true rfl) (by decide) (fun u8 h8 => ?_)
  obtain ⟨n1, n2⟩ := h8
  have eo := (n2 o (by omega)).trans hS.1.1
  obtain ⟨s, t, p, bc, co, ex, rc, pl, pn, wy, gx, hB, hm⟩ := hS.2.1.keep (v := u8) fun q a b => n2 q (by omega)
  refine V_aload_n hC dX4_turn_11 rfl rfl ?_
  refine V_aload_n hC dX4_turn_12 rfl rfl ?_
  refine V_get hC 0 dX4_turn_13 (by omega) eo rfl (by decide) inX4_X4_turn (by decide +kernel) rfl ?_
  refine V_iload_n hC dX4_turn_16 rfl rfl ?_
  refine V_iload_n hC dX4_turn_17 rfl rfl ?_
  refine V_f hB.self ?_
  refine V_cvI (n := 2) hC (c_X0_turnBox g (eL E) (f := u8) (c := o + 1) (by omega) hm k v hlen) dX4_turn_18 gX4_turn_X0_turnBox rfl rfl rfl ⟨rfl, rfl⟩ (by decide +kernel) (by decide +kernel) (by omega) zB_0 rfl (Nat.le_of_ble_eq_true rfl) (by decide) (fun x18 u18 h18 => ?_)
  obtain ⟨rfl, hu⟩ := h18
  obtain ⟨b1, b2⟩ := BIs.at hu
  have eo2 := (b2 o (by omega)).trans eo
  have hH2 := n1.keep (v := u18) fun q a b => b2 q (by omega)
  refine V_cvI (n := 1) hC (c_X4_recorded g (eL E) (o := o) hN eo2 hH2 _) dX4_turn_21 gX4_turn_X4_recorded rfl rfl rfl ⟨rfl, rfl⟩ (by decide +kernel) (by decide +kernel) (by omega) eo2 rfl (Nat.le_of_ble_eq_true rfl) (by decide) (fun x21 u21 h21 => ?_)
  obtain ⟨rfl, r1, r2⟩ := h21
  refine V_iret hC hR dX4_turn_24 ⟨rfl, rfl, _, rfl, ?_⟩
  exact ⟨rfl, ⟨hS.1.keep fun q hq => (r2 q (by omega)).trans ((b2 q (by omega)).trans (n2 q (by omega))), b1.keep fun q a b => r2 q (by omega), r1⟩, fun q hq => (r2 q (by omega)).trans ((b2 q (by omega)).trans (n2 q (by omega)))⟩
theorem inX0_X4_pass : ∀ w ∈ wsX00, w ∈ wsX4_pass := by decide +kernel
theorem inX1_X4_pass : ∀ w ∈ wsX10, w ∈ wsX4_pass := by decide +kernel
theorem inX2_X4_pass : ∀ w ∈ wsX20, w ∈ wsX4_pass := by decide +kernel
theorem inX4_X4_pass : ∀ w ∈ wsX40, w ∈ wsX4_pass := by decide +kernel
abbrev rmX4_pass : Room := { frames := 5, cells := 0, slots := 0, locals := 129 }
set_option maxHeartbeats 4000000 in
set_option maxRecDepth 100000 in
theorem c_X4_pass (g : GE) (lau : Launch) {N : Nat} {ad : Nat → Nat} {f : Nat → va_E} {o : Nat} (hN : o + 183 ≤ N) {S : ST} (hS : CAt g ad o S f) (v : Int32) (hok : ∀ n, n ≤ 99 → TicksOK n S.1) (hmk : MarkOK S.1) : Ct g lau yX4_pass wsX4_pass rmX4_pass N ad [.ref (ad o), .int (v)] f (pI N ad (fun x u => x = (sChange (mPass v S.1) S).1 ∧ CAt g ad o (sChange (mPass v S.1) S).2 u ∧ ∀ q, q < o ∨ o + 183 ≤ q → u q = f q)) 0 0 := by
  refine Ct.of (maxL := 2) rfl (by decide +kernel) [some (.ref (ad o)), some (.int (v))] (Nat.le_of_ble_eq_true rfl) (by simp [lvo, lv_args, Value.category]) (fun E hnl _ hC hR => ?_)
  have hYo : ∃ fs, f (o + 33) = .inr (2, fs) := by obtain ⟨ol, -, -, hY, -⟩ := hS.2.2; exact ⟨_, hY.1⟩
  obtain ⟨fs, hYo⟩ := hYo
  refine V_aload_n hC dX4_pass_0 rfl rfl ?_
  refine V_get hC 2 dX4_pass_1 (by omega) hS.1.1 rfl (by decide) inX4_X4_pass (by decide +kernel) rfl ?_
  refine V_aload_n hC dX4_pass_4 rfl rfl ?_
  refine V_get hC 0 dX4_pass_5 (by omega) hS.1.1 rfl (by decide) inX4_X4_pass (by decide +kernel) rfl ?_
  refine V_cvV (n := 1) hC (c_X2_note g (eL E) (y := o + 33) (by omega) hS.2.2 (c := o + 1) (by omega) (by omega) hS.2.1) dX4_pass_8 gX4_pass_X2_note rfl rfl rfl ⟨rfl, rfl⟩ (by decide +kernel) (by decide +kernel) (by omega) hYo rfl (Nat.le_of_ble_eq_true rfl) (by decide) (fun u8 h8 => ?_)
  obtain ⟨n1, n2⟩ := h8
  have eo := (n2 o (by omega)).trans hS.1.1
  obtain ⟨s, t, p, bc, co, ex, rc, pl, pn, wy, gx, hB, hm⟩ := hS.2.1.keep (v := u8) fun q a b => n2 q (by omega)
  refine V_aload_n hC dX4_pass_11 rfl rfl ?_
  refine V_aload_n hC dX4_pass_12 rfl rfl ?_
  refine V_get hC 0 dX4_pass_13 (by omega) eo rfl (by decide) inX4_X4_pass (by decide +kernel) rfl ?_
  refine V_iload_n hC dX4_pass_16 rfl rfl ?_
  refine V_f hB.self ?_
  refine V_cvI (n := 1) hC (c_X0_letPass g (eL E) (f := u8) (c := o + 1) (by omega) hm v hok hmk) dX4_pass_17 gX4_pass_X0_letPass rfl rfl rfl ⟨rfl, rfl⟩ (by decide +kernel) (by decide +kernel) (by omega) zB_0 rfl (Nat.le_of_ble_eq_true rfl) (by decide) (fun x17 u17 h17 => ?_)
  obtain ⟨rfl, hu⟩ := h17
  obtain ⟨b1, b2⟩ := BIs.at hu
  have eo2 := (b2 o (by omega)).trans eo
  have hH2 := n1.keep (v := u17) fun q a b => b2 q (by omega)
  refine V_cvI (n := 1) hC (c_X4_recorded g (eL E) (o := o) hN eo2 hH2 _) dX4_pass_20 gX4_pass_X4_recorded rfl rfl rfl ⟨rfl, rfl⟩ (by decide +kernel) (by decide +kernel) (by omega) eo2 rfl (Nat.le_of_ble_eq_true rfl) (by decide) (fun x20 u20 h20 => ?_)
  obtain ⟨rfl, r1, r2⟩ := h20
  refine V_iret hC hR dX4_pass_23 ⟨rfl, rfl, _, rfl, ?_⟩
  exact ⟨rfl, ⟨hS.1.keep fun q hq => (r2 q (by omega)).trans ((b2 q (by omega)).trans (n2 q (by omega))), b1.keep fun q a b => r2 q (by omega), r1⟩, fun q hq => (r2 q (by omega)).trans ((b2 q (by omega)).trans (n2 q (by omega)))⟩
theorem inX0_X4_box : ∀ w ∈ wsX00, w ∈ wsX4_box := by decide +kernel
theorem inX1_X4_box : ∀ w ∈ wsX10, w ∈ wsX4_box := by decide +kernel
theorem inX4_X4_box : ∀ w ∈ wsX40, w ∈ wsX4_box := by decide +kernel
abbrev rmX4_box : Room := { frames := 2, cells := 0, slots := 0, locals := 43 }
set_option maxHeartbeats 4000000 in
set_option maxRecDepth 100000 in
theorem c_X4_box (g : GE) (lau : Launch) {N : Nat} {ad : Nat → Nat} {f : Nat → va_E} {o : Nat} (hN : o + 183 ≤ N) {S : ST} (hS : CAt g ad o S f) (v : Int32) (w : Int32) : Ct g lau yX4_box wsX4_box rmX4_box N ad [.ref (ad o), .int (v), .int (w)] f (pI N ad (fun x u => x = mBox v w S.1 ∧ u = f)) 0 0 := by
  refine Ct.of (maxL := 3) rfl (by decide +kernel) [some (.ref (ad o)), some (.int (v)), some (.int (w))] (Nat.le_of_ble_eq_true rfl) (by simp [lvo, lv_args, Value.category]) (fun E hnl _ hC hR => ?_)
  obtain ⟨s, t, p, bc, co, ex, rc, pl, pn, wy, gx, hB, hm⟩ := hS.2.1
  refine V_aload_n hC dX4_box_0 rfl rfl ?_
  refine V_get hC 0 dX4_box_1 (by omega) hS.1.1 rfl (by decide) inX4_X4_box (by decide +kernel) rfl ?_
  refine V_iload_n hC dX4_box_4 rfl rfl ?_
  refine V_iload_n hC dX4_box_5 rfl rfl ?_
  refine V_f hB.self ?_
  refine V_cvI (n := 2) hC (c_X0_aboutBox g (eL E) (f := f) (c := o + 1) (by omega) hm v w) dX4_box_6 gX4_box_X0_aboutBox rfl rfl rfl ⟨rfl, rfl⟩ (by decide +kernel) (by decide +kernel) (by omega) zB_0 rfl (Nat.le_of_ble_eq_true rfl) (by decide) (fun x6 u6 h6 => ?_)
  obtain ⟨rfl, rfl⟩ := h6
  refine V_f hB.self.symm ?_
  refine V_iret hC hR dX4_box_9 ⟨rfl, rfl, _, rfl, ?_⟩
  exact ⟨rfl, rfl⟩
theorem inX0_X4_plan : ∀ w ∈ wsX00, w ∈ wsX4_plan := by decide +kernel
theorem inX4_X4_plan : ∀ w ∈ wsX40, w ∈ wsX4_plan := by decide +kernel
abbrev rmX4_plan : Room := { frames := 1, cells := 0, slots := 0, locals := 21 }
set_option maxHeartbeats 4000000 in
set_option maxRecDepth 100000 in
theorem c_X4_plan (g : GE) (lau : Launch) {N : Nat} {ad : Nat → Nat} {f : Nat → va_E} {o : Nat} (hN : o + 183 ≤ N) {S : ST} (hS : CAt g ad o S f) (v : Int32) : Ct g lau yX4_plan wsX4_plan rmX4_plan N ad [.ref (ad o), .int (v)] f (pI N ad (fun x u => x = mPlan v S.1 ∧ u = f)) 0 0 := by
  refine Ct.of (maxL := 2) rfl (by decide +kernel) [some (.ref (ad o)), some (.int (v))] (Nat.le_of_ble_eq_true rfl) (by simp [lvo, lv_args, Value.category]) (fun E hnl _ hC hR => ?_)
  obtain ⟨s, t, p, bc, co, ex, rc, pl, pn, wy, gx, hB, hm⟩ := hS.2.1
  refine V_aload_n hC dX4_plan_0 rfl rfl ?_
  refine V_get hC 0 dX4_plan_1 (by omega) hS.1.1 rfl (by decide) inX4_X4_plan (by decide +kernel) rfl ?_
  refine V_iload_n hC dX4_plan_4 rfl rfl ?_
  refine V_f hB.self ?_
  refine V_cvI (n := 1) hC (c_X0_planAt g (eL E) (f := f) (c := o + 1) (by omega) hm v) dX4_plan_5 gX4_plan_X0_planAt rfl rfl rfl ⟨rfl, rfl⟩ (by decide +kernel) (by decide +kernel) (by omega) zB_0 rfl (Nat.le_of_ble_eq_true rfl) (by decide) (fun x5 u5 h5 => ?_)
  obtain ⟨rfl, rfl⟩ := h5
  refine V_f hB.self.symm ?_
  refine V_iret hC hR dX4_plan_8 ⟨rfl, rfl, _, rfl, ?_⟩
  exact ⟨rfl, rfl⟩
theorem inX0_X4_report : ∀ w ∈ wsX00, w ∈ wsX4_report := by decide +kernel
theorem inX4_X4_report : ∀ w ∈ wsX40, w ∈ wsX4_report := by decide +kernel
abbrev rmX4_report : Room := { frames := 1, cells := 0, slots := 0, locals := 22 }
set_option maxHeartbeats 4000000 in
set_option maxRecDepth 100000 in
theorem c_X4_report (g : GE) (lau : Launch) {N : Nat} {ad : Nat → Nat} {f : Nat → va_E} {o : Nat} (hN : o + 183 ≤ N) {S : ST} (hS : CAt g ad o S f) (v : Int32) (w : Int32) : Ct g lau yX4_report wsX4_report rmX4_report N ad [.ref (ad o), .int (v), .int (w)] f (pI N ad (fun x u => x = mReport v w S.1 ∧ u = f)) 0 0 := by
  refine Ct.of (maxL := 3) rfl (by decide +kernel) [some (.ref (ad o)), some (.int (v)), some (.int (w))] (Nat.le_of_ble_eq_true rfl) (by simp [lvo, lv_args, Value.category]) (fun E hnl _ hC hR => ?_)
  obtain ⟨s, t, p, bc, co, ex, rc, pl, pn, wy, gx, hB, hm⟩ := hS.2.1
  refine V_aload_n hC dX4_report_0 rfl rfl ?_
  refine V_get hC 0 dX4_report_1 (by omega) hS.1.1 rfl (by decide) inX4_X4_report (by decide +kernel) rfl ?_
  refine V_iload_n hC dX4_report_4 rfl rfl ?_
  refine V_iload_n hC dX4_report_5 rfl rfl ?_
  refine V_f hB.self ?_
  refine V_cvI (n := 2) hC (c_X0_aboutReport g (eL E) (f := f) (c := o + 1) (by omega) hm v w) dX4_report_6 gX4_report_X0_aboutReport rfl rfl rfl ⟨rfl, rfl⟩ (by decide +kernel) (by decide +kernel) (by omega) zB_0 rfl (Nat.le_of_ble_eq_true rfl) (by decide) (fun x6 u6 h6 => ?_)
  obtain ⟨rfl, rfl⟩ := h6
  refine V_f hB.self.symm ?_
  refine V_iret hC hR dX4_report_9 ⟨rfl, rfl, _, rfl, ?_⟩
  exact ⟨rfl, rfl⟩
theorem numB_s {w : Nat} (h : w < 22) (S : ST) : numB w S.1 = sCount (nI w) S := by
  have h0 : ¬ nI w < 0 := nI_pos (by omega)
  unfold numB sCount
  rw [if_neg h0, nI_clamp (by omega)]
  by_cases h14 : w < 14
  · rw [show (14 : Int32) = nI 14 from rfl, if_pos h14, if_pos ((nI_ltI (b := 14) (by omega) (by decide)).mpr h14)]
  · rw [show (14 : Int32) = nI 14 from rfl, show (22 : Int32) = nI 22 from rfl, if_neg h14, if_neg (fun q => h14 ((nI_ltI (b := 14) (by omega) (by decide)).mp q)), if_pos ((nI_ltI (b := 22) (by omega) (by decide)).mpr h)]
theorem inX0_X4_count : ∀ w ∈ wsX00, w ∈ wsX4_count := by decide +kernel
theorem inX2_X4_count : ∀ w ∈ wsX20, w ∈ wsX4_count := by decide +kernel
theorem inX3_X4_count : ∀ w ∈ wsX30, w ∈ wsX4_count := by decide +kernel
theorem inX4_X4_count : ∀ w ∈ wsX40, w ∈ wsX4_count := by decide +kernel
abbrev rmX4_count : Room := { frames := 1, cells := 0, slots := 0, locals := 22 }
set_option maxHeartbeats 4000000 in
set_option maxRecDepth 100000 in
theorem c_X4_count (g : GE) (lau : Launch) {N : Nat} {ad : Nat → Nat} {f : Nat → va_E} {o : Nat} (hN : o + 183 ≤ N) {S : ST} (hS : CAt g ad o S f) (v : Int32) : Ct g lau yX4_count wsX4_count rmX4_count N ad [.ref (ad o), .int (v)] f (pI N ad (fun x u => x = sCount v S ∧ u = f)) 0 0 := by
  refine Ct.of (maxL := 2) rfl (by decide +kernel) [some (.ref (ad o)), some (.int (v))] (Nat.le_of_ble_eq_true rfl) (by simp [lvo, lv_args, Value.category]) (fun E hnl _ hC hR => ?_)
  obtain ⟨s, t, p, bc, co, ex, rc, pl, pn, wy, gx, hB, hm⟩ := hS.2.1
  obtain ⟨-, -, -, -, sg, hp1, -⟩ := hS.1
  obtain ⟨ol, -, -, hY, -⟩ := hS.2.2
  refine V_iload_n hC dX4_count_0 rfl rfl ?_
  refine V_if_lt hC 10 dX4_count_1 (by decide) (fun c1 => ?_) (fun c1 => ?_)
  · refine V_bipush hC (-2) dX4_count_10 (by decide) ?_
    refine V_iret hC hR dX4_count_12 ⟨rfl, rfl, _, rfl, ?_⟩
    first | exact ⟨by unfold sCount; rw [if_pos c1], rfl⟩ | (refine ⟨?_, rfl⟩; have hh : ∀ z : Int32, z ≤ 23 → ¬ v = z ∧ ¬ v < z := fun z hz => ⟨fun q => absurd (q ▸ c7) (Int32.not_lt.mpr hz), fun q => absurd (Int32.lt_of_lt_of_le q hz) (Int32.lt_asymm c7)⟩; unfold sCount; rw [if_neg (hh 0 (by decide)).2, if_neg (hh 14 (by decide)).2, if_neg (hh 22 (by decide)).2, if_neg (hh 22 (by decide)).1, if_neg (hh 23 (by decide)).1])
  · refine V_iload_n hC dX4_count_4 rfl rfl ?_
    refine V_bipush hC 23 dX4_count_5 (by decide) ?_
    refine V_icmp_le hC 13 dX4_count_7 (by decide) (fun c7 => ?_) (fun c7 => ?_)
    · obtain ⟨w, hw, rfl⟩ := lt_n (n := 24) (by decide) c1 (by have c8 := Int32.le_iff_toInt_le.mp c7; have e : (23 : Int32).toInt = 23 := rfl; have e2 : (nI 24).toInt = 24 := rfl; rw [Int32.le_iff_toInt_le, e2]; omega)
      refine V_iload_n hC dX4_count_13 rfl rfl ?_
      refine V_bipush hC 22 dX4_count_14 (by decide) ?_
      refine V_icmp_ne hC 27 dX4_count_16 (by decide) (fun c16 => ?_) (fun c16 => ?_)
      · refine V_iload_n hC dX4_count_27 rfl rfl ?_
        refine V_bipush hC 23 dX4_count_28 (by decide) ?_
        refine V_icmp_ne hC 41 dX4_count_30 (by decide) (fun c30 => ?_) (fun c30 => ?_)
        · have hw2 : w < 22 := by rcases (show w < 22 ∨ w = 22 ∨ w = 23 by omega) with q | q | q; exact q; exact absurd (q ▸ rfl) c16; exact absurd (q ▸ rfl) c30
          refine V_aload_n hC dX4_count_41 rfl rfl ?_
          refine V_get hC 0 dX4_count_42 (by omega) hS.1.1 rfl (by decide) inX4_X4_count (by decide +kernel) rfl ?_
          refine V_iload_n hC dX4_count_45 rfl rfl ?_
          refine V_f hB.self ?_
          refine V_cvI (n := 1) hC (c_X0_number g (eL E) (f := f) (c := o + 1) (by omega) hm (k := w) (by omega)) dX4_count_46 gX4_count_X0_number rfl rfl rfl ⟨rfl, rfl⟩ (by decide +kernel) (by decide +kernel) (by omega) zB_0 rfl (Nat.le_of_ble_eq_true rfl) (by decide) (fun x46 u46 h46 => ?_)
          obtain ⟨rfl, rfl⟩ := h46
          refine V_f hB.self.symm ?_
          refine V_iret hC hR dX4_count_49 ⟨rfl, rfl, _, rfl, ?_⟩
          exact ⟨numB_s hw2 S, rfl⟩
        · have ew : w = 23 := (nI_eq (b := 23) (by omega) (by decide)).mp c30
          refine V_aload_n hC dX4_count_33 rfl rfl ?_
          refine V_get hC 2 dX4_count_34 (by omega) hS.1.1 rfl (by decide) inX4_X4_count (by decide +kernel) rfl ?_
          refine V_get hC 2 dX4_count_37 (by omega) hY.1 rfl (by decide) inX2_X4_count (by decide +kernel) rfl ?_
          refine V_iret hC hR dX4_count_40 ⟨rfl, rfl, _, rfl, ?_⟩
          subst ew
          exact ⟨rfl, rfl⟩
      · have ew : w = 22 := (nI_eq (b := 22) (by omega) (by decide)).mp c16
        refine V_aload_n hC dX4_count_19 rfl rfl ?_
        refine V_get hC 5 dX4_count_20 (by omega) hS.1.1 rfl (by decide) inX4_X4_count (by decide +kernel) rfl ?_
        refine V_get hC 1 dX4_count_23 (by omega) hp1 rfl (by decide) inX3_X4_count (by decide +kernel) rfl ?_
        refine V_iret hC hR dX4_count_26 ⟨rfl, rfl, _, rfl, ?_⟩
        subst ew
        exact ⟨rfl, rfl⟩
    · have c7 : 23 < v := Int32.not_le.mp c7
      refine V_bipush hC (-2) dX4_count_10 (by decide) ?_
      refine V_iret hC hR dX4_count_12 ⟨rfl, rfl, _, rfl, ?_⟩
      first | exact ⟨by unfold sCount; rw [if_pos c1], rfl⟩ | (refine ⟨?_, rfl⟩; have hh : ∀ z : Int32, z ≤ 23 → ¬ v = z ∧ ¬ v < z := fun z hz => ⟨fun q => absurd (q ▸ c7) (Int32.not_lt.mpr hz), fun q => absurd (Int32.lt_of_lt_of_le q hz) (Int32.lt_asymm c7)⟩; unfold sCount; rw [if_neg (hh 0 (by decide)).2, if_neg (hh 14 (by decide)).2, if_neg (hh 22 (by decide)).2, if_neg (hh 22 (by decide)).1, if_neg (hh 23 (by decide)).1])
theorem inX0_X4_undo : ∀ w ∈ wsX00, w ∈ wsX4_undo := by decide +kernel
theorem inX1_X4_undo : ∀ w ∈ wsX10, w ∈ wsX4_undo := by decide +kernel
theorem inX2_X4_undo : ∀ w ∈ wsX20, w ∈ wsX4_undo := by decide +kernel
theorem inX4_X4_undo : ∀ w ∈ wsX40, w ∈ wsX4_undo := by decide +kernel
abbrev rmX4_undo : Room := { frames := 3, cells := 0, slots := 0, locals := 83 }
set_option maxHeartbeats 4000000 in
set_option maxRecDepth 100000 in
theorem c_X4_undo (g : GE) (lau : Launch) {N : Nat} {ad : Nat → Nat} {f : Nat → va_E} {o : Nat} (hN : o + 183 ≤ N) {S : ST} (hS : CAt g ad o S f) : Ct g lau yX4_undo wsX4_undo rmX4_undo N ad [.ref (ad o)] f (pI N ad (fun x u => x = (sUndo S).1 ∧ CAt g ad o (sUndo S).2 u ∧ ∀ q, q < o ∨ o + 183 ≤ q → u q = f q)) 0 0 := by
  refine Ct.of (maxL := 1) rfl (by decide +kernel) [some (.ref (ad o))] (Nat.le_of_ble_eq_true rfl) (by simp [lvo, lv_args, Value.category]) (fun E hnl _ hC hR => ?_)
  have hYo : ∃ fs, f (o + 33) = .inr (2, fs) := by obtain ⟨ol, -, -, hY, -⟩ := hS.2.2; exact ⟨_, hY.1⟩
  obtain ⟨fs, hYo⟩ := hYo
  obtain ⟨m, hi, sl, pd⟩ := S
  obtain ⟨ol, ho, h6, hY, hA⟩ := hS.2.2
  refine V_aload_n hC dX4_undo_0 rfl rfl ?_
  refine V_get hC 2 dX4_undo_1 (by omega) hS.1.1 rfl (by decide) inX4_X4_undo (by decide +kernel) rfl ?_
  refine V_get hC 2 dX4_undo_4 (by omega) hY.1 rfl (by decide) inX2_X4_undo (by decide +kernel) rfl ?_
  refine V_if_ne hC 13 dX4_undo_7 (by decide) (fun c7 => ?_) (fun c7 => ?_)
  · have hne : hi ≠ [] := fun q => c7 (by rw [q]; rfl)
    obtain ⟨hi2, m2, rfl⟩ : ∃ a b, hi = a ++ [b] := ⟨hi.dropLast, hi.getLast hne, (List.dropLast_concat_getLast hne).symm⟩
    refine V_aload_n hC dX4_undo_13 rfl rfl ?_
    refine V_get hC 2 dX4_undo_14 (by omega) hS.1.1 rfl (by decide) inX4_X4_undo (by decide +kernel) rfl ?_
    refine V_aload_n hC dX4_undo_17 rfl rfl ?_
    refine V_get hC 0 dX4_undo_18 (by omega) hS.1.1 rfl (by decide) inX4_X4_undo (by decide +kernel) rfl ?_
    refine V_cvV (n := 1) hC (c_X2_takeBack g (eL E) (y := o + 33) (by omega) hS.2.2 (c := o + 1) (by omega) (by omega) hS.2.1) dX4_undo_21 gX4_undo_X2_takeBack rfl rfl rfl ⟨rfl, rfl⟩ (by decide +kernel) (by decide +kernel) (by omega) hYo rfl (Nat.le_of_ble_eq_true rfl) (by decide) (fun u21 h21 => ?_)
    obtain ⟨k1, k2, k3⟩ := h21
    have eo := (k3 o (by omega) (by omega)).trans hS.1.1
    obtain ⟨ol2, -, -, hY2, -⟩ := id k1
    refine V_aload_n hC dX4_undo_24 rfl rfl ?_
    refine V_get hC 2 dX4_undo_25 (by omega) eo rfl (by decide) inX4_X4_undo (by decide +kernel) rfl ?_
    refine V_get hC 2 dX4_undo_28 (by omega) hY2.1 rfl (by decide) inX2_X4_undo (by decide +kernel) rfl ?_
    refine V_iret hC hR dX4_undo_31 ⟨rfl, rfl, _, rfl, ?_⟩
    have e : sUndo (m, hi2 ++ [m2], sl, pd) = (nI hi2.length, (m2, hi2, sl, pd)) := by simp [sUndo]
    rw [e]
    exact ⟨rfl, ⟨hS.1.keep fun q hq => k3 q (by omega) (by omega), k2, k1⟩, fun q hq => k3 q (by omega) (by omega)⟩
  · have hi0 : hi = [] := by have := (nI_eq (b := 0) (by show hi.length < 2 ^ 31; have h6 : hi.length ≤ 6 := h6; omega) (by decide)).mp c7; exact List.length_eq_zero_iff.mp this
    subst hi0
    refine V_bipush hC (-5) dX4_undo_10 (by decide) ?_
    refine V_iret hC hR dX4_undo_12 ⟨rfl, rfl, _, rfl, ?_⟩
    exact ⟨rfl, hS, fun q hq => rfl⟩
abbrev rmX4_canTry : Room := { frames := 0, cells := 0, slots := 0, locals := 0 }
set_option maxHeartbeats 4000000 in
set_option maxRecDepth 100000 in
theorem c_X4_canTry (g : GE) (lau : Launch) {N : Nat} {ad : Nat → Nat} {f : Nat → va_E} (v : Int32) : Ct g lau yX4_canTry wsX4_canTry rmX4_canTry N ad [.int v] f (pI N ad (fun x u => (x = 1 ∧ okT v = true ∧ u = f) ∨ (x = 0 ∧ okT v = false ∧ u = f))) 0 0 := by
  refine Ct.of (maxL := 1) rfl (by decide +kernel) [some (.int v)] (Nat.le_of_ble_eq_true rfl) (by simp [lvo, lv_args, Value.category]) (fun E hnl _ hC hR => ?_)
  refine V_iload_n hC dX4_canTry_0 rfl rfl ?_
  refine V_iconst hC 1 dX4_canTry_1 (by decide) ?_
  refine V_icmp_lt hC 15 dX4_canTry_2 (by decide) (fun c2 => ?_) (fun c2 => ?_)
  · refine V_iconst hC 0 dX4_canTry_15 (by decide) ?_
    refine V_zret hC hR rfl dX4_canTry_16 ⟨rfl, rfl, _, rfl, ?_⟩
    first | exact Or.inl ⟨rfl, by simp only [okT, Bool.and_eq_true, decide_eq_true_eq]; exact ⟨Int32.not_lt.mp c2, Int32.not_lt.mp c8⟩, rfl⟩ | exact Or.inr ⟨rfl, by rw [okT, decide_eq_false (Int32.not_le.mpr c2)]; rfl, rfl⟩ | exact Or.inr ⟨rfl, by rw [okT, decide_eq_false (p := v ≤ 99) (Int32.not_le.mpr c8), Bool.and_false], rfl⟩
  · refine V_iload_n hC dX4_canTry_5 rfl rfl ?_
    refine V_bipush hC 99 dX4_canTry_6 (by decide) ?_
    refine V_icmp_gt hC 15 dX4_canTry_8 (by decide) (fun c8 => ?_) (fun c8 => ?_)
    · refine V_iconst hC 0 dX4_canTry_15 (by decide) ?_
      refine V_zret hC hR rfl dX4_canTry_16 ⟨rfl, rfl, _, rfl, ?_⟩
      first | exact Or.inl ⟨rfl, by simp only [okT, Bool.and_eq_true, decide_eq_true_eq]; exact ⟨Int32.not_lt.mp c2, Int32.not_lt.mp c8⟩, rfl⟩ | exact Or.inr ⟨rfl, by rw [okT, decide_eq_false (Int32.not_le.mpr c2)]; rfl, rfl⟩ | exact Or.inr ⟨rfl, by rw [okT, decide_eq_false (p := v ≤ 99) (Int32.not_le.mpr c8), Bool.and_false], rfl⟩
    · refine V_iconst hC 1 dX4_canTry_11 (by decide) ?_
      refine V_goto hC 16 dX4_canTry_12 (by decide) ?_
      refine V_zret hC hR rfl dX4_canTry_16 ⟨rfl, rfl, _, rfl, ?_⟩
      first | exact Or.inl ⟨rfl, by simp only [okT, Bool.and_eq_true, decide_eq_true_eq]; exact ⟨Int32.not_lt.mp c2, Int32.not_lt.mp c8⟩, rfl⟩ | exact Or.inr ⟨rfl, by rw [okT, decide_eq_false (Int32.not_le.mpr c2)]; rfl, rfl⟩ | exact Or.inr ⟨rfl, by rw [okT, decide_eq_false (p := v ≤ 99) (Int32.not_le.mpr c8), Bool.and_false], rfl⟩
