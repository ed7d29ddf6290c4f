theorem vus {f : Nat → va_E} {i : Nat} {e : va_E} : va_up f i e i = e := by simp [va_up]
theorem vun {f : Nat → va_E} {i j : Nat} {e : va_E} (h : j ≠ i) : va_up f i e j = f j := by simp [va_up, h]
theorem bx_eq {y z : Nat → Int32} (h : ∀ k, k < 7 → y k = z k) : boxE y = boxE z := by
  unfold boxE
  rw [h 0 (by decide), h 1 (by decide), h 2 (by decide), h 3 (by decide), h 4 (by decide), h 5 (by decide), h 6 (by decide)]
def newY (len num : Int32) : Nat → Int32 := fun w => if w = 1 then len else if w = 6 then num else 0
def okY (y : Nat → Int32) : Prop := (y 2 = 0 ∨ y 2 = 1) ∧ (y 3 = 0 ∨ y 3 = 1) ∧ (y 5 = 0 ∨ y 5 = 1)
/-- a box of the class holds the box x -/
def isX (y x : Nat → Int32) : Prop := y 0 = x 0 ∧ y 1 = x 1 ∧ y 2 = x 2 ∧ y 5 = x 4 ∧ y 6 = x 5 ∧ ((y 3 = 0 ∧ x 3 = -6) ∨ (y 3 = 1 ∧ y 4 = x 3 ∧ ¬ x 3 = -6)) ∧ (x 2 = 0 ∨ x 2 = 1) ∧ (x 4 = 0 ∨ x 4 = 1)
theorem isX.ok {y x : Nat → Int32} (h : isX y x) : okY y := by
  obtain ⟨-, -, h2, h5, -, h3, hb2, hb4⟩ := h
  refine ⟨by rw [h2]; exact hb2, ?_, by rw [h5]; exact hb4⟩
  rcases h3 with ⟨q, -⟩ | ⟨q, -⟩
  · exact Or.inl q
  · exact Or.inr q
abbrev rmX1_canHave : Room := { frames := 0, cells := 0, slots := 0, locals := 0 }
set_option maxHeartbeats 4000000 in
set_option maxRecDepth 100000 in
theorem c_X1_canHave (g : GE) (lau : Launch) {N : Nat} {ad : Nat → Nat} {f : Nat → va_E} (v : Int32) : Ct g lau yX1_canHave wsX1_canHave rmX1_canHave N ad [.int v] f (pI N ad (fun x u => (x = 1 ∧ okLen v = true ∧ u = f) ∨ (x = 0 ∧ okLen v = false ∧ u = f))) 0 0 := by
  refine Ct.of (maxL := 1) rfl (by decide +kernel) [some (.int v)] (Nat.le_of_ble_eq_true rfl) (by simp [lvo, lv_args, Value.category]) (fun E hnl _ hC hR => ?_)
  refine V_iload_n hC dX1_canHave_0 rfl rfl ?_
  refine V_iconst hC 4 dX1_canHave_1 (by decide) ?_
  refine V_icmp_lt hC 15 dX1_canHave_2 (by decide) (fun c2 => ?_) (fun c2 => ?_)
  · refine V_iconst hC 0 dX1_canHave_15 (by decide) ?_
    refine V_zret hC hR rfl dX1_canHave_16 ⟨rfl, rfl, _, rfl, ?_⟩
    first | exact Or.inl ⟨rfl, by simp only [okLen, Bool.and_eq_true, decide_eq_true_eq]; exact ⟨Int32.not_lt.mp c2, Int32.not_lt.mp c8⟩, rfl⟩ | exact Or.inr ⟨rfl, by rw [okLen, decide_eq_false (Int32.not_le.mpr c2)]; rfl, rfl⟩ | exact Or.inr ⟨rfl, by rw [okLen, decide_eq_false (p := v ≤ 30) (Int32.not_le.mpr c8), Bool.and_false], rfl⟩
  · refine V_iload_n hC dX1_canHave_5 rfl rfl ?_
    refine V_bipush hC 30 dX1_canHave_6 (by decide) ?_
    refine V_icmp_gt hC 15 dX1_canHave_8 (by decide) (fun c8 => ?_) (fun c8 => ?_)
    · refine V_iconst hC 0 dX1_canHave_15 (by decide) ?_
      refine V_zret hC hR rfl dX1_canHave_16 ⟨rfl, rfl, _, rfl, ?_⟩
      first | exact Or.inl ⟨rfl, by simp only [okLen, Bool.and_eq_true, decide_eq_true_eq]; exact ⟨Int32.not_lt.mp c2, Int32.not_lt.mp c8⟩, rfl⟩ | exact Or.inr ⟨rfl, by rw [okLen, decide_eq_false (Int32.not_le.mpr c2)]; rfl, rfl⟩ | exact Or.inr ⟨rfl, by rw [okLen, decide_eq_false (p := v ≤ 30) (Int32.not_le.mpr c8), Bool.and_false], rfl⟩
    · refine V_iconst hC 1 dX1_canHave_11 (by decide) ?_
      refine V_goto hC 16 dX1_canHave_12 (by decide) ?_
      refine V_zret hC hR rfl dX1_canHave_16 ⟨rfl, rfl, _, rfl, ?_⟩
      first | exact Or.inl ⟨rfl, by simp only [okLen, Bool.and_eq_true, decide_eq_true_eq]; exact ⟨Int32.not_lt.mp c2, Int32.not_lt.mp c8⟩, rfl⟩ | exact Or.inr ⟨rfl, by rw [okLen, decide_eq_false (Int32.not_le.mpr c2)]; rfl, rfl⟩ | exact Or.inr ⟨rfl, by rw [okLen, decide_eq_false (p := v ≤ 30) (Int32.not_le.mpr c8), Bool.and_false], rfl⟩
theorem inX1_X1_back : ∀ w ∈ wsX10, w ∈ wsX1_back := by decide +kernel
abbrev rmX1_back : Room := { frames := 0, cells := 0, slots := 0, locals := 0 }
set_option maxHeartbeats 4000000 in
set_option maxRecDepth 100000 in
theorem c_X1_back (g : GE) (lau : Launch) {N : Nat} {ad : Nat → Nat} {f : Nat → va_E} {i : Nat} {y : Nat → Int32} (hi : i < N) (hf : f i = boxE y) : Ct g lau yX1_back wsX1_back rmX1_back N ad [.ref (ad i)] f (pI N ad (fun x u => x = y 0 - y 1 ∧ u = f)) 0 0 := by
  refine Ct.of (maxL := 1) rfl (by decide +kernel) [some (.ref (ad i))] (Nat.le_of_ble_eq_true rfl) (by simp [lvo, lv_args, Value.category]) (fun E hnl _ hC hR => ?_)
  refine V_aload_n hC dX1_back_0 rfl rfl ?_
  refine V_X_front hC hi hf dX1_back_1 inX1_X1_back (by decide +kernel) ?_
  refine V_aload_n hC dX1_back_4 rfl rfl ?_
  refine V_X_length hC hi hf dX1_back_5 inX1_X1_back (by decide +kernel) ?_
  refine V_isub hC dX1_back_8 ?_
  refine V_iret hC hR dX1_back_9 ⟨rfl, rfl, _, rfl, ?_⟩
  exact ⟨rfl, rfl⟩
theorem inX1_X1_liesUnder : ∀ w ∈ wsX10, w ∈ wsX1_liesUnder := by decide +kernel
abbrev rmX1_liesUnder : Room := { frames := 0, cells := 0, slots := 0, locals := 0 }
set_option maxHeartbeats 4000000 in
set_option maxRecDepth 100000 in
theorem c_X1_liesUnder (g : GE) (lau : Launch) {N : Nat} {ad : Nat → Nat} {f : Nat → va_E} {i : Nat} {y : Nat → Int32} (hi : i < N) (hf : f i = boxE y) (v : Int32) : Ct g lau yX1_liesUnder wsX1_liesUnder rmX1_liesUnder N ad [.ref (ad i), .int v] f (pI N ad (fun x u => (x = 1 ∧ (v ≤ y 0 ∧ y 0 - y 1 < v) ∧ u = f) ∨ (x = 0 ∧ ¬ (v ≤ y 0 ∧ y 0 - y 1 < v) ∧ u = f))) 0 0 := by
  refine Ct.of (maxL := 2) rfl (by decide +kernel) [some (.ref (ad i)), some (.int v)] (Nat.le_of_ble_eq_true rfl) (by simp [lvo, lv_args, Value.category]) (fun E hnl _ hC hR => ?_)
  refine V_aload_n hC dX1_liesUnder_0 rfl rfl ?_
  refine V_X_front hC hi hf dX1_liesUnder_1 inX1_X1_liesUnder (by decide +kernel) ?_
  refine V_iload_n hC dX1_liesUnder_4 rfl rfl ?_
  refine V_icmp_lt hC 25 dX1_liesUnder_5 (by decide) (fun c5 => ?_) (fun c5 => ?_)
  · refine V_iconst hC 0 dX1_liesUnder_25 (by decide) ?_
    refine V_zret hC hR rfl dX1_liesUnder_26 ⟨rfl, rfl, _, rfl, ?_⟩
    first | exact Or.inl ⟨rfl, ⟨Int32.not_lt.mp c5, Int32.not_le.mp c18⟩, rfl⟩ | exact Or.inr ⟨rfl, fun q => absurd q.1 (Int32.not_le.mpr c5), rfl⟩ | exact Or.inr ⟨rfl, fun q => absurd q.2 (Int32.not_lt.mpr c18), rfl⟩
  · refine V_aload_n hC dX1_liesUnder_8 rfl rfl ?_
    refine V_X_front hC hi hf dX1_liesUnder_9 inX1_X1_liesUnder (by decide +kernel) ?_
    refine V_aload_n hC dX1_liesUnder_12 rfl rfl ?_
    refine V_X_length hC hi hf dX1_liesUnder_13 inX1_X1_liesUnder (by decide +kernel) ?_
    refine V_isub hC dX1_liesUnder_16 ?_
    refine V_iload_n hC dX1_liesUnder_17 rfl rfl ?_
    refine V_icmp_ge hC 25 dX1_liesUnder_18 (by decide) (fun c18 => ?_) (fun c18 => ?_)
    · refine V_iconst hC 0 dX1_liesUnder_25 (by decide) ?_
      refine V_zret hC hR rfl dX1_liesUnder_26 ⟨rfl, rfl, _, rfl, ?_⟩
      first | exact Or.inl ⟨rfl, ⟨Int32.not_lt.mp c5, Int32.not_le.mp c18⟩, rfl⟩ | exact Or.inr ⟨rfl, fun q => absurd q.1 (Int32.not_le.mpr c5), rfl⟩ | exact Or.inr ⟨rfl, fun q => absurd q.2 (Int32.not_lt.mpr c18), rfl⟩
    · refine V_iconst hC 1 dX1_liesUnder_21 (by decide) ?_
      refine V_goto hC 26 dX1_liesUnder_22 (by decide) ?_
      refine V_zret hC hR rfl dX1_liesUnder_26 ⟨rfl, rfl, _, rfl, ?_⟩
      first | exact Or.inl ⟨rfl, ⟨Int32.not_lt.mp c5, Int32.not_le.mp c18⟩, rfl⟩ | exact Or.inr ⟨rfl, fun q => absurd q.1 (Int32.not_le.mpr c5), rfl⟩ | exact Or.inr ⟨rfl, fun q => absurd q.2 (Int32.not_lt.mpr c18), rfl⟩
theorem inX1_X1_begin : ∀ w ∈ wsX10, w ∈ wsX1_begin := by decide +kernel
abbrev rmX1_begin : Room := { frames := 0, cells := 0, slots := 0, locals := 0 }
set_option maxHeartbeats 4000000 in
set_option maxRecDepth 100000 in
theorem c_X1_begin (g : GE) (lau : Launch) {N : Nat} {ad : Nat → Nat} {f : Nat → va_E} {i : Nat} {y : Nat → Int32} (hi : i < N) (hf : f i = boxE y) (v w : Int32) : Ct g lau yX1_begin wsX1_begin rmX1_begin N ad [.ref (ad i), .int v, .int w] f (pV N ad (fun u => u = va_up f i (boxE (newY v w)))) 0 0 := by
  refine Ct.of (maxL := 3) rfl (by decide +kernel) [some (.ref (ad i)), some (.int v), some (.int w)] (Nat.le_of_ble_eq_true rfl) (by simp [lvo, lv_args, Value.category]) (fun E hnl _ hC hR => ?_)
  refine V_aload_n hC dX1_begin_0 rfl rfl ?_
  refine V_iconst hC 0 dX1_begin_1 (by decide) ?_
  refine V_X_put_front hC hi hf dX1_begin_2 inX1_X1_begin (by decide +kernel) ?_
  refine V_aload_n hC dX1_begin_5 rfl rfl ?_
  refine V_iload_n hC dX1_begin_6 rfl rfl ?_
  refine V_X_put_length hC hi vus dX1_begin_7 inX1_X1_begin (by decide +kernel) ?_
  refine V_f (bx_uu _ _ _ _) ?_
  refine V_aload_n hC dX1_begin_10 rfl rfl ?_
  refine V_iconst hC 0 dX1_begin_11 (by decide) ?_
  refine V_X_put_seen hC hi vus (Or.inl rfl) dX1_begin_12 inX1_X1_begin (by decide +kernel) ?_
  refine V_f (bx_uu _ _ _ _) ?_
  refine V_aload_n hC dX1_begin_15 rfl rfl ?_
  refine V_iconst hC 0 dX1_begin_16 (by decide) ?_
  refine V_X_put_marked hC hi vus (Or.inl rfl) dX1_begin_17 inX1_X1_begin (by decide +kernel) ?_
  refine V_f (bx_uu _ _ _ _) ?_
  refine V_aload_n hC dX1_begin_20 rfl rfl ?_
  refine V_iconst hC 0 dX1_begin_21 (by decide) ?_
  refine V_X_put_mark hC hi vus dX1_begin_22 inX1_X1_begin (by decide +kernel) ?_
  refine V_f (bx_uu _ _ _ _) ?_
  refine V_aload_n hC dX1_begin_25 rfl rfl ?_
  refine V_iconst hC 0 dX1_begin_26 (by decide) ?_
  refine V_X_put_twice hC hi vus (Or.inl rfl) dX1_begin_27 inX1_X1_begin (by decide +kernel) ?_
  refine V_f (bx_uu _ _ _ _) ?_
  refine V_aload_n hC dX1_begin_30 rfl rfl ?_
  refine V_iload_n hC dX1_begin_31 rfl rfl ?_
  refine V_X_put_number hC hi vus dX1_begin_32 inX1_X1_begin (by decide +kernel) ?_
  refine V_f (bx_uu _ _ _ _) ?_
  refine V_vret hC hR dX1_begin_35 ⟨rfl, rfl, rfl, ?_⟩
  exact congrArg (va_up f i) (bx_eq fun k hk => by rcases (show k = 0 ∨ k = 1 ∨ k = 2 ∨ k = 3 ∨ k = 4 ∨ k = 5 ∨ k = 6 by omega) with rfl | rfl | rfl | rfl | rfl | rfl | rfl <;> simp [upd, newY])
theorem inX1_X1_copyFrom : ∀ w ∈ wsX10, w ∈ wsX1_copyFrom := by decide +kernel
abbrev rmX1_copyFrom : Room := { frames := 0, cells := 0, slots := 0, locals := 0 }
set_option maxHeartbeats 4000000 in
set_option maxRecDepth 100000 in
theorem c_X1_copyFrom (g : GE) (lau : Launch) {N : Nat} {ad : Nat → Nat} {f : Nat → va_E} {i : Nat} {y : Nat → Int32} (hi : i < N) (hf : f i = boxE y) {j : Nat} {z : Nat → Int32} (hj : j < N) (hf2 : f j = boxE z) (hij : j ≠ i) (hz : okY z) : Ct g lau yX1_copyFrom wsX1_copyFrom rmX1_copyFrom N ad [.ref (ad i), .ref (ad j)] f (pV N ad (fun u => u = va_up f i (boxE z))) 0 0 := by
  refine Ct.of (maxL := 2) rfl (by decide +kernel) [some (.ref (ad i)), some (.ref (ad j))] (Nat.le_of_ble_eq_true rfl) (by simp [lvo, lv_args, Value.category]) (fun E hnl _ hC hR => ?_)
  refine V_aload_n hC dX1_copyFrom_0 rfl rfl ?_
  refine V_aload_n hC dX1_copyFrom_1 rfl rfl ?_
  refine V_X_front hC hj hf2 dX1_copyFrom_2 inX1_X1_copyFrom (by decide +kernel) ?_
  refine V_X_put_front hC hi hf dX1_copyFrom_5 inX1_X1_copyFrom (by decide +kernel) ?_
  refine V_aload_n hC dX1_copyFrom_8 rfl rfl ?_
  refine V_aload_n hC dX1_copyFrom_9 rfl rfl ?_
  refine V_X_length hC hj ((vun hij).trans hf2) dX1_copyFrom_10 inX1_X1_copyFrom (by decide +kernel) ?_
  refine V_X_put_length hC hi vus dX1_copyFrom_13 inX1_X1_copyFrom (by decide +kernel) ?_
  refine V_f (bx_uu _ _ _ _) ?_
  refine V_aload_n hC dX1_copyFrom_16 rfl rfl ?_
  refine V_aload_n hC dX1_copyFrom_17 rfl rfl ?_
  refine V_X_seen hC hj ((vun hij).trans hf2) dX1_copyFrom_18 inX1_X1_copyFrom (by decide +kernel) ?_
  refine V_X_put_seen hC hi vus hz.1 dX1_copyFrom_21 inX1_X1_copyFrom (by decide +kernel) ?_
  refine V_f (bx_uu _ _ _ _) ?_
  refine V_aload_n hC dX1_copyFrom_24 rfl rfl ?_
  refine V_aload_n hC dX1_copyFrom_25 rfl rfl ?_
  refine V_X_marked hC hj ((vun hij).trans hf2) dX1_copyFrom_26 inX1_X1_copyFrom (by decide +kernel) ?_
  refine V_X_put_marked hC hi vus hz.2.1 dX1_copyFrom_29 inX1_X1_copyFrom (by decide +kernel) ?_
  refine V_f (bx_uu _ _ _ _) ?_
  refine V_aload_n hC dX1_copyFrom_32 rfl rfl ?_
  refine V_aload_n hC dX1_copyFrom_33 rfl rfl ?_
  refine V_X_mark hC hj ((vun hij).trans hf2) dX1_copyFrom_34 inX1_X1_copyFrom (by decide +kernel) ?_
  refine V_X_put_mark hC hi vus dX1_copyFrom_37 inX1_X1_copyFrom (by decide +kernel) ?_
  refine V_f (bx_uu _ _ _ _) ?_
  refine V_aload_n hC dX1_copyFrom_40 rfl rfl ?_
  refine V_aload_n hC dX1_copyFrom_41 rfl rfl ?_
  refine V_X_twice hC hj ((vun hij).trans hf2) dX1_copyFrom_42 inX1_X1_copyFrom (by decide +kernel) ?_
  refine V_X_put_twice hC hi vus hz.2.2 dX1_copyFrom_45 inX1_X1_copyFrom (by decide +kernel) ?_
  refine V_f (bx_uu _ _ _ _) ?_
  refine V_aload_n hC dX1_copyFrom_48 rfl rfl ?_
  refine V_aload_n hC dX1_copyFrom_49 rfl rfl ?_
  refine V_X_number hC hj ((vun hij).trans hf2) dX1_copyFrom_50 inX1_X1_copyFrom (by decide +kernel) ?_
  refine V_X_put_number hC hi vus dX1_copyFrom_53 inX1_X1_copyFrom (by decide +kernel) ?_
  refine V_f (bx_uu _ _ _ _) ?_
  refine V_vret hC hR dX1_copyFrom_56 ⟨rfl, rfl, rfl, ?_⟩
  exact congrArg (va_up f i) (bx_eq fun k hk => by rcases (show k = 0 ∨ k = 1 ∨ k = 2 ∨ k = 3 ∨ k = 4 ∨ k = 5 ∨ k = 6 by omega) with rfl | rfl | rfl | rfl | rfl | rfl | rfl <;> simp [upd])
def xTell (x : Nat → Int32) (w : Int32) : Int32 := if w = 0 then x 0 + 1000 else if w = 3 then (if x 3 = -6 then -6 else x 3 + 1000) else if w = 1 then x 1 else if w = 2 then x 2 else if w = 4 then x 4 else if w = 5 then x 5 else -2
theorem k6 (k : Int32) : (k < 0 ∨ 6 ≤ k) ∨ k = 0 ∨ k = 1 ∨ k = 2 ∨ k = 3 ∨ k = 4 ∨ k = 5 := by
  by_cases h : k < 0
  · exact Or.inl (Or.inl h)
  · obtain ⟨j, hj, e⟩ := nI_of h
    subst e
    by_cases h2 : j < 6
    · rcases (show j = 0 ∨ j = 1 ∨ j = 2 ∨ j = 3 ∨ j = 4 ∨ j = 5 by omega) with e | e | e | e | e | e <;> subst e <;> decide
    · exact Or.inl (Or.inr (nI_le (a := 6) (by omega) hj))
theorem inX1_X1_tell : ∀ w ∈ wsX10, w ∈ wsX1_tell := by decide +kernel
abbrev rmX1_tell : Room := { frames := 0, cells := 0, slots := 0, locals := 0 }
set_option maxHeartbeats 4000000 in
set_option maxRecDepth 100000 in
theorem c_X1_tell (g : GE) (lau : Launch) {N : Nat} {ad : Nat → Nat} {f : Nat → va_E} {i : Nat} {y : Nat → Int32} (hi : i < N) (hf : f i = boxE y) {xb : Nat → Int32} (hx : isX y xb) (w : Int32) : Ct g lau yX1_tell wsX1_tell rmX1_tell N ad [.ref (ad i), .int w] f (pI N ad (fun x u => x = xTell xb w ∧ u = f)) 0 0 := by
  refine Ct.of (maxL := 2) rfl (by decide +kernel) [some (.ref (ad i)), some (.int w)] (Nat.le_of_ble_eq_true rfl) (by simp [lvo, lv_args, Value.category]) (fun E hnl _ hC hR => ?_)
  obtain ⟨e0, e1, e2, e5, e6, e3, hb2, hb4⟩ := hx
  rcases k6 w with hk | rfl | rfl | rfl | rfl | rfl | rfl
  · have h1 : w.toInt < 0 ∨ 5 < w.toInt := by
      rcases hk with h | h
      · exact Or.inl (Int32.lt_iff_toInt_lt.mp h)
      · exact Or.inr (by have := Int32.le_iff_toInt_le.mp h; have e : (6 : Int32).toInt = 6 := rfl; omega)
    have hn : ∀ z : Int32, (0 ≤ z ∧ z < 6) → ¬ w = z := by
      rintro z hz rfl
      rcases hk with h | h
      · exact absurd hz.1 (Int32.not_le.mpr h)
      · exact absurd hz.2 (Int32.not_lt.mpr h)
    refine V_iload_n hC dX1_tell_0 rfl rfl ?_
    refine V_tableOut hC 106 dX1_tell_1 h1 (by decide) ?_
    refine V_bipush hC (-2) dX1_tell_106 (by decide) ?_
    refine V_iret hC hR dX1_tell_108 ⟨rfl, rfl, _, rfl, ?_⟩
    rw [xTell, if_neg (hn 0 (by decide)), if_neg (hn 3 (by decide)), if_neg (hn 1 (by decide)), if_neg (hn 2 (by decide)), if_neg (hn 4 (by decide)), if_neg (hn 5 (by decide))]
    exact ⟨rfl, rfl⟩
  · refine V_iload_n hC dX1_tell_0 rfl rfl ?_
    refine V_tableIn hC 40 dX1_tell_1 (by decide) (by decide) rfl (by decide) ?_
    refine V_aload_n hC dX1_tell_40 rfl rfl ?_
    refine V_X_front hC hi hf dX1_tell_41 inX1_X1_tell (by decide +kernel) ?_
    refine V_sipush hC 1000 dX1_tell_44 (by decide) ?_
    refine V_iadd hC dX1_tell_47 ?_
    refine V_iret hC hR dX1_tell_48 ⟨rfl, rfl, _, rfl, ?_⟩
    refine ⟨?_, rfl⟩
    rw [e0]; rfl
  · refine V_iload_n hC dX1_tell_0 rfl rfl ?_
    refine V_tableIn hC 49 dX1_tell_1 (by decide) (by decide) rfl (by decide) ?_
    refine V_aload_n hC dX1_tell_49 rfl rfl ?_
    refine V_X_length hC hi hf dX1_tell_50 inX1_X1_tell (by decide +kernel) ?_
    refine V_iret hC hR dX1_tell_53 ⟨rfl, rfl, _, rfl, ?_⟩
    refine ⟨?_, rfl⟩
    rw [e1]; rfl
  · refine V_iload_n hC dX1_tell_0 rfl rfl ?_
    refine V_tableIn hC 54 dX1_tell_1 (by decide) (by decide) rfl (by decide) ?_
    refine V_aload_n hC dX1_tell_54 rfl rfl ?_
    refine V_X_seen hC hi hf dX1_tell_55 inX1_X1_tell (by decide +kernel) ?_
    refine V_if_eq hC 65 dX1_tell_58 (by decide) (fun c58 => ?_) (fun c58 => ?_)
    · refine V_iconst hC 0 dX1_tell_65 (by decide) ?_
      refine V_iret hC hR dX1_tell_66 ⟨rfl, rfl, _, rfl, ?_⟩
      refine ⟨?_, rfl⟩
      first | (rcases hb2 with q | q; exact absurd (e2.trans q) c58; exact q.symm) | (exact (e2.symm.trans c58).symm)
    · refine V_iconst hC 1 dX1_tell_61 (by decide) ?_
      refine V_goto hC 66 dX1_tell_62 (by decide) ?_
      refine V_iret hC hR dX1_tell_66 ⟨rfl, rfl, _, rfl, ?_⟩
      refine ⟨?_, rfl⟩
      first | (rcases hb2 with q | q; exact absurd (e2.trans q) c58; exact q.symm) | (exact (e2.symm.trans c58).symm)
  · refine V_iload_n hC dX1_tell_0 rfl rfl ?_
    refine V_tableIn hC 67 dX1_tell_1 (by decide) (by decide) rfl (by decide) ?_
    refine V_aload_n hC dX1_tell_67 rfl rfl ?_
    refine V_X_marked hC hi hf dX1_tell_68 inX1_X1_tell (by decide +kernel) ?_
    refine V_if_eq hC 85 dX1_tell_71 (by decide) (fun c71 => ?_) (fun c71 => ?_)
    · refine V_bipush hC (-6) dX1_tell_85 (by decide) ?_
      refine V_iret hC hR dX1_tell_87 ⟨rfl, rfl, _, rfl, ?_⟩
      refine ⟨?_, rfl⟩
      first | (rcases e3 with ⟨q, q2⟩ | ⟨q, q2, q3⟩; exact absurd q c71; rw [q2]; show _ = (if xb 3 = -6 then -6 else xb 3 + 1000); rw [if_neg q3]) | (rcases e3 with ⟨q, q2⟩ | ⟨q, q2, q3⟩; show _ = (if xb 3 = -6 then -6 else xb 3 + 1000); rw [if_pos q2]; rw [q] at c71; exact absurd c71 (by decide))
    · refine V_aload_n hC dX1_tell_74 rfl rfl ?_
      refine V_X_mark hC hi hf dX1_tell_75 inX1_X1_tell (by decide +kernel) ?_
      refine V_sipush hC 1000 dX1_tell_78 (by decide) ?_
      refine V_iadd hC dX1_tell_81 ?_
      refine V_goto hC 87 dX1_tell_82 (by decide) ?_
      refine V_iret hC hR dX1_tell_87 ⟨rfl, rfl, _, rfl, ?_⟩
      refine ⟨?_, rfl⟩
      first | (rcases e3 with ⟨q, q2⟩ | ⟨q, q2, q3⟩; exact absurd q c71; rw [q2]; show _ = (if xb 3 = -6 then -6 else xb 3 + 1000); rw [if_neg q3]) | (rcases e3 with ⟨q, q2⟩ | ⟨q, q2, q3⟩; show _ = (if xb 3 = -6 then -6 else xb 3 + 1000); rw [if_pos q2]; rw [q] at c71; exact absurd c71 (by decide))
  · refine V_iload_n hC dX1_tell_0 rfl rfl ?_
    refine V_tableIn hC 88 dX1_tell_1 (by decide) (by decide) rfl (by decide) ?_
    refine V_aload_n hC dX1_tell_88 rfl rfl ?_
    refine V_X_twice hC hi hf dX1_tell_89 inX1_X1_tell (by decide +kernel) ?_
    refine V_if_eq hC 99 dX1_tell_92 (by decide) (fun c92 => ?_) (fun c92 => ?_)
    · refine V_iconst hC 0 dX1_tell_99 (by decide) ?_
      refine V_iret hC hR dX1_tell_100 ⟨rfl, rfl, _, rfl, ?_⟩
      refine ⟨?_, rfl⟩
      first | (rcases hb4 with q | q; exact absurd (e5.trans q) c92; exact q.symm) | (exact (e5.symm.trans c92).symm)
    · refine V_iconst hC 1 dX1_tell_95 (by decide) ?_
      refine V_goto hC 100 dX1_tell_96 (by decide) ?_
      refine V_iret hC hR dX1_tell_100 ⟨rfl, rfl, _, rfl, ?_⟩
      refine ⟨?_, rfl⟩
      first | (rcases hb4 with q | q; exact absurd (e5.trans q) c92; exact q.symm) | (exact (e5.symm.trans c92).symm)
  · refine V_iload_n hC dX1_tell_0 rfl rfl ?_
    refine V_tableIn hC 101 dX1_tell_1 (by decide) (by decide) rfl (by decide) ?_
    refine V_aload_n hC dX1_tell_101 rfl rfl ?_
    refine V_X_number hC hi hf dX1_tell_102 inX1_X1_tell (by decide +kernel) ?_
    refine V_iret hC hR dX1_tell_105 ⟨rfl, rfl, _, rfl, ?_⟩
    refine ⟨?_, rfl⟩
    rw [e6]; rfl
/-! a belt of the class and the value that it holds -/
def qS (s h : Nat → Int32) : Prop := ∀ i, i < 8 → s i = h i
def qT (t h : Nat → Int32) : Prop := ∀ i, i < 14 → i ≠ 1 → i ≠ 11 → i ≠ 12 → t i = h (8 + i)
def qW (wy h : Nat → Int32) : Prop := ∀ k, k < 5 → wy k = h (22 + k)
def qH (s t wy h : Nat → Int32) : Prop := qS s h ∧ qT t h ∧ qW wy h
def qX (p : Nat → Nat) (gx : Nat → Nat → Int32) (bc : Int32) (bs : List (Nat → Int32)) : Prop := bc = nI bs.length ∧ bs.length ≤ 8 ∧ (∀ j, j < 8 → p j < 8) ∧ (∀ i j, i < 8 → j < 8 → p i = p j → i = j) ∧ ∀ j x, bs[j]? = some x → isX (gx (p j)) x
def qR (co ex : Nat → Int32) (rc : Int32) (rs : List (Int32 × Int32)) : Prop := rc = nI rs.length ∧ rs.length ≤ 28 ∧ ∀ j r, rs[j]? = some r → co j = r.1 ∧ ex j = r.2
def qP (pl : Nat → Int32) (pn : Int32) (ps : List Int32) : Prop := pn = nI ps.length ∧ ps.length ≤ 29 ∧ ∀ j q, ps[j]? = some q → pl j = q
def RepB (s t : Nat → Int32) (p : Nat → Nat) (bc : Int32) (co ex : Nat → Int32) (rc : Int32) (pl : Nat → Int32) (pn : Int32) (wy : Nat → Int32) (gx : Nat → Nat → Int32) (m : MT) : Prop := qH s t wy m.1 ∧ qX p gx bc m.2.1 ∧ qR co ex rc m.2.2.1 ∧ qP pl pn m.2.2.2
/-- the world u holds, over f, a belt at c with the value m -/
def BIs (g : GE) (ad : Nat → Nat) (f : Nat → va_E) (c : Nat) (m : MT) (u : Nat → va_E) : Prop := ∃ (s t : Nat → Int32) (p : Nat → Nat) (bc : Int32) (co ex : Nat → Int32) (rc : Int32) (pl : Nat → Int32) (pn : Int32) (wy : Nat → Int32) (gx : Nat → Nat → Int32), u = zB g ad f c s t p bc co ex rc pl pn wy gx ∧ RepB s t p bc co ex rc pl pn wy gx m
theorem BIs.mk {g : GE} {ad : Nat → Nat} {f : Nat → va_E} {c : Nat} {m : MT} {s t : Nat → Int32} {p : Nat → Nat} {bc : Int32} {co ex : Nat → Int32} {rc : Int32} {pl : Nat → Int32} {pn : Int32} {wy : Nat → Int32} {gx : Nat → Nat → Int32} (h : RepB s t p bc co ex rc pl pn wy gx m) : BIs g ad f c m (zB g ad f c s t p bc co ex rc pl pn wy gx) := ⟨s, t, p, bc, co, ex, rc, pl, pn, wy, gx, rfl, h⟩
theorem qX.lt {p : Nat → Nat} {gx : Nat → Nat → Int32} {bc : Int32} {d r : List (Nat → Int32)} {x : Nat → Int32} (q : qX p gx bc (d ++ x :: r)) : d.length < 8 := by
  have := q.2.1
  simp at this
  omega
theorem qX.get {p : Nat → Nat} {gx : Nat → Nat → Int32} {bc : Int32} {d r : List (Nat → Int32)} {x : Nat → Int32} (q : qX p gx bc (d ++ x :: r)) : isX (gx (p d.length)) x := q.2.2.2.2 _ _ cut_m
theorem qX.p8 {p : Nat → Nat} {gx : Nat → Nat → Int32} {bc : Int32} {bs : List (Nat → Int32)} (q : qX p gx bc bs) {j : Nat} (h : j < 8) : p j < 8 := q.2.2.1 j h
theorem qX.set {p : Nat → Nat} {gx : Nat → Nat → Int32} {bc : Int32} {d r : List (Nat → Int32)} {x z y : Nat → Int32} (q : qX p gx bc (d ++ x :: r)) (h : isX y z) : qX p (va_up gx (p d.length) y) bc (d ++ z :: r) := by
  refine ⟨by rw [q.1]; simp, by have := q.2.1; simpa using this, q.2.2.1, q.2.2.2.1, fun j w hw => ?_⟩
  have hj8 : j < 8 := by have h1 := (List.getElem?_eq_some_iff.mp hw).1; have h2 := q.2.1; simp at h1 h2; omega
  by_cases hj : j = d.length
  · subst hj
    rw [cut_m] at hw
    cases hw
    simp only [va_up, if_true]
    exact h
  · have hp : p j ≠ p d.length := fun e => hj (q.2.2.2.1 j d.length hj8 q.lt e)
    simp only [va_up, hp, if_false]
    refine q.2.2.2.2 j w ?_
    rcases Nat.lt_or_gt_of_ne hj with h3 | h3
    · exact (cut_l h3).mpr ((cut_l h3).mp hw)
    · exact (cut_r h3).mpr ((cut_r h3).mp hw)
theorem qH.s {s t wy h : Nat → Int32} (q : qH s t wy h) {k : Nat} {z : Int32} (hk : k < 8) : qH (upd s k z) t wy (upd h k z) := by
  refine ⟨fun i hi => ?_, fun i h1 h2 h3 h4 => ?_, fun i hi => ?_⟩
  · unfold upd
    split
    · rfl
    · exact q.1 i hi
  · rw [pk_un (by omega)]
    exact q.2.1 i h1 h2 h3 h4
  · rw [pk_un (by omega)]
    exact q.2.2 i hi
theorem qH.t {s t wy h : Nat → Int32} (q : qH s t wy h) {k : Nat} {z : Int32} (hk : k < 14) : qH s (upd t k z) wy (upd h (8 + k) z) := by
  refine ⟨fun i hi => ?_, fun i h1 h2 h3 h4 => ?_, fun i hi => ?_⟩
  · rw [pk_un (by omega)]
    exact q.1 i hi
  · by_cases hik : i = k
    · subst hik
      rw [pk_us, pk_us]
    · rw [pk_un hik, pk_un (by omega)]
      exact q.2.1 i h1 h2 h3 h4
  · rw [pk_un (by omega)]
    exact q.2.2 i hi
