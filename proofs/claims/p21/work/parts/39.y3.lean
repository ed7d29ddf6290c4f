theorem slot_n {k : Int32} (h : 0 ≤ k ∧ k ≤ 1) : ∃ j, j < 2 ∧ k = nI j := by
  obtain ⟨j, hj, e⟩ := nI_of (x := k) (Int32.not_lt.mpr h.1)
  subst e
  exact ⟨j, by have := (nI_leI hj (b := 1) (by decide)).mp h.2; omega, rfl⟩
theorem numB_0 (m : MT) : numB 0 m = m.1 8 := rfl
def fsn (j : Nat) : Nat := if j = 0 then 3 else if j = 1 then 4 else if j = 2 then 5 else if j = 3 then 9 else if j = 4 then 6 else 7
theorem fsn_v {j : Nat} (h : j < 6) : lstA [3, 4, 5, 9, 6, 7] j = nI (fsn j) := by
  rcases (show j = 0 ∨ j = 1 ∨ j = 2 ∨ j = 3 ∨ j = 4 ∨ j = 5 by omega) with rfl | rfl | rfl | rfl | rfl | rfl <;> decide
theorem fsn_b (j : Nat) : fsn j = 3 ∨ fsn j = 4 ∨ fsn j = 5 ∨ fsn j = 9 ∨ fsn j = 6 ∨ fsn j = 7 := by
  unfold fsn
  repeat' (split; simp)
  simp
theorem numB_f {k : Nat} (h : k < 14) (h1 : k ≠ 1) (h2 : k ≠ 11) (h3 : k ≠ 12) (m : MT) : numB k m = m.1 (8 + k) := by
  unfold numB
  rw [if_pos h, hAll, if_neg (by omega), if_neg (by omega), if_neg (by omega)]
theorem numB_fs (j : Nat) (m : MT) : numB (fsn j) m = m.1 (8 + fsn j) := by
  have := fsn_b j
  exact numB_f (by omega) (by omega) (by omega) (by omega) m
theorem mIf_f {n j : Nat} {m : MT} (hn : n ≤ 99) (h : okT (nI n) = true) (hj : j < 6) : mIf (nI n) (nI j) m = (mTicks n m).1 (8 + fsn j) - m.1 (8 + fsn j) := by
  rw [mIf, h, nI_clamp (by omega)]
  rcases (show j = 0 ∨ j = 1 ∨ j = 2 ∨ j = 3 ∨ j = 4 ∨ j = 5 by omega) with rfl | rfl | rfl | rfl | rfl | rfl <;> rfl
theorem mIf_6 {n : Nat} {m : MT} (hn : n ≤ 99) (h : okT (nI n) = true) : mIf (nI n) 6 m = (mTicks n m).1 18 := by
  rw [mIf, h, nI_clamp (by omega)]
  rfl
theorem mIf_t {v w : Int32} {m : MT} (h : okT v = false) : mIf v w m = -2 := by rw [mIf, h]; rfl
/-- the class with another belt to try on -/
theorem CAt.try {g : GE} {ad : Nat → Nat} {o : Nat} {S : ST} {m : MT} {u v : Nat → va_E} (h : CAt g ad o S u) (hN : BAt g ad (o + 17) m v) (he : ∀ q, q < o + 17 ∨ o + 33 ≤ q → v q = u q) : CAt g ad o S v := by
  obtain ⟨⟨h1, -, h3, ⟨sv, h4, h5⟩, sg, h6, h7, h8⟩, h9, h10⟩ := h
  refine ⟨⟨(he _ (by omega)).trans h1, ⟨m, hN⟩, (he _ (by omega)).trans h3, ⟨sv, (he _ (by omega)).trans h4, fun k hk => ?_⟩, sg, (he _ (by omega)).trans h6, (he _ (by omega)).trans h7, h8⟩, h9.keep fun q a b => he q (by omega), h10.keep fun q a b => he q (by omega)⟩
  obtain ⟨m, q1, q2⟩ := h5 k hk
  exact ⟨m, q1.keep fun q a b => he q (by omega), q2⟩
theorem inX0_X4_ifPass : ∀ w ∈ wsX00, w ∈ wsX4_ifPass := by decide +kernel
theorem inX1_X4_ifPass : ∀ w ∈ wsX10, w ∈ wsX4_ifPass := by decide +kernel
theorem inX4_X4_ifPass : ∀ w ∈ wsX40, w ∈ wsX4_ifPass := by decide +kernel
abbrev rmX4_ifPass : Room := { frames := 4, cells := 0, slots := 0, locals := 107 }
set_option maxHeartbeats 4000000 in
set_option maxRecDepth 100000 in
theorem c_X4_ifPass (g : GE) (lau : Launch) {N : Nat} {ad : Nat → Nat} {f : Nat → va_E} {o : Nat} (hN : o + 183 ≤ N) {S : ST} (hS : CAt g ad o S f) (v w : Int32) (hok : ∀ n, n ≤ 99 → TicksOK n S.1) (hmk : MarkOK S.1) : Ct g lau yX4_ifPass wsX4_ifPass rmX4_ifPass N ad [.ref (ad o), .int (v), .int (w)] f (pI N ad (fun x u => x = mIf v w S.1 ∧ CAt g ad o S u ∧ ∀ q, q < o ∨ o + 183 ≤ q → u q = f q)) 0 0 := by
  refine Ct.of (maxL := 3) rfl (by decide +kernel) [some (.ref (ad o)), some (.int (v)), some (.int (w))] (Nat.le_of_ble_eq_true rfl) (by simp [lvo, lv_args, Value.category]) (fun E hnl _ hC hR => ?_)
  refine V_iload_n hC dX4_ifPass_0 rfl rfl ?_
  refine V_csI (n := 1) hC (c_X4_canTry g (eL E) v) dX4_ifPass_1 gX4_ifPass_X4_canTry rfl rfl rfl ⟨rfl, rfl⟩ (by decide +kernel) (by decide +kernel) (Nat.le_of_ble_eq_true rfl) (by decide) (fun x1 u1 h1 => ?_)
  rcases h1 with ⟨rfl, hT, he⟩ | ⟨rfl, hT, he⟩
  · obtain rfl := he.symm
    obtain ⟨n, hn, rfl⟩ := okT_n hT
    refine V_if_eq_f (tgt := 19) hC dX4_ifPass_4 (by decide) (by decide) ?_
    refine V_iload_n hC dX4_ifPass_7 rfl rfl ?_
    refine V_if_lt hC 19 dX4_ifPass_8 (by decide) (fun c8 => ?_) (fun c8 => ?_)
    · have hw : ¬ ((0 : Int32) ≤ w ∧ w ≤ 6) := fun q => absurd q.1 (Int32.not_le.mpr c8)
      refine V_bipush hC (-2) dX4_ifPass_19 (by decide) ?_
      refine V_iret hC hR dX4_ifPass_21 ⟨rfl, rfl, _, rfl, ?_⟩
      first | exact ⟨(mIf_t hT).symm, hS, fun q hq => rfl⟩ | exact ⟨(mIf_no hT hw).symm, hS, fun q hq => rfl⟩
    · have hw0 : 0 ≤ w := Int32.not_lt.mp c8
      refine V_iload_n hC dX4_ifPass_11 rfl rfl ?_
      refine V_gets hC hC.2.2.2.2.2.2.2.1.2.2.2.1 dX4_ifPass_12 (by decide +kernel) ?_
      refine V_talen hC hC.2.2.2.2.2.2.2.1.2.2.2.1 6 rfl dX4_ifPass_15 ?_
      refine V_icmp_le hC 22 dX4_ifPass_16 (by decide) (fun c16 => ?_) (fun c16 => ?_)
      · obtain ⟨j, hj7, rfl⟩ := lt_n (n := 7) (by decide) c8 (by have e1 := Int32.le_iff_toInt_le.mp c16; have e2 : (6 : Int32).toInt = 6 := rfl; have e3 : (nI 7).toInt = 7 := rfl; rw [Int32.le_iff_toInt_le, e3]; omega)
        obtain ⟨m1, s, t, p, bc, co, ex, rc, pl, pn, wy, gx, hB, hm1⟩ := id hS.1.2.1
        obtain ⟨s2, t2, p2, bc2, co2, ex2, rc2, pl2, pn2, wy2, gx2, hB2, hm⟩ := id hS.2.1
        refine V_aload_n hC dX4_ifPass_22 rfl rfl ?_
        refine V_get hC 1 dX4_ifPass_23 (by omega) hS.1.1 rfl (by decide) inX4_X4_ifPass (by decide +kernel) rfl ?_
        refine V_aload_n hC dX4_ifPass_26 rfl rfl ?_
        refine V_get hC 0 dX4_ifPass_27 (by omega) hS.1.1 rfl (by decide) inX4_X4_ifPass (by decide +kernel) rfl ?_
        refine V_f hB.self ?_
        refine V_cvV (n := 1) hC (c_X0_copyFrom g (eL E) (f := f) (c := o + 17) (by omega) hm1 (c2 := o + 1) (by omega) (by omega) hB2 hm) dX4_ifPass_30 gX4_ifPass_X0_copyFrom rfl rfl rfl ⟨rfl, rfl⟩ (by decide +kernel) (by decide +kernel) (by omega) zB_0 rfl (Nat.le_of_ble_eq_true rfl) (by decide) (fun u30 h30 => ?_)
        obtain hu := h30
        obtain ⟨b1, b2⟩ := BIs.at h30
        have eo := (b2 o (by omega)).trans hS.1.1
        obtain ⟨s3, t3, p3, bc3, co3, ex3, rc3, pl3, pn3, wy3, gx3, hB3, hm3⟩ := id b1
        refine V_aload_n hC dX4_ifPass_33 rfl rfl ?_
        refine V_get hC 1 dX4_ifPass_34 (by omega) eo rfl (by decide) inX4_X4_ifPass (by decide +kernel) rfl ?_
        refine V_iload_n hC dX4_ifPass_37 rfl rfl ?_
        refine V_f hB3.self ?_
        refine V_cvV (n := 1) hC (c_X0_tickOn g (eL E) (f := u30) (c := o + 17) (by omega) (n := n) (by omega) hm3 (hok n hn) hmk) dX4_ifPass_38 gX4_ifPass_X0_tickOn rfl rfl rfl ⟨rfl, rfl⟩ (by decide +kernel) (by decide +kernel) (by omega) zB_0 rfl (Nat.le_of_ble_eq_true rfl) (by decide) (fun u38 h38 => ?_)
        obtain hu := h38
        obtain ⟨d1, d2⟩ := BIs.at h38
        have eo2 := (d2 o (by omega)).trans eo
        obtain ⟨s4, t4, p4, bc4, co4, ex4, rc4, pl4, pn4, wy4, gx4, hB4, hm4⟩ := id d1
        have kp : ∀ q, q < o + 17 ∨ o + 33 ≤ q → u38 q = f q := fun q hq => (d2 q (by omega)).trans (b2 q (by omega))
        have hB5 := hB2.keep (v := u38) fun q a b => kp q (by omega)
        refine V_iload_n hC dX4_ifPass_41 rfl rfl ?_
        refine V_gets hC hC.2.2.2.2.2.2.2.1.2.2.2.1 dX4_ifPass_42 (by decide +kernel) ?_
        refine V_talen hC hC.2.2.2.2.2.2.2.1.2.2.2.1 6 rfl dX4_ifPass_45 ?_
        refine V_icmp_ne hC 59 dX4_ifPass_46 (by decide) (fun c46 => ?_) (fun c46 => ?_)
        · have hj6 : j < 6 := by rcases Nat.lt_or_ge j 6 with q | q; exact q; exact absurd (by rw [show j = 6 by omega]; rfl) c46
          refine V_aload_n hC dX4_ifPass_59 rfl rfl ?_
          refine V_get hC 1 dX4_ifPass_60 (by omega) eo2 rfl (by decide) inX4_X4_ifPass (by decide +kernel) rfl ?_
          refine V_gets hC hC.2.2.2.2.2.2.2.1.2.2.2.1 dX4_ifPass_63 (by decide +kernel) ?_
          refine V_iload_n hC dX4_ifPass_66 rfl rfl ?_
          refine V_tald hC hC.2.2.2.2.2.2.2.1.2.2.2.1 dX4_ifPass_67 (ix_nI (j := j) hj6 (by decide)) ?_
          refine V_eqt (nI (fsn j)) (fsn_v hj6) ?_
          refine V_f hB4.self ?_
          refine V_cvI (n := 1) hC (c_X0_number g (eL E) (f := u38) (c := (o + 17)) (by omega) hm4 (k := fsn j) (by have := fsn_b j; omega)) dX4_ifPass_68 gX4_ifPass_X0_number rfl rfl rfl ⟨rfl, rfl⟩ (by decide +kernel) (by decide +kernel) (by omega) zB_0 rfl (Nat.le_of_ble_eq_true rfl) (by decide) (fun x68 u68 h68 => ?_)
          obtain ⟨rfl, rfl⟩ := h68
          refine V_f hB4.self.symm ?_
          refine V_aload_n hC dX4_ifPass_71 rfl rfl ?_
          refine V_get hC 0 dX4_ifPass_72 (by omega) eo2 rfl (by decide) inX4_X4_ifPass (by decide +kernel) rfl ?_
          refine V_gets hC hC.2.2.2.2.2.2.2.1.2.2.2.1 dX4_ifPass_75 (by decide +kernel) ?_
          refine V_iload_n hC dX4_ifPass_78 rfl rfl ?_
          refine V_tald hC hC.2.2.2.2.2.2.2.1.2.2.2.1 dX4_ifPass_79 (ix_nI (j := j) hj6 (by decide)) ?_
          refine V_eqt (nI (fsn j)) (fsn_v hj6) ?_
          refine V_f hB5.self ?_
          refine V_cvI (n := 1) hC (c_X0_number g (eL E) (f := u38) (c := (o + 1)) (by omega) hm (k := fsn j) (by have := fsn_b j; omega)) dX4_ifPass_80 gX4_ifPass_X0_number rfl rfl rfl ⟨rfl, rfl⟩ (by decide +kernel) (by decide +kernel) (by omega) zB_0 rfl (Nat.le_of_ble_eq_true rfl) (by decide) (fun x80 u80 h80 => ?_)
          obtain ⟨rfl, rfl⟩ := h80
          refine V_f hB5.self.symm ?_
          refine V_isub hC dX4_ifPass_83 ?_
          refine V_iret hC hR dX4_ifPass_84 ⟨rfl, rfl, _, rfl, ?_⟩
          exact ⟨by rw [mIf_f hn hT hj6, numB_fs, numB_fs], hS.try d1 kp, fun q hq => kp q (by omega)⟩
        · have hj6 : j = 6 := (nI_eq (b := 6) (by omega) (by decide)).mp c46
          subst hj6
          refine V_aload_n hC dX4_ifPass_49 rfl rfl ?_
          refine V_get hC 1 dX4_ifPass_50 (by omega) eo2 rfl (by decide) inX4_X4_ifPass (by decide +kernel) rfl ?_
          refine V_bipush hC 10 dX4_ifPass_53 (by decide) ?_
          refine V_eqt (nI 10) rfl ?_
          refine V_f hB4.self ?_
          refine V_cvI (n := 1) hC (c_X0_number g (eL E) (f := u38) (c := (o + 17)) (by omega) hm4 (k := 10) (by omega)) dX4_ifPass_55 gX4_ifPass_X0_number rfl rfl rfl ⟨rfl, rfl⟩ (by decide +kernel) (by decide +kernel) (by omega) zB_0 rfl (Nat.le_of_ble_eq_true rfl) (by decide) (fun x55 u55 h55 => ?_)
          obtain ⟨rfl, rfl⟩ := h55
          refine V_f hB4.self.symm ?_
          refine V_iret hC hR dX4_ifPass_58 ⟨rfl, rfl, _, rfl, ?_⟩
          exact ⟨(mIf_6 hn hT).symm, hS.try d1 kp, fun q hq => kp q (by omega)⟩
      · have hw : ¬ ((0 : Int32) ≤ w ∧ w ≤ 6) := fun q => absurd q.2 c16
        refine V_bipush hC (-2) dX4_ifPass_19 (by decide) ?_
        refine V_iret hC hR dX4_ifPass_21 ⟨rfl, rfl, _, rfl, ?_⟩
        first | exact ⟨(mIf_t hT).symm, hS, fun q hq => rfl⟩ | exact ⟨(mIf_no hT hw).symm, hS, fun q hq => rfl⟩
  · obtain rfl := he.symm
    refine V_if_eq_t hC 19 dX4_ifPass_4 (by decide) rfl ?_
    refine V_bipush hC (-2) dX4_ifPass_19 (by decide) ?_
    refine V_iret hC hR dX4_ifPass_21 ⟨rfl, rfl, _, rfl, ?_⟩
    first | exact ⟨(mIf_t hT).symm, hS, fun q hq => rfl⟩ | exact ⟨(mIf_no hT hw).symm, hS, fun q hq => rfl⟩
theorem inX0_X4_goodWithGuess : ∀ w ∈ wsX00, w ∈ wsX4_goodWithGuess := by decide +kernel
theorem inX1_X4_goodWithGuess : ∀ w ∈ wsX10, w ∈ wsX4_goodWithGuess := by decide +kernel
theorem inX4_X4_goodWithGuess : ∀ w ∈ wsX40, w ∈ wsX4_goodWithGuess := by decide +kernel
abbrev rmX4_goodWithGuess : Room := { frames := 4, cells := 0, slots := 0, locals := 107 }
set_option maxHeartbeats 4000000 in
set_option maxRecDepth 100000 in
theorem c_X4_goodWithGuess (g : GE) (lau : Launch) {N : Nat} {ad : Nat → Nat} {f : Nat → va_E} {o : Nat} (hN : o + 183 ≤ N) {S : ST} (hS : CAt g ad o S f) {k n : Nat} (hn : n ≤ 99) (hok : TicksOK n (withH S.1 2 (nI k))) (hmk : MarkOK (withH S.1 2 (nI k))) : Ct g lau yX4_goodWithGuess wsX4_goodWithGuess rmX4_goodWithGuess N ad [.ref (ad o), .int (nI k), .int (nI n)] f (pI N ad (fun x u => x = brg n 11 (withH S.1 2 (nI k)) ∧ CAt g ad o S u ∧ ∀ q, q < o ∨ o + 183 ≤ q → u q = f q)) 0 0 := by
  refine Ct.of (maxL := 3) rfl (by decide +kernel) [some (.ref (ad o)), some (.int (nI k)), some (.int (nI n))] (Nat.le_of_ble_eq_true rfl) (by simp [lvo, lv_args, Value.category]) (fun E hnl _ hC hR => ?_)
  obtain ⟨m1, s, t, p, bc, co, ex, rc, pl, pn, wy, gx, hB, hm1⟩ := id hS.1.2.1
  obtain ⟨s2, t2, p2, bc2, co2, ex2, rc2, pl2, pn2, wy2, gx2, hB2, hm⟩ := id hS.2.1
  refine V_aload_n hC dX4_goodWithGuess_0 rfl rfl ?_
  refine V_get hC 1 dX4_goodWithGuess_1 (by omega) hS.1.1 rfl (by decide) inX4_X4_goodWithGuess (by decide +kernel) rfl ?_
  refine V_aload_n hC dX4_goodWithGuess_4 rfl rfl ?_
  refine V_get hC 0 dX4_goodWithGuess_5 (by omega) hS.1.1 rfl (by decide) inX4_X4_goodWithGuess (by decide +kernel) rfl ?_
  refine V_f hB.self ?_
  refine V_cvV (n := 1) hC (c_X0_copyFrom g (eL E) (f := f) (c := o + 17) (by omega) hm1 (c2 := o + 1) (by omega) (by omega) hB2 hm) dX4_goodWithGuess_8 gX4_goodWithGuess_X0_copyFrom rfl rfl rfl ⟨rfl, rfl⟩ (by decide +kernel) (by decide +kernel) (by omega) zB_0 rfl (Nat.le_of_ble_eq_true rfl) (by decide) (fun u8 h8 => ?_)
  obtain hu := h8
  obtain ⟨b1, b2⟩ := BIs.at h8
  have eo := (b2 o (by omega)).trans hS.1.1
  obtain ⟨s3, t3, p3, bc3, co3, ex3, rc3, pl3, pn3, wy3, gx3, hB3, hm3⟩ := id b1
  refine V_aload_n hC dX4_goodWithGuess_11 rfl rfl ?_
  refine V_get hC 1 dX4_goodWithGuess_12 (by omega) eo rfl (by decide) inX4_X4_goodWithGuess (by decide +kernel) rfl ?_
  refine V_f hB3.self ?_
  have eo3 : (zB g ad u8 (o + 17) (upd s3 2 (nI k)) t3 p3 bc3 co3 ex3 rc3 pl3 pn3 wy3 gx3) o = _ := (zB_out (by omega)).trans eo
  have hm5 : RepB (upd s3 2 (nI k)) t3 p3 bc3 co3 ex3 rc3 pl3 pn3 wy3 gx3 (withH S.1 2 (nI k)) := ⟨hm3.1.s (k := 2) (by decide), hm3.2.1, hm3.2.2.1, hm3.2.2.2⟩
  refine V_B_settings hC (show o + 17 + 16 ≤ N by omega) dX4_goodWithGuess_15 inX0_X4_goodWithGuess (by decide +kernel) ?_
  refine V_iconst hC 2 dX4_goodWithGuess_18 (by decide) ?_
  refine V_iload_n hC dX4_goodWithGuess_19 rfl rfl ?_
  refine V_B_st1 hC (show o + 17 + 16 ≤ N by omega) dX4_goodWithGuess_20 (ix_c (k := 2) (by decide)) ?_
  refine V_aload_n hC dX4_goodWithGuess_21 rfl rfl ?_
  refine V_get hC 1 dX4_goodWithGuess_22 (by omega) eo3 rfl (by decide) inX4_X4_goodWithGuess (by decide +kernel) rfl ?_
  refine V_iload_n hC dX4_goodWithGuess_25 rfl rfl ?_
  refine V_cvV (n := 1) hC (c_X0_tickOn g (eL E) (f := u8) (c := o + 17) (by omega) (n := n) (by omega) hm5 hok hmk) dX4_goodWithGuess_26 gX4_goodWithGuess_X0_tickOn rfl rfl rfl ⟨rfl, rfl⟩ (by decide +kernel) (by decide +kernel) (by omega) zB_0 rfl (Nat.le_of_ble_eq_true rfl) (by decide) (fun u26 h26 => ?_)
  obtain hu := h26
  obtain ⟨d1, d2⟩ := BIs.at h26
  have eo2 := (d2 o (by omega)).trans eo
  obtain ⟨s4, t4, p4, bc4, co4, ex4, rc4, pl4, pn4, wy4, gx4, hB4, hm4⟩ := id d1
  have kp : ∀ q, q < o + 17 ∨ o + 33 ≤ q → u26 q = f q := fun q hq => (d2 q (by omega)).trans (b2 q (by omega))
  have hB5 := hB2.keep (v := u26) fun q a b => kp q (by omega)
  refine V_aload_n hC dX4_goodWithGuess_29 rfl rfl ?_
  refine V_get hC 1 dX4_goodWithGuess_30 (by omega) eo2 rfl (by decide) inX4_X4_goodWithGuess (by decide +kernel) rfl ?_
  refine V_iconst hC 3 dX4_goodWithGuess_33 (by decide) ?_
  refine V_eqt (nI 3) rfl ?_
  refine V_f hB4.self ?_
  refine V_cvI (n := 1) hC (c_X0_number g (eL E) (f := u26) (c := (o + 17)) (by omega) hm4 (k := 3) (by omega)) dX4_goodWithGuess_34 gX4_goodWithGuess_X0_number rfl rfl rfl ⟨rfl, rfl⟩ (by decide +kernel) (by decide +kernel) (by omega) zB_0 rfl (Nat.le_of_ble_eq_true rfl) (by decide) (fun x34 u34 h34 => ?_)
  obtain ⟨rfl, rfl⟩ := h34
  refine V_f hB4.self.symm ?_
  refine V_aload_n hC dX4_goodWithGuess_37 rfl rfl ?_
  refine V_get hC 0 dX4_goodWithGuess_38 (by omega) eo2 rfl (by decide) inX4_X4_goodWithGuess (by decide +kernel) rfl ?_
  refine V_iconst hC 3 dX4_goodWithGuess_41 (by decide) ?_
  refine V_eqt (nI 3) rfl ?_
  refine V_f hB5.self ?_
  refine V_cvI (n := 1) hC (c_X0_number g (eL E) (f := u26) (c := (o + 1)) (by omega) hm (k := 3) (by omega)) dX4_goodWithGuess_42 gX4_goodWithGuess_X0_number rfl rfl rfl ⟨rfl, rfl⟩ (by decide +kernel) (by decide +kernel) (by omega) zB_0 rfl (Nat.le_of_ble_eq_true rfl) (by decide) (fun x42 u42 h42 => ?_)
  obtain ⟨rfl, rfl⟩ := h42
  refine V_f hB5.self.symm ?_
  refine V_isub hC dX4_goodWithGuess_45 ?_
  refine V_iret hC hR dX4_goodWithGuess_46 ⟨rfl, rfl, _, rfl, ?_⟩
  exact ⟨rfl, hS.try d1 kp, fun q hq => kp q (by omega)⟩
