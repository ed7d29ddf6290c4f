theorem zB_0 {g : GE} {ad : Nat → Nat} {f : Nat → va_E} {c : Nat} {s t : Nat → Int32} {p : Nat → Nat} {bc : Int32} {co ex : Nat → Int32} {rc : Int32} {pl : Nat → Int32} {pn : Int32} {wy : Nat → Int32} {gx : Nat → Nat → Int32} : zB g ad f c s t p bc co ex rc pl pn wy gx c = .inr (0, [.ref (ad (c + 1)), .ref (ad (c + 2)), .ref (ad (c + 3)), .int bc, .ref (ad (c + 4)), .ref (ad (c + 5)), .int rc, .ref (ad (c + 6)), .int pn, .ref (ad (c + 7))]) := zB0_0
theorem lt_n {v : Int32} {n : Nat} (hn : n < 2 ^ 31) (h0 : ¬ v < 0) (h : ¬ nI n ≤ v) : ∃ k, k < n ∧ v = nI k := by
  obtain ⟨k, hk, e⟩ := nI_of h0
  subst e
  rcases Nat.lt_or_ge k n with q | q
  · exact ⟨k, q, rfl⟩
  · exact absurd (nI_le q hk) h
theorem lt_no {v : Int32} {n : Nat} (hn : n < 2 ^ 31) (h : v < 0 ∨ nI n ≤ v) : ¬ ∃ k, k < n ∧ v = nI k := by
  rintro ⟨k, hk, rfl⟩
  rcases h with h | h
  · exact nI_pos (by omega) h
  · exact nI_ge hk hn h
theorem inX0_X0_isBox : ∀ w ∈ wsX00, w ∈ wsX0_isBox := by decide +kernel
abbrev rmX0_isBox : Room := { frames := 0, cells := 0, slots := 0, locals := 0 }
set_option maxHeartbeats 4000000 in
set_option maxRecDepth 100000 in
theorem c_X0_isBox (g : GE) (lau : Launch) {N : Nat} {ad : Nat → Nat} {f : Nat → va_E} {c : Nat} {s t : Nat → Int32} {p : Nat → Nat} {bc : Int32} {co ex : Nat → Int32} {rc : Int32} {pl : Nat → Int32} {pn : Int32} {wy : Nat → Int32} {gx : Nat → Nat → Int32} (hN : c + 16 ≤ N) {bs : List (Nat → Int32)} (hx : qX p gx bc bs) (v : Int32) : Ct g lau yX0_isBox wsX0_isBox rmX0_isBox N ad [.ref (ad c), .int (v)] (zB g ad f c s t p bc co ex rc pl pn wy gx) (pI N ad (fun x u => (x = 1 ∧ (∃ k, k < bs.length ∧ v = nI k) ∧ u = (zB g ad f c s t p bc co ex rc pl pn wy gx)) ∨ (x = 0 ∧ ¬ (∃ k, k < bs.length ∧ v = nI k) ∧ u = (zB g ad f c s t p bc co ex rc pl pn wy gx)))) 0 0 := by
  refine Ct.of (maxL := 2) rfl (by decide +kernel) [some (.ref (ad c)), some (.int (v))] (Nat.le_of_ble_eq_true rfl) (by simp [lvo, lv_args, Value.category]) (fun E hnl _ hC hR => ?_)
  have hl : bs.length < 2 ^ 31 := Nat.lt_of_le_of_lt hx.2.1 (by decide)
  refine V_iload_n hC dX0_isBox_0 rfl rfl ?_
  refine V_if_lt hC 16 dX0_isBox_1 (by decide) (fun c1 => ?_) (fun c1 => ?_)
  · refine V_iconst hC 0 dX0_isBox_16 (by decide) ?_
    refine V_zret hC hR rfl dX0_isBox_17 ⟨rfl, rfl, _, rfl, ?_⟩
    first | exact Or.inl ⟨rfl, lt_n hl c1 c9, rfl⟩ | exact Or.inr ⟨rfl, lt_no hl (Or.inl c1), rfl⟩ | exact Or.inr ⟨rfl, lt_no hl (Or.inr c9), rfl⟩
  · refine V_iload_n hC dX0_isBox_4 rfl rfl ?_
    refine V_aload_n hC dX0_isBox_5 rfl rfl ?_
    refine V_B_boxCount hC hN dX0_isBox_6 inX0_X0_isBox (by decide +kernel) ?_
    refine V_icmp_ge hC 16 dX0_isBox_9 (by decide) (fun c9 => ?_) (fun c9 => ?_)
    · rw [hx.1] at c9
      refine V_iconst hC 0 dX0_isBox_16 (by decide) ?_
      refine V_zret hC hR rfl dX0_isBox_17 ⟨rfl, rfl, _, rfl, ?_⟩
      first | exact Or.inl ⟨rfl, lt_n hl c1 c9, rfl⟩ | exact Or.inr ⟨rfl, lt_no hl (Or.inl c1), rfl⟩ | exact Or.inr ⟨rfl, lt_no hl (Or.inr c9), rfl⟩
    · rw [hx.1] at c9
      refine V_iconst hC 1 dX0_isBox_12 (by decide) ?_
      refine V_goto hC 17 dX0_isBox_13 (by decide) ?_
      refine V_zret hC hR rfl dX0_isBox_17 ⟨rfl, rfl, _, rfl, ?_⟩
      first | exact Or.inl ⟨rfl, lt_n hl c1 c9, rfl⟩ | exact Or.inr ⟨rfl, lt_no hl (Or.inl c1), rfl⟩ | exact Or.inr ⟨rfl, lt_no hl (Or.inr c9), rfl⟩
theorem okS_iff {j : Nat} {v : Int32} (hj : j < 8) : okS (nI j) v = true ↔ lowS j ≤ v ∧ v ≤ highS j := by
  simp only [okS, Bool.and_eq_true, decide_eq_true_eq, nI_clamp (show j < 2 ^ 31 by omega)]
  constructor
  · rintro ⟨⟨⟨-, -⟩, h3⟩, h4⟩
    exact ⟨h3, h4⟩
  · rintro ⟨h3, h4⟩
    exact ⟨⟨⟨nI_pos' (by omega), (nI_ltI (b := 8) (by omega) (by decide)).mpr hj⟩, h3⟩, h4⟩
theorem inX0_X0_choose : ∀ w ∈ wsX00, w ∈ wsX0_choose := by decide +kernel
abbrev rmX0_choose : Room := { frames := 0, cells := 0, slots := 0, locals := 0 }
set_option maxHeartbeats 4000000 in
set_option maxRecDepth 100000 in
theorem c_X0_choose (g : GE) (lau : Launch) {N : Nat} {ad : Nat → Nat} {f : Nat → va_E} {c : Nat} {s t : Nat → Int32} {p : Nat → Nat} {bc : Int32} {co ex : Nat → Int32} {rc : Int32} {pl : Nat → Int32} {pn : Int32} {wy : Nat → Int32} {gx : Nat → Nat → Int32} (hN : c + 16 ≤ N) {m : MT} (hm : RepB s t p bc co ex rc pl pn wy gx m) (k v : Int32) : Ct g lau yX0_choose wsX0_choose rmX0_choose N ad [.ref (ad c), .int (k), .int (v)] (zB g ad f c s t p bc co ex rc pl pn wy gx) (pI N ad (fun x u => x = (mSet k v m).1 ∧ BIs g ad f c (mSet k v m).2 u)) 0 0 := by
  refine Ct.of (maxL := 4) rfl (by decide +kernel) [some (.ref (ad c)), some (.int (k)), some (.int (v)), none] (Nat.le_of_ble_eq_true rfl) (by simp [lvo, lv_args, Value.category]) (fun E hnl _ hC hR => ?_)
  obtain ⟨hh, hx, hr, hp⟩ := hm
  refine V_iload_n hC dX0_choose_0 rfl rfl ?_
  refine V_if_lt hC 13 dX0_choose_1 (by decide) (fun c1 => ?_) (fun c1 => ?_)
  · have hno : okS k v = false := okS_no (Or.inl c1)
    refine V_bipush hC (-2) dX0_choose_13 (by decide) ?_
    refine V_iret hC hR dX0_choose_15 ⟨rfl, rfl, _, rfl, ?_⟩
    rw [mSet, hno]
    exact ⟨rfl, BIs.mk ⟨hh, hx, hr, hp⟩⟩
  · refine V_iload_n hC dX0_choose_4 rfl rfl ?_
    refine V_aload_n hC dX0_choose_5 rfl rfl ?_
    refine V_B_settings hC hN dX0_choose_6 inX0_X0_choose (by decide +kernel) ?_
    refine V_B_len1 hC hN 8 dX0_choose_9 rfl ?_
    refine V_icmp_lt hC 16 dX0_choose_10 (by decide) (fun c10 => ?_) (fun c10 => ?_)
    · obtain ⟨j, hj8, rfl⟩ := lt_n (n := 8) (by decide) c1 (Int32.not_le.mpr c10)
      refine V_iload_n hC dX0_choose_16 rfl rfl ?_
      refine V_gets hC hC.2.2.2.2.2.2.2.1.1 dX0_choose_17 (by decide +kernel) ?_
      refine V_iload_n hC dX0_choose_20 rfl rfl ?_
      refine V_tald hC hC.2.2.2.2.2.2.2.1.1 dX0_choose_21 (ix_nI (j := j) (by omega) (by decide)) ?_
      refine V_icmp_lt hC 34 dX0_choose_22 (by decide) (fun c22 => ?_) (fun c22 => ?_)
      · have hno : okS (nI j) v = false := by rw [← Bool.not_eq_true, okS_iff hj8]; exact fun q => absurd q.1 (Int32.not_le.mpr c22)
        refine V_bipush hC (-2) dX0_choose_34 (by decide) ?_
        refine V_iret hC hR dX0_choose_36 ⟨rfl, rfl, _, rfl, ?_⟩
        rw [mSet, hno]
        exact ⟨rfl, BIs.mk ⟨hh, hx, hr, hp⟩⟩
      · refine V_iload_n hC dX0_choose_25 rfl rfl ?_
        refine V_gets hC hC.2.2.2.2.2.2.2.1.2.1 dX0_choose_26 (by decide +kernel) ?_
        refine V_iload_n hC dX0_choose_29 rfl rfl ?_
        refine V_tald hC hC.2.2.2.2.2.2.2.1.2.1 dX0_choose_30 (ix_nI (j := j) (by omega) (by decide)) ?_
        refine V_icmp_le hC 37 dX0_choose_31 (by decide) (fun c31 => ?_) (fun c31 => ?_)
        · have hj : okS (nI j) v = true := (okS_iff hj8).mpr ⟨Int32.not_lt.mp c22, c31⟩
          refine V_aload_n hC dX0_choose_37 rfl rfl ?_
          refine V_B_settings hC hN dX0_choose_38 inX0_X0_choose (by decide +kernel) ?_
          refine V_iload_n hC dX0_choose_41 rfl rfl ?_
          refine V_B_ld1 hC hN dX0_choose_42 (ix_nI (j := j) (by omega) (by decide)) ?_
          refine V_istore_n3 hC dX0_choose_43 rfl (by rw [hnl]; decide) rfl ?_
          refine V_aload_n hC dX0_choose_44 rfl rfl ?_
          refine V_B_settings hC hN dX0_choose_45 inX0_X0_choose (by decide +kernel) ?_
          refine V_iload_n hC dX0_choose_48 rfl rfl ?_
          refine V_iload_n hC dX0_choose_49 rfl rfl ?_
          refine V_B_st1 hC hN dX0_choose_50 (ix_nI (j := j) (by omega) (by decide)) ?_
          refine V_iload_n hC dX0_choose_51 rfl rfl ?_
          refine V_iret hC hR dX0_choose_52 ⟨rfl, rfl, _, rfl, ?_⟩
          rw [mSet, hj]
          simp only [if_true]
          rw [nI_clamp (by omega)]
          exact ⟨hh.1 j hj8, BIs.mk ⟨hh.s hj8, hx, hr, hp⟩⟩
        · have hno : okS (nI j) v = false := by rw [← Bool.not_eq_true, okS_iff hj8]; exact fun q => absurd q.2 c31
          refine V_bipush hC (-2) dX0_choose_34 (by decide) ?_
          refine V_iret hC hR dX0_choose_36 ⟨rfl, rfl, _, rfl, ?_⟩
          rw [mSet, hno]
          exact ⟨rfl, BIs.mk ⟨hh, hx, hr, hp⟩⟩
    · have hno : okS k v = false := okS_no (Or.inr (Int32.not_lt.mp c10))
      refine V_bipush hC (-2) dX0_choose_13 (by decide) ?_
      refine V_iret hC hR dX0_choose_15 ⟨rfl, rfl, _, rfl, ?_⟩
      rw [mSet, hno]
      exact ⟨rfl, BIs.mk ⟨hh, hx, hr, hp⟩⟩
theorem inX0_X0_howManyLeft : ∀ w ∈ wsX00, w ∈ wsX0_howManyLeft := by decide +kernel
abbrev rmX0_howManyLeft : Room := { frames := 0, cells := 0, slots := 0, locals := 0 }
set_option maxHeartbeats 4000000 in
set_option maxRecDepth 100000 in
theorem c_X0_howManyLeft (g : GE) (lau : Launch) {N : Nat} {ad : Nat → Nat} {f : Nat → va_E} {c : Nat} {s t : Nat → Int32} {p : Nat → Nat} {bc : Int32} {co ex : Nat → Int32} {rc : Int32} {pl : Nat → Int32} {pn : Int32} {wy : Nat → Int32} {gx : Nat → Nat → Int32} (hN : c + 16 ≤ N) {h : Nat → Int32} (hh : qH s t wy h) : Ct g lau yX0_howManyLeft wsX0_howManyLeft rmX0_howManyLeft N ad [.ref (ad c)] (zB g ad f c s t p bc co ex rc pl pn wy gx) (pI N ad (fun x u => x = sLeft h ∧ u = (zB g ad f c s t p bc co ex rc pl pn wy gx))) 0 0 := by
  refine Ct.of (maxL := 1) rfl (by decide +kernel) [some (.ref (ad c))] (Nat.le_of_ble_eq_true rfl) (by simp [lvo, lv_args, Value.category]) (fun E hnl _ hC hR => ?_)
  refine V_aload_n hC dX0_howManyLeft_0 rfl rfl ?_
  refine V_B_tallies hC hN dX0_howManyLeft_1 inX0_X0_howManyLeft (by decide +kernel) ?_
  refine V_iconst hC 3 dX0_howManyLeft_4 (by decide) ?_
  refine V_B_ld2 hC hN (k := 3) dX0_howManyLeft_5 (ix_c (by decide)) ?_
  refine V_aload_n hC dX0_howManyLeft_6 rfl rfl ?_
  refine V_B_tallies hC hN dX0_howManyLeft_7 inX0_X0_howManyLeft (by decide +kernel) ?_
  refine V_iconst hC 4 dX0_howManyLeft_10 (by decide) ?_
  refine V_B_ld2 hC hN (k := 4) dX0_howManyLeft_11 (ix_c (by decide)) ?_
  refine V_iadd hC dX0_howManyLeft_12 ?_
  refine V_aload_n hC dX0_howManyLeft_13 rfl rfl ?_
  refine V_B_tallies hC hN dX0_howManyLeft_14 inX0_X0_howManyLeft (by decide +kernel) ?_
  refine V_iconst hC 5 dX0_howManyLeft_17 (by decide) ?_
  refine V_B_ld2 hC hN (k := 5) dX0_howManyLeft_18 (ix_c (by decide)) ?_
  refine V_iadd hC dX0_howManyLeft_19 ?_
  refine V_iret hC hR dX0_howManyLeft_20 ⟨rfl, rfl, _, rfl, ?_⟩
  exact ⟨by rw [hh.2.1 3 (by decide) (by decide) (by decide) (by decide), hh.2.1 4 (by decide) (by decide) (by decide) (by decide), hh.2.1 5 (by decide) (by decide) (by decide) (by decide)]; rfl, rfl⟩
theorem qX.push {p : Nat → Nat} {gx : Nat → Nat → Int32} {bc : Int32} {bs : List (Nat → Int32)} {y x : Nat → Int32} (q : qX p gx bc bs) (h : bs.length < 8) (hy : isX y x) : qX p (va_up gx (p bs.length) y) (bc + 1) (bs ++ [x]) := by
  refine ⟨by rw [q.1, List.length_append]; exact nI_1 _, by rw [List.length_append]; simp; omega, q.2.2.1, q.2.2.2.1, fun j w hw => ?_⟩
  have hj : j < bs.length + 1 := by simpa using (List.getElem?_eq_some_iff.mp hw).1
  by_cases h2 : j < bs.length
  · have hp : p j ≠ p bs.length := fun e => by have := q.2.2.2.1 j bs.length (by omega) h e; omega
    simp only [va_up, hp, if_false]
    exact q.2.2.2.2 j w ((cut_s h2).mp hw)
  · have : j = bs.length := by omega
    subst this
    rw [cut_m] at hw
    cases hw
    simp only [va_up, if_true]
    exact hy
theorem inX0_X0_takeBox : ∀ w ∈ wsX00, w ∈ wsX0_takeBox := by decide +kernel
theorem inX1_X0_takeBox : ∀ w ∈ wsX10, w ∈ wsX0_takeBox := by decide +kernel
abbrev rmX0_takeBox : Room := { frames := 1, cells := 0, slots := 0, locals := 22 }
set_option maxHeartbeats 4000000 in
set_option maxRecDepth 100000 in
theorem c_X0_takeBox (g : GE) (lau : Launch) {N : Nat} {ad : Nat → Nat} {f : Nat → va_E} {c : Nat} {s t : Nat → Int32} {p : Nat → Nat} {bc : Int32} {co ex : Nat → Int32} {rc : Int32} {pl : Nat → Int32} {pn : Int32} {wy : Nat → Int32} {gx : Nat → Nat → Int32} (hN : c + 16 ≤ N) {m : MT} (hm : RepB s t p bc co ex rc pl pn wy gx m) (v : Int32) : Ct g lau yX0_takeBox wsX0_takeBox rmX0_takeBox N ad [.ref (ad c), .int (v)] (zB g ad f c s t p bc co ex rc pl pn wy gx) (pI N ad (fun x u => x = (mArrive v m).1 ∧ BIs g ad f c (mArrive v m).2 u)) 0 0 := by
  refine Ct.of (maxL := 2) rfl (by decide +kernel) [some (.ref (ad c)), some (.int (v))] (Nat.le_of_ble_eq_true rfl) (by simp [lvo, lv_args, Value.category]) (fun E hnl _ hC hR => ?_)
  obtain ⟨hh, hx, hr, hp⟩ := hm
  have hl8 := hx.2.1
  have J : okLen v = true → m.2.1.length < 8 → nearIn m.2.1 = false → V E g N ad 0 0 (zB g ad f c s t p bc co ex rc pl pn wy gx) 50 [some (.ref (ad c)), some (.int (v))] [] := by
    intro hj hlt hn
    have hpl := hx.p8 hlt
    have e10 := hh.2.1 2 (by decide) (by decide) (by decide) (by decide)
    refine V_aload_n hC dX0_takeBox_50 rfl rfl ?_
    refine V_B_boxes hC hN dX0_takeBox_51 inX0_X0_takeBox (by decide +kernel) ?_
    refine V_aload_n hC dX0_takeBox_54 rfl rfl ?_
    refine V_B_boxCount hC hN dX0_takeBox_55 inX0_X0_takeBox (by decide +kernel) ?_
    refine V_B_ld3 hC hN dX0_takeBox_58 (ix_of (j := m.2.1.length) hx.1 hlt (by decide)) ?_
    refine V_iload_n hC dX0_takeBox_59 rfl rfl ?_
    refine V_aload_n hC dX0_takeBox_60 rfl rfl ?_
    refine V_B_tallies hC hN dX0_takeBox_61 inX0_X0_takeBox (by decide +kernel) ?_
    refine V_iconst hC 2 dX0_takeBox_64 (by decide) ?_
    refine V_B_ld2 hC hN (k := 2) dX0_takeBox_65 (ix_c (by decide)) ?_
    refine V_cvV (n := 2) hC (c_X1_begin g (eL E) (i := c + 8 + p m.2.1.length) (by omega) (zB_box hpl) v _) dX0_takeBox_66 gX0_takeBox_X1_begin rfl rfl rfl ⟨rfl, rfl⟩ (by decide +kernel) (by decide +kernel) (by have := hpl; omega) (zB_box hpl) rfl (Nat.le_of_ble_eq_true rfl) (by decide) (fun u66 h66 => ?_)
    obtain rfl := h66
    refine V_f (zB_ubox hpl) ?_
    refine V_aload_n hC dX0_takeBox_69 rfl rfl ?_
    refine V_B_tallies hC hN dX0_takeBox_70 inX0_X0_takeBox (by decide +kernel) ?_
    refine V_iconst hC 2 dX0_takeBox_73 (by decide) ?_
    refine V_dup2 hC dX0_takeBox_74 rfl rfl ?_
    refine V_B_ld2 hC hN (k := 2) dX0_takeBox_75 (ix_c (by decide)) ?_
    refine V_iconst hC 1 dX0_takeBox_76 (by decide) ?_
    refine V_iadd hC dX0_takeBox_77 ?_
    refine V_B_st2 (k := 2) hC hN dX0_takeBox_78 (ix_c (by decide)) ?_
    refine V_aload_n hC dX0_takeBox_79 rfl rfl ?_
    refine V_dup hC dX0_takeBox_80 rfl ?_
    refine V_B_boxCount hC hN dX0_takeBox_81 inX0_X0_takeBox (by decide +kernel) ?_
    refine V_iconst hC 1 dX0_takeBox_84 (by decide) ?_
    refine V_iadd hC dX0_takeBox_85 ?_
    refine V_B_put_boxCount hC hN dX0_takeBox_86 inX0_X0_takeBox (by decide +kernel) ?_
    refine V_aload_n hC dX0_takeBox_89 rfl rfl ?_
    refine V_B_boxCount hC hN dX0_takeBox_90 inX0_X0_takeBox (by decide +kernel) ?_
    refine V_iconst hC 1 dX0_takeBox_93 (by decide) ?_
    refine V_isub hC dX0_takeBox_94 ?_
    refine V_iret hC hR dX0_takeBox_95 ⟨rfl, rfl, _, rfl, ?_⟩
    have q : mArrive v m = (nI m.2.1.length, (upd m.1 10 (m.1 10 + 1), m.2.1 ++ [newX v (m.1 10)], m.2.2)) := by rw [mArrive, if_pos hj, if_neg (by omega), hn]; rfl
    rw [q]
    refine ⟨by rw [hx.1, Int32.add_sub_cancel], BIs.mk ⟨?_, ?_, hr, hp⟩⟩
    · rw [e10]
      exact hh.t (k := 2) (by decide)
    · rw [e10]
      refine hx.push hlt ?_
      exact ⟨rfl, rfl, rfl, rfl, rfl, Or.inl ⟨rfl, rfl⟩, Or.inl rfl, Or.inl rfl⟩
  refine V_iload_n hC dX0_takeBox_0 rfl rfl ?_
  refine V_csI (n := 1) hC (c_X1_canHave g (eL E) v) dX0_takeBox_1 gX0_takeBox_X1_canHave rfl rfl rfl ⟨rfl, rfl⟩ (by decide +kernel) (by decide +kernel) (Nat.le_of_ble_eq_true rfl) (by decide) (fun x1 u1 h1 => ?_)
  rcases h1 with ⟨rfl, hj, rfl⟩ | ⟨rfl, hj, rfl⟩
  · refine V_if_ne_t hC 10 dX0_takeBox_4 (by decide) (by decide) ?_
    refine V_aload_n hC dX0_takeBox_10 rfl rfl ?_
    refine V_B_boxCount hC hN dX0_takeBox_11 inX0_X0_takeBox (by decide +kernel) ?_
    refine V_bipush hC 8 dX0_takeBox_14 (by decide) ?_
    refine V_icmp_lt hC 22 dX0_takeBox_16 (by decide) (fun c16 => ?_) (fun c16 => ?_)
    · have h8 : m.2.1.length < 8 := by rw [hx.1] at c16; exact (nI_ltI (b := 8) (by omega) (by decide)).mp c16
      refine V_aload_n hC dX0_takeBox_22 rfl rfl ?_
      refine V_B_boxCount hC hN dX0_takeBox_23 inX0_X0_takeBox (by decide +kernel) ?_
      refine V_if_le hC 50 dX0_takeBox_26 (by decide) (fun c26 => ?_) (fun c26 => ?_)
      · have h0 : m.2.1.length = 0 := by rw [hx.1] at c26; rcases Nat.eq_zero_or_pos m.2.1.length with q | q; exact q; exact absurd c26 (nI_nle q (by omega))
        exact J hj h8 (by unfold nearIn; rw [last_get, List.getElem?_eq_none (by omega)])
      · have h0 : 0 < m.2.1.length := by rw [hx.1] at c26; rcases Nat.eq_zero_or_pos m.2.1.length with q | q; rw [q] at c26; exact absurd (by decide) c26; exact q
        have hpl := hx.p8 (show m.2.1.length - 1 < 8 by omega)
        obtain ⟨y, hy⟩ : ∃ y, m.2.1[m.2.1.length - 1]? = some y := ⟨_, List.getElem?_eq_getElem (by omega)⟩
        have hxy := hx.2.2.2.2 _ y hy
        refine V_aload_n hC dX0_takeBox_29 rfl rfl ?_
        refine V_B_boxes hC hN dX0_takeBox_30 inX0_X0_takeBox (by decide +kernel) ?_
        refine V_aload_n hC dX0_takeBox_33 rfl rfl ?_
        refine V_B_boxCount hC hN dX0_takeBox_34 inX0_X0_takeBox (by decide +kernel) ?_
        refine V_iconst hC 1 dX0_takeBox_37 (by decide) ?_
        refine V_isub hC dX0_takeBox_38 ?_
        refine V_eqt (nI (m.2.1.length - 1)) (by rw [hx.1, show (1 : Int32) = nI 1 from rfl, pk_sub (by omega)]) ?_
        refine V_B_ld3 hC hN dX0_takeBox_39 (ix_nI (j := m.2.1.length - 1) (by omega) (by decide)) ?_
        refine V_cvI (n := 0) hC (c_X1_back g (eL E) (i := c + 8 + p (m.2.1.length - 1)) (by omega) (zB_box hpl)) dX0_takeBox_40 gX0_takeBox_X1_back rfl rfl rfl ⟨rfl, rfl⟩ (by decide +kernel) (by decide +kernel) (by have := hpl; omega) (zB_box hpl) rfl (Nat.le_of_ble_eq_true rfl) (by decide) (fun x40 u40 h40 => ?_)
        obtain ⟨rfl, rfl⟩ := h40
        refine V_iconst hC 1 dX0_takeBox_43 (by decide) ?_
        refine V_icmp_ge hC 50 dX0_takeBox_44 (by decide) (fun c44 => ?_) (fun c44 => ?_)
        · have hn : nearIn m.2.1 = false := by rw [hxy.1, hxy.2.1] at c44; unfold nearIn; rw [last_get, hy]; simp only [decide_eq_false_iff_not]; exact Int32.not_lt.mpr c44
          exact J hj h8 hn
        · have hn : nearIn m.2.1 = true := by rw [hxy.1, hxy.2.1] at c44; unfold nearIn; rw [last_get, hy]; simp only [decide_eq_true_eq]; exact Int32.not_le.mp c44
          refine V_bipush hC (-5) dX0_takeBox_47 (by decide) ?_
          refine V_iret hC hR dX0_takeBox_49 ⟨rfl, rfl, _, rfl, ?_⟩
          rw [mArrive, if_pos hj, if_neg (by omega), hn]
          exact ⟨rfl, BIs.mk ⟨hh, hx, hr, hp⟩⟩
    · have h8 : m.2.1.length = 8 := by rw [hx.1] at c16; rcases Nat.lt_or_ge m.2.1.length 8 with q | q; exact absurd ((nI_ltI (b := 8) (by omega) (by decide)).mpr q) c16; omega
      refine V_bipush hC (-4) dX0_takeBox_19 (by decide) ?_
      refine V_iret hC hR dX0_takeBox_21 ⟨rfl, rfl, _, rfl, ?_⟩
      rw [mArrive, if_pos hj, if_pos h8]
      exact ⟨rfl, BIs.mk ⟨hh, hx, hr, hp⟩⟩
  · refine V_if_ne_f (tgt := 10) hC dX0_takeBox_4 (by decide) rfl ?_
    refine V_bipush hC (-2) dX0_takeBox_7 (by decide) ?_
    refine V_iret hC hR dX0_takeBox_9 ⟨rfl, rfl, _, rfl, ?_⟩
    rw [mArrive, hj]
    exact ⟨rfl, BIs.mk ⟨hh, hx, hr, hp⟩⟩
theorem inX0_X0_aboutBox : ∀ w ∈ wsX00, w ∈ wsX0_aboutBox := by decide +kernel
theorem inX1_X0_aboutBox : ∀ w ∈ wsX10, w ∈ wsX0_aboutBox := by decide +kernel
abbrev rmX0_aboutBox : Room := { frames := 1, cells := 0, slots := 0, locals := 21 }
set_option maxHeartbeats 4000000 in
set_option maxRecDepth 100000 in
theorem c_X0_aboutBox (g : GE) (lau : Launch) {N : Nat} {ad : Nat → Nat} {f : Nat → va_E} {c : Nat} {s t : Nat → Int32} {p : Nat → Nat} {bc : Int32} {co ex : Nat → Int32} {rc : Int32} {pl : Nat → Int32} {pn : Int32} {wy : Nat → Int32} {gx : Nat → Nat → Int32} (hN : c + 16 ≤ N) {m : MT} (hm : RepB s t p bc co ex rc pl pn wy gx m) (v w : Int32) : Ct g lau yX0_aboutBox wsX0_aboutBox rmX0_aboutBox N ad [.ref (ad c), .int (v), .int (w)] (zB g ad f c s t p bc co ex rc pl pn wy gx) (pI N ad (fun x u => x = mBox v w m ∧ u = (zB g ad f c s t p bc co ex rc pl pn wy gx))) 0 0 := by
  refine Ct.of (maxL := 3) rfl (by decide +kernel) [some (.ref (ad c)), some (.int (v)), some (.int (w))] (Nat.le_of_ble_eq_true rfl) (by simp [lvo, lv_args, Value.category]) (fun E hnl _ hC hR => ?_)
  obtain ⟨hh, hx, hr, hp⟩ := hm
  refine V_aload_n hC dX0_aboutBox_0 rfl rfl ?_
  refine V_iload_n hC dX0_aboutBox_1 rfl rfl ?_
  refine V_cvI (n := 1) hC (c_X0_isBox g (eL E) hN hx v) dX0_aboutBox_2 gX0_aboutBox_X0_isBox rfl rfl rfl ⟨rfl, rfl⟩ (by decide +kernel) (by decide +kernel) (by omega) zB_0 rfl (Nat.le_of_ble_eq_true rfl) (by decide) (fun x2 u2 h2 => ?_)
  rcases h2 with ⟨rfl, hj, rfl⟩ | ⟨rfl, hj, rfl⟩
  · obtain ⟨k, hk, rfl⟩ := hj
    have hk8 : k < 8 := Nat.lt_of_lt_of_le hk hx.2.1
    have hpk := hx.p8 hk8
    obtain ⟨y, hy⟩ : ∃ y, m.2.1[k]? = some y := ⟨_, List.getElem?_eq_getElem hk⟩
    refine V_if_eq_f (tgt := 21) hC dX0_aboutBox_5 (by decide) (by decide) ?_
    refine V_aload_n hC dX0_aboutBox_8 rfl rfl ?_
    refine V_B_boxes hC hN dX0_aboutBox_9 inX0_X0_aboutBox (by decide +kernel) ?_
    refine V_iload_n hC dX0_aboutBox_12 rfl rfl ?_
    refine V_B_ld3 hC hN dX0_aboutBox_13 (ix_nI (j := k) hk8 (by decide)) ?_
    refine V_iload_n hC dX0_aboutBox_14 rfl rfl ?_
    refine V_cvI (n := 1) hC (c_X1_tell g (eL E) (i := c + 8 + p k) (by omega) (zB_box hpk) (hx.2.2.2.2 k y hy) w) dX0_aboutBox_15 gX0_aboutBox_X1_tell rfl rfl rfl ⟨rfl, rfl⟩ (by decide +kernel) (by decide +kernel) (by have := hpk; omega) (zB_box hpk) rfl (Nat.le_of_ble_eq_true rfl) (by decide) (fun x15 u15 h15 => ?_)
    obtain ⟨rfl, rfl⟩ := h15
    have hbx := mBox_yes (w := w) hy (by omega)
    refine V_goto hC 22 dX0_aboutBox_18 (by decide) ?_
    refine V_iret hC hR dX0_aboutBox_22 ⟨rfl, rfl, _, rfl, ?_⟩
    first | exact ⟨(mBox_no hj).symm, rfl⟩ | exact ⟨hbx.symm, rfl⟩
  · refine V_if_eq_t hC 21 dX0_aboutBox_5 (by decide) rfl ?_
    refine V_iconst hC (-1) dX0_aboutBox_21 (by decide) ?_
    refine V_iret hC hR dX0_aboutBox_22 ⟨rfl, rfl, _, rfl, ?_⟩
    first | exact ⟨(mBox_no hj).symm, rfl⟩ | exact ⟨hbx.symm, rfl⟩
theorem inX0_X0_planAt : ∀ w ∈ wsX00, w ∈ wsX0_planAt := by decide +kernel
abbrev rmX0_planAt : Room := { frames := 0, cells := 0, slots := 0, locals := 0 }
set_option maxHeartbeats 4000000 in
set_option maxRecDepth 100000 in
theorem c_X0_planAt (g : GE) (lau : Launch) {N : Nat} {ad : Nat → Nat} {f : Nat → va_E} {c : Nat} {s t : Nat → Int32} {p : Nat → Nat} {bc : Int32} {co ex : Nat → Int32} {rc : Int32} {pl : Nat → Int32} {pn : Int32} {wy : Nat → Int32} {gx : Nat → Nat → Int32} (hN : c + 16 ≤ N) {m : MT} (hm : RepB s t p bc co ex rc pl pn wy gx m) (v : Int32) : Ct g lau yX0_planAt wsX0_planAt rmX0_planAt N ad [.ref (ad c), .int (v)] (zB g ad f c s t p bc co ex rc pl pn wy gx) (pI N ad (fun x u => x = mPlan v m ∧ u = (zB g ad f c s t p bc co ex rc pl pn wy gx))) 0 0 := by
  refine Ct.of (maxL := 2) rfl (by decide +kernel) [some (.ref (ad c)), some (.int (v))] (Nat.le_of_ble_eq_true rfl) (by simp [lvo, lv_args, Value.category]) (fun E hnl _ hC hR => ?_)
  obtain ⟨hh, hx, hr, hp⟩ := hm
  have hl : m.2.2.2.length < 2 ^ 31 := Nat.lt_of_le_of_lt hp.2.1 (by decide)
  refine V_iload_n hC dX0_planAt_0 rfl rfl ?_
  refine V_if_lt hC 25 dX0_planAt_1 (by decide) (fun c1 => ?_) (fun c1 => ?_)
  · refine V_iconst hC (-1) dX0_planAt_25 (by decide) ?_
    refine V_iret hC hR dX0_planAt_26 ⟨rfl, rfl, _, rfl, ?_⟩
    first | exact ⟨(mPlan_no (lt_no hl (Or.inl c1))).symm, rfl⟩ | exact ⟨(mPlan_no (lt_no hl (Or.inr c9))).symm, rfl⟩ | exact ⟨by rw [mPlan_yes hk, hp.2.2 k _ (List.getElem?_eq_getElem hk)], rfl⟩
  · refine V_iload_n hC dX0_planAt_4 rfl rfl ?_
    refine V_aload_n hC dX0_planAt_5 rfl rfl ?_
    refine V_B_planCount hC hN dX0_planAt_6 inX0_X0_planAt (by decide +kernel) ?_
    refine V_icmp_ge hC 25 dX0_planAt_9 (by decide) (fun c9 => ?_) (fun c9 => ?_)
    · rw [hp.1] at c9
      refine V_iconst hC (-1) dX0_planAt_25 (by decide) ?_
      refine V_iret hC hR dX0_planAt_26 ⟨rfl, rfl, _, rfl, ?_⟩
      first | exact ⟨(mPlan_no (lt_no hl (Or.inl c1))).symm, rfl⟩ | exact ⟨(mPlan_no (lt_no hl (Or.inr c9))).symm, rfl⟩ | exact ⟨by rw [mPlan_yes hk, hp.2.2 k _ (List.getElem?_eq_getElem hk)], rfl⟩
    · rw [hp.1] at c9
      obtain ⟨k, hk, rfl⟩ := lt_n hl c1 c9
      refine V_aload_n hC dX0_planAt_12 rfl rfl ?_
      refine V_B_plans hC hN dX0_planAt_13 inX0_X0_planAt (by decide +kernel) ?_
      refine V_iload_n hC dX0_planAt_16 rfl rfl ?_
      refine V_B_ld6 hC hN dX0_planAt_17 (ix_nI (j := k) (by have := hp.2.1; omega) (by decide)) ?_
      refine V_sipush hC 1000 dX0_planAt_18 (by decide) ?_
      refine V_iadd hC dX0_planAt_21 ?_
      refine V_goto hC 26 dX0_planAt_22 (by decide) ?_
      refine V_iret hC hR dX0_planAt_26 ⟨rfl, rfl, _, rfl, ?_⟩
      first | exact ⟨(mPlan_no (lt_no hl (Or.inl c1))).symm, rfl⟩ | exact ⟨(mPlan_no (lt_no hl (Or.inr c9))).symm, rfl⟩ | exact ⟨by rw [mPlan_yes hk, hp.2.2 k _ (List.getElem?_eq_getElem hk)], rfl⟩
theorem inX0_X0_aboutReport : ∀ w ∈ wsX00, w ∈ wsX0_aboutReport := by decide +kernel
abbrev rmX0_aboutReport : Room := { frames := 0, cells := 0, slots := 0, locals := 0 }
set_option maxHeartbeats 4000000 in
set_option maxRecDepth 100000 in
theorem c_X0_aboutReport (g : GE) (lau : Launch) {N : Nat} {ad : Nat → Nat} {f : Nat → va_E} {c : Nat} {s t : Nat → Int32} {p : Nat → Nat} {bc : Int32} {co ex : Nat → Int32} {rc : Int32} {pl : Nat → Int32} {pn : Int32} {wy : Nat → Int32} {gx : Nat → Nat → Int32} (hN : c + 16 ≤ N) {m : MT} (hm : RepB s t p bc co ex rc pl pn wy gx m) (v w : Int32) : Ct g lau yX0_aboutReport wsX0_aboutReport rmX0_aboutReport N ad [.ref (ad c), .int (v), .int (w)] (zB g ad f c s t p bc co ex rc pl pn wy gx) (pI N ad (fun x u => x = mReport v w m ∧ u = (zB g ad f c s t p bc co ex rc pl pn wy gx))) 0 0 := by
  refine Ct.of (maxL := 3) rfl (by decide +kernel) [some (.ref (ad c)), some (.int (v)), some (.int (w))] (Nat.le_of_ble_eq_true rfl) (by simp [lvo, lv_args, Value.category]) (fun E hnl _ hC hR => ?_)
  obtain ⟨hh, hx, hr, hp⟩ := hm
  have hl : m.2.2.1.length < 2 ^ 31 := Nat.lt_of_le_of_lt hr.2.1 (by decide)
  have e8 := hh.2.1 0 (by decide) (by decide) (by decide) (by decide)
  refine V_iload_n hC dX0_aboutReport_0 rfl rfl ?_
  refine V_if_lt hC 12 dX0_aboutReport_1 (by decide) (fun c1 => ?_) (fun c1 => ?_)
  · have hno := lt_no hl (Or.inl c1)
    refine V_iconst hC (-1) dX0_aboutReport_12 (by decide) ?_
    refine V_iret hC hR dX0_aboutReport_13 ⟨rfl, rfl, _, rfl, ?_⟩
    exact ⟨(mReport_no hno).symm, rfl⟩
  · refine V_iload_n hC dX0_aboutReport_4 rfl rfl ?_
    refine V_aload_n hC dX0_aboutReport_5 rfl rfl ?_
    refine V_B_reportCount hC hN dX0_aboutReport_6 inX0_X0_aboutReport (by decide +kernel) ?_
    refine V_icmp_lt hC 14 dX0_aboutReport_9 (by decide) (fun c9 => ?_) (fun c9 => ?_)
    · rw [hr.1] at c9
      obtain ⟨k, hk, rfl⟩ := lt_n hl c1 (Int32.not_le.mpr c9)
      have hg := hr.2.2 k _ (List.getElem?_eq_getElem hk)
      refine V_iload_n hC dX0_aboutReport_14 rfl rfl ?_
      refine V_if_ne hC 34 dX0_aboutReport_15 (by decide) (fun c15 => ?_) (fun c15 => ?_)
      · refine V_iload_n hC dX0_aboutReport_34 rfl rfl ?_
        refine V_iconst hC 1 dX0_aboutReport_35 (by decide) ?_
        refine V_icmp_ne hC 48 dX0_aboutReport_36 (by decide) (fun c36 => ?_) (fun c36 => ?_)
        · refine V_bipush hC (-2) dX0_aboutReport_48 (by decide) ?_
          refine V_iret hC hR dX0_aboutReport_50 ⟨rfl, rfl, _, rfl, ?_⟩
          refine ⟨?_, rfl⟩
          rw [mReport_yes hk]
          first | (rw [if_neg c15, if_pos c36, hg.2]; done) | (rw [if_neg c15, if_neg c36]; done) | (rw [if_pos c15, hg.1, e8]; done)
        · refine V_aload_n hC dX0_aboutReport_39 rfl rfl ?_
          refine V_B_excesses hC hN dX0_aboutReport_40 inX0_X0_aboutReport (by decide +kernel) ?_
          refine V_iload_n hC dX0_aboutReport_43 rfl rfl ?_
          refine V_B_ld5 hC hN dX0_aboutReport_44 (ix_nI (j := k) (by have := hr.2.1; omega) (by decide)) ?_
          refine V_goto hC 50 dX0_aboutReport_45 (by decide) ?_
          refine V_iret hC hR dX0_aboutReport_50 ⟨rfl, rfl, _, rfl, ?_⟩
          refine ⟨?_, rfl⟩
          rw [mReport_yes hk]
          first | (rw [if_neg c15, if_pos c36, hg.2]; done) | (rw [if_neg c15, if_neg c36]; done) | (rw [if_pos c15, hg.1, e8]; done)
      · refine V_aload_n hC dX0_aboutReport_18 rfl rfl ?_
        refine V_B_comes hC hN dX0_aboutReport_19 inX0_X0_aboutReport (by decide +kernel) ?_
        refine V_iload_n hC dX0_aboutReport_22 rfl rfl ?_
        refine V_B_ld4 hC hN dX0_aboutReport_23 (ix_nI (j := k) (by have := hr.2.1; omega) (by decide)) ?_
        refine V_aload_n hC dX0_aboutReport_24 rfl rfl ?_
        refine V_B_tallies hC hN dX0_aboutReport_25 inX0_X0_aboutReport (by decide +kernel) ?_
        refine V_iconst hC 0 dX0_aboutReport_28 (by decide) ?_
        refine V_B_ld2 hC hN (k := 0) dX0_aboutReport_29 (ix_c (by decide)) ?_
        refine V_isub hC dX0_aboutReport_30 ?_
        refine V_iconst hC 1 dX0_aboutReport_31 (by decide) ?_
        refine V_iadd hC dX0_aboutReport_32 ?_
        refine V_iret hC hR dX0_aboutReport_33 ⟨rfl, rfl, _, rfl, ?_⟩
        refine ⟨?_, rfl⟩
        rw [mReport_yes hk]
        first | (rw [if_neg c15, if_pos c36, hg.2]; done) | (rw [if_neg c15, if_neg c36]; done) | (rw [if_pos c15, hg.1, e8]; done)
    · rw [hr.1] at c9
      have hno := lt_no hl (Or.inr (Int32.not_lt.mp c9))
      refine V_iconst hC (-1) dX0_aboutReport_12 (by decide) ?_
      refine V_iret hC hR dX0_aboutReport_13 ⟨rfl, rfl, _, rfl, ?_⟩
      exact ⟨(mReport_no hno).symm, rfl⟩
theorem lk3 {k : Nat} (h : k ≤ 21) (h1 : k ≠ 1) (h2 : k ≠ 11) (h3 : k ≠ 12) : Op.lookupswitch.offset (#[((1 : Int), (35 : Int)), (11, 40), (12, 45)] : Array (Int × Int)).toList 50 (nI k).toInt = 50 := by
  rcases (show k = 0 ∨ k = 2 ∨ k = 3 ∨ k = 4 ∨ k = 5 ∨ k = 6 ∨ k = 7 ∨ k = 8 ∨ k = 9 ∨ k = 10 ∨ k = 13 ∨ k = 14 ∨ k = 15 ∨ k = 16 ∨ k = 17 ∨ k = 18 ∨ k = 19 ∨ k = 20 ∨ k = 21 by omega) with rfl | rfl | rfl | rfl | rfl | rfl | rfl | rfl | rfl | rfl | rfl | rfl | rfl | rfl | rfl | rfl | rfl | rfl | rfl <;> decide
def numB (k : Nat) (m : MT) : Int32 := if k < 14 then hAll m (8 + k) else m.1 (k - 14)
theorem inX0_X0_number : ∀ w ∈ wsX00, w ∈ wsX0_number := by decide +kernel
abbrev rmX0_number : Room := { frames := 0, cells := 0, slots := 0, locals := 0 }
set_option maxHeartbeats 4000000 in
set_option maxRecDepth 100000 in
theorem c_X0_number (g : GE) (lau : Launch) {N : Nat} {ad : Nat → Nat} {f : Nat → va_E} {c : Nat} {s t : Nat → Int32} {p : Nat → Nat} {bc : Int32} {co ex : Nat → Int32} {rc : Int32} {pl : Nat → Int32} {pn : Int32} {wy : Nat → Int32} {gx : Nat → Nat → Int32} (hN : c + 16 ≤ N) {m : MT} (hm : RepB s t p bc co ex rc pl pn wy gx m) {k : Nat} (hk : k ≤ 21) : Ct g lau yX0_number wsX0_number rmX0_number N ad [.ref (ad c), .int (nI k)] (zB g ad f c s t p bc co ex rc pl pn wy gx) (pI N ad (fun x u => x = numB k m ∧ u = (zB g ad f c s t p bc co ex rc pl pn wy gx))) 0 0 := by
  refine Ct.of (maxL := 3) rfl (by decide +kernel) [some (.ref (ad c)), some (.int (nI k)), none] (Nat.le_of_ble_eq_true rfl) (by simp [lvo, lv_args, Value.category]) (fun E hnl _ hC hR => ?_)
  obtain ⟨hh, hx, hr, hp⟩ := hm
  rcases (show k = 1 ∨ k = 11 ∨ k = 12 ∨ (k ≠ 1 ∧ k ≠ 11 ∧ k ≠ 12) by omega) with rfl | rfl | rfl | ⟨k1, k11, k12⟩
  · refine V_iload_n hC dX0_number_0 rfl rfl ?_
    refine V_lookup (off := 35) hC 36 dX0_number_1 (by decide) (by decide) (by decide) ?_
    refine V_aload_n hC dX0_number_36 rfl rfl ?_
    refine V_B_boxCount hC hN dX0_number_37 inX0_X0_number (by decide +kernel) ?_
    refine V_iret hC hR dX0_number_40 ⟨rfl, rfl, _, rfl, ?_⟩
    exact ⟨hx.1, rfl⟩
  · refine V_iload_n hC dX0_number_0 rfl rfl ?_
    refine V_lookup (off := 40) hC 41 dX0_number_1 (by decide) (by decide) (by decide) ?_
    refine V_aload_n hC dX0_number_41 rfl rfl ?_
    refine V_B_reportCount hC hN dX0_number_42 inX0_X0_number (by decide +kernel) ?_
    refine V_iret hC hR dX0_number_45 ⟨rfl, rfl, _, rfl, ?_⟩
    exact ⟨hr.1, rfl⟩
  · refine V_iload_n hC dX0_number_0 rfl rfl ?_
    refine V_lookup (off := 45) hC 46 dX0_number_1 (by decide) (by decide) (by decide) ?_
    refine V_aload_n hC dX0_number_46 rfl rfl ?_
    refine V_B_planCount hC hN dX0_number_47 inX0_X0_number (by decide +kernel) ?_
    refine V_iret hC hR dX0_number_50 ⟨rfl, rfl, _, rfl, ?_⟩
    exact ⟨hp.1, rfl⟩
  · refine V_iload_n hC dX0_number_0 rfl rfl ?_
    refine V_lookup (off := 50) hC 51 dX0_number_1 (by decide) (lk3 hk k1 k11 k12) (by decide) ?_
    refine V_iload_n hC dX0_number_51 rfl rfl ?_
    refine V_if_lt_f (tgt := 71) hC dX0_number_52 (by decide) (nI_pos (by omega)) ?_
    refine V_iload_n hC dX0_number_55 rfl rfl ?_
    refine V_aload_n hC dX0_number_56 rfl rfl ?_
    refine V_B_tallies hC hN dX0_number_57 inX0_X0_number (by decide +kernel) ?_
    refine V_B_len2 hC hN 14 dX0_number_60 rfl ?_
    refine V_icmp_ge hC 71 dX0_number_61 (by decide) (fun c61 => ?_) (fun c61 => ?_)
    · have hk14 : 14 ≤ k := (nI_leI (a := 14) (by decide) (by omega)).mp c61
      refine V_iload_n hC dX0_number_71 rfl rfl ?_
      refine V_bipush hC 14 dX0_number_72 (by decide) ?_
      refine V_isub hC dX0_number_74 ?_
      refine V_eqt (nI (k - 14)) (isub14 hk14) ?_
      refine V_istore_n2 hC dX0_number_75 rfl (by rw [hnl]; decide) rfl ?_
      refine V_iload_n hC dX0_number_76 rfl rfl ?_
      refine V_if_lt_f (tgt := 98) hC dX0_number_77 (by decide) (nI_pos (by omega)) ?_
      refine V_iload_n hC dX0_number_80 rfl rfl ?_
      refine V_aload_n hC dX0_number_81 rfl rfl ?_
      refine V_B_settings hC hN dX0_number_82 inX0_X0_number (by decide +kernel) ?_
      refine V_B_len1 hC hN 8 dX0_number_85 rfl ?_
      refine V_icmp_ge_f (tgt := 98) hC dX0_number_86 (by decide) (nI_ge (b := 8) (by omega) (by decide)) ?_
      refine V_aload_n hC dX0_number_89 rfl rfl ?_
      refine V_B_settings hC hN dX0_number_90 inX0_X0_number (by decide +kernel) ?_
      refine V_iload_n hC dX0_number_93 rfl rfl ?_
      refine V_B_ld1 hC hN dX0_number_94 (ix_nI (j := k - 14) (by omega) (by decide)) ?_
      refine V_goto hC 100 dX0_number_95 (by decide) ?_
      refine V_iret hC hR dX0_number_100 ⟨rfl, rfl, _, rfl, ?_⟩
      refine ⟨?_, rfl⟩
      rw [numB, if_neg (by omega)]
      exact hh.1 _ (by omega)
    · have hk14 : k < 14 := by rcases Nat.lt_or_ge k 14 with q | q; exact q; exact absurd (nI_le (a := 14) q (by omega)) c61
      refine V_aload_n hC dX0_number_64 rfl rfl ?_
      refine V_B_tallies hC hN dX0_number_65 inX0_X0_number (by decide +kernel) ?_
      refine V_iload_n hC dX0_number_68 rfl rfl ?_
      refine V_B_ld2 hC hN dX0_number_69 (ix_nI (j := k) hk14 (by decide)) ?_
      refine V_iret hC hR dX0_number_70 ⟨rfl, rfl, _, rfl, ?_⟩
      refine ⟨?_, rfl⟩
      rw [numB, if_pos hk14, hAll, if_neg (by omega), if_neg (by omega), if_neg (by omega)]
      exact hh.2.1 k hk14 k1 k11 k12
