theorem rng_n {v : Int32} {a b : Nat} (ha : a < 2 ^ 31) (hb : b < 2 ^ 31) (h : nI a ≤ v ∧ v ≤ nI b) : ∃ k, a ≤ k ∧ k ≤ b ∧ v = nI k := by
  obtain ⟨k, hk, e⟩ := nI_of (x := v) (Int32.not_lt.mpr (Int32.le_trans (nI_pos' ha) h.1))
  subst e
  exact ⟨k, (nI_leI ha hk).mp h.1, (nI_leI hk hb).mp h.2, rfl⟩
theorem sCount_a {S : ST} {k : Nat} (h : k ≤ 13) : sCount (nI k) S = hAll S.1 (8 + k) := by
  unfold sCount
  rw [if_neg (nI_pos (by omega)), if_pos (show nI k < 14 from (nI_ltI (b := 14) (by omega) (by decide)).mpr (by omega)), nI_clamp (by omega)]
theorem sCount_b {S : ST} {k : Nat} (h : 14 ≤ k) (h2 : k ≤ 21) : sCount (nI k) S = S.1.1 (k - 14) := by
  unfold sCount
  rw [if_neg (nI_pos (by omega)), if_neg (fun q => by have := (nI_ltI (b := 14) (by omega) (by decide)).mp q; omega), if_pos (show nI k < 22 from (nI_ltI (b := 22) (by omega) (by decide)).mpr (by omega)), nI_clamp (by omega)]
theorem sCount_c {S : ST} {v : Int32} (h : ¬ (0 ≤ v ∧ v ≤ 13)) (h2 : ¬ (14 ≤ v ∧ v ≤ 21)) : sCount v S = if v = 22 then nI S.2.2.2.length else if v = 23 then nI S.2.1.length else -2 := by
  unfold sCount
  by_cases h0 : v < 0
  · rw [if_pos h0, if_neg (by rintro rfl; revert h0; decide), if_neg (by rintro rfl; revert h0; decide)]
  · rw [if_neg h0]
    have h1 : ¬ v < 14 := fun q => h ⟨Int32.not_lt.mp h0, by
      rw [Int32.le_iff_toInt_le]
      rw [Int32.lt_iff_toInt_lt] at q
      have e1 : (14 : Int32).toInt = 14 := rfl
      have e2 : (13 : Int32).toInt = 13 := rfl
      omega⟩
    rw [if_neg h1]
    have h3 : ¬ v < 22 := fun q => h2 ⟨Int32.not_lt.mp h1, by
      rw [Int32.le_iff_toInt_le]
      rw [Int32.lt_iff_toInt_lt] at q
      have e1 : (22 : Int32).toInt = 22 := rfl
      have e2 : (21 : Int32).toInt = 21 := rfl
      omega⟩
    rw [if_neg h3]
theorem isub14 {k : Nat} (h : 14 ≤ k) : nI k - 14 = nI (k - 14) := by rw [show (14 : Int32) = nI 14 from rfl, pk_sub h]
theorem inX5_X5_count : ∀ w ∈ wsX50, w ∈ wsX5_count := by decide +kernel
abbrev rmX5_count : Room := { frames := 1, cells := 0, slots := 0, locals := 25 }
set_option maxHeartbeats 4000000 in
set_option maxRecDepth 100000 in
theorem c_X5_count (g : GE) (lau : Launch) {N : Nat} {ad : Nat → Nat} {f : Nat → va_E} {o : Nat} {a kp hs : Nat → Int32} {hl : Int32} {so sv pd : Nat → Int32} {pn sp od wb nb : Int32} (hN : o + 7 ≤ N) {S : ST} (hS : RepM a hs hl so sv pd pn S) (v : Int32) : Ct g lau yX5_count wsX5_count rmX5_count N ad [.ref (ad o), .int (v)] (zM g ad f o a kp hs hl so sv pd pn sp od wb nb) (pI N ad (fun x u => x = sCount v S ∧ u = (zM g ad f o a kp hs hl so sv pd pn sp od wb nb))) 0 0 := by
  refine Ct.of (maxL := 2) rfl (by decide +kernel) [some (.ref (ad o)), some (.int (v))] (Nat.le_of_ble_eq_true rfl) (by simp [lvo, lv_args, Value.category]) (fun E hnl _ hC hR => ?_)
  obtain ⟨hm, hh2, hs2, hp2⟩ := hS
  refine V_iload_n hC dX5_count_0 rfl rfl ?_
  refine V_i2l hC dX5_count_1 ?_
  refine V_lconst hC 0 dX5_count_2 (by decide) ?_
  refine V_ldc2 (v := 13) hC dX5_count_3 (by decide +kernel) ?_
  refine V_csI (n := 3) hC (c_X5_in g (eL E) _ _ _) dX5_count_6 gX5_count_X5_in rfl rfl rfl ⟨rfl, rfl⟩ (by decide +kernel) (by decide +kernel) (Nat.le_of_ble_eq_true rfl) (by decide) (fun x6 u6 h6 => ?_)
  rcases h6 with ⟨rfl, hj, rfl⟩ | ⟨rfl, hj, rfl⟩
  · rw [inJ_c (a := 0) (b := 13) (by decide) (by decide)] at hj
    obtain ⟨k, -, hk, rfl⟩ := rng_n (a := 0) (b := 13) (by decide) (by decide) hj
    refine V_if_eq_f (tgt := 22) hC dX5_count_9 (by decide) (by decide) ?_
    refine V_aload_n hC dX5_count_12 rfl rfl ?_
    refine V_zM_all hC hN dX5_count_13 inX5_X5_count (by decide +kernel) ?_
    refine V_bipush hC 8 dX5_count_16 (by decide) ?_
    refine V_iload_n hC dX5_count_18 rfl rfl ?_
    refine V_iadd hC dX5_count_19 ?_
    refine V_zM_ld1 hC hN dX5_count_20 (ix_of (j := 8 + k) (by rw [show (8 : Int32) = nI 8 from rfl, nI_add]) (by omega) (by decide)) ?_
    refine V_iret hC hR dX5_count_21 ⟨rfl, rfl, _, rfl, ?_⟩
    exact ⟨by rw [sCount_a hk, hm.num (by omega)], rfl⟩
  · rw [inJ_c (a := 0) (b := 13) (by decide) (by decide)] at hj
    have hj0 := hj
    refine V_if_eq_t hC 22 dX5_count_9 (by decide) rfl ?_
    refine V_iload_n hC dX5_count_22 rfl rfl ?_
    refine V_i2l hC dX5_count_23 ?_
    refine V_ldc2 (v := 14) hC dX5_count_24 (by decide +kernel) ?_
    refine V_ldc2 (v := 21) hC dX5_count_27 (by decide +kernel) ?_
    refine V_csI (n := 3) hC (c_X5_in g (eL E) _ _ _) dX5_count_30 gX5_count_X5_in rfl rfl rfl ⟨rfl, rfl⟩ (by decide +kernel) (by decide +kernel) (Nat.le_of_ble_eq_true rfl) (by decide) (fun x30 u30 h30 => ?_)
    rcases h30 with ⟨rfl, hj, rfl⟩ | ⟨rfl, hj, rfl⟩
    · rw [inJ_c (a := 14) (b := 21) (by decide) (by decide)] at hj
      obtain ⟨k, hk1, hk, rfl⟩ := rng_n (a := 14) (b := 21) (by decide) (by decide) hj
      refine V_if_eq_f (tgt := 46) hC dX5_count_33 (by decide) (by decide) ?_
      refine V_aload_n hC dX5_count_36 rfl rfl ?_
      refine V_zM_all hC hN dX5_count_37 inX5_X5_count (by decide +kernel) ?_
      refine V_iload_n hC dX5_count_40 rfl rfl ?_
      refine V_bipush hC 14 dX5_count_41 (by decide) ?_
      refine V_isub hC dX5_count_43 ?_
      refine V_zM_ld1 hC hN dX5_count_44 (ix_of (j := k - 14) (isub14 hk1) (by omega) (by decide)) ?_
      refine V_iret hC hR dX5_count_45 ⟨rfl, rfl, _, rfl, ?_⟩
      exact ⟨by rw [sCount_b hk1 hk]; exact hm.1 _ (by omega) (by omega) (by omega) (by omega), rfl⟩
    · rw [inJ_c (a := 14) (b := 21) (by decide) (by decide)] at hj
      refine V_if_eq_t hC 46 dX5_count_33 (by decide) rfl ?_
      refine V_iload_n hC dX5_count_46 rfl rfl ?_
      refine V_bipush hC 22 dX5_count_47 (by decide) ?_
      refine V_icmp_ne hC 59 dX5_count_49 (by decide) (fun c49 => ?_) (fun c49 => ?_)
      · refine V_iload_n hC dX5_count_59 rfl rfl ?_
        refine V_bipush hC 23 dX5_count_60 (by decide) ?_
        refine V_icmp_ne hC 72 dX5_count_62 (by decide) (fun c62 => ?_) (fun c62 => ?_)
        · refine V_bipush hC (-2) dX5_count_72 (by decide) ?_
          refine V_iret hC hR dX5_count_74 ⟨rfl, rfl, _, rfl, ?_⟩
          refine ⟨?_, rfl⟩
          rw [sCount_c hj0 hj]
          first | (rw [if_neg c49, if_neg c62]; done) | (rw [if_neg c49, if_pos c62]; exact hh2.1) | (rw [if_pos c49]; exact hp2.1)
        · refine V_aload_n hC dX5_count_65 rfl rfl ?_
          refine V_zM_historyLong hC hN dX5_count_66 inX5_X5_count (by decide +kernel) ?_
          refine V_goto hC 74 dX5_count_69 (by decide) ?_
          refine V_iret hC hR dX5_count_74 ⟨rfl, rfl, _, rfl, ?_⟩
          refine ⟨?_, rfl⟩
          rw [sCount_c hj0 hj]
          first | (rw [if_neg c49, if_neg c62]; done) | (rw [if_neg c49, if_pos c62]; exact hh2.1) | (rw [if_pos c49]; exact hp2.1)
      · refine V_aload_n hC dX5_count_52 rfl rfl ?_
        refine V_zM_padLong hC hN dX5_count_53 inX5_X5_count (by decide +kernel) ?_
        refine V_goto hC 74 dX5_count_56 (by decide) ?_
        refine V_iret hC hR dX5_count_74 ⟨rfl, rfl, _, rfl, ?_⟩
        refine ⟨?_, rfl⟩
        rw [sCount_c hj0 hj]
        first | (rw [if_neg c49, if_neg c62]; done) | (rw [if_neg c49, if_pos c62]; exact hh2.1) | (rw [if_pos c49]; exact hp2.1)
theorem lk2 {w : Int32} (h0 : ¬ w = 0) (h3 : ¬ w = 3) : Op.lookupswitch.offset (#[((0 : Int), (25 : Int)), (3, 36)] : Array (Int × Int)).toList 63 w.toInt = 63 := by
  have e0 : ¬ w.toInt = 0 := fun q => h0 (Int32.toInt_inj.mp q)
  have e3 : ¬ w.toInt = 3 := fun q => h3 (Int32.toInt_inj.mp q)
  simp only [Op.lookupswitch.offset]
  simp [e0, e3, Ne.symm]
  first | done | omega | (split <;> simp_all)
theorem box_w {y : Nat → Int32} {j : Nat} (h0 : ¬ nI j = 0) (h3 : ¬ nI j = 3) (h1 : 1 ≤ j) (h5 : j ≤ 5) : (if nI j = 0 then y 0 + 1000 else if nI j = 3 then (if y 3 = -6 then -6 else y 3 + 1000) else if nI j = 1 then y 1 else if nI j = 2 then y 2 else if nI j = 4 then y 4 else if nI j = 5 then y 5 else -2) = y j := by
  rw [if_neg h0, if_neg h3]
  rcases (show j = 1 ∨ j = 2 ∨ j = 3 ∨ j = 4 ∨ j = 5 by omega) with e | e | e | e | e <;> subst e
  · rfl
  · rfl
  · exact absurd rfl h3
  · rfl
  · rfl
theorem box_n {y : Nat → Int32} {w : Int32} (h0 : ¬ w = 0) (h3 : ¬ w = 3) (h : ¬ ((1 : Int32) ≤ w ∧ w ≤ 5)) : (if w = 0 then y 0 + 1000 else if w = 3 then (if y 3 = -6 then -6 else y 3 + 1000) else if w = 1 then y 1 else if w = 2 then y 2 else if w = 4 then y 4 else if w = 5 then y 5 else -2) = -2 := by
  rw [if_neg h0, if_neg h3, if_neg (by rintro rfl; exact h (by decide)), if_neg (by rintro rfl; exact h (by decide)), if_neg (by rintro rfl; exact h (by decide)), if_neg (by rintro rfl; exact h (by decide))]
theorem inX5_X5_box : ∀ w ∈ wsX50, w ∈ wsX5_box := by decide +kernel
abbrev rmX5_box : Room := { frames := 2, cells := 0, slots := 0, locals := 46 }
set_option maxHeartbeats 4000000 in
set_option maxRecDepth 100000 in
theorem c_X5_box (g : GE) (lau : Launch) {N : Nat} {ad : Nat → Nat} {f : Nat → va_E} {o : Nat} {a kp hs : Nat → Int32} {hl : Int32} {so sv pd : Nat → Int32} {pn sp od wb nb : Int32} (hN : o + 7 ≤ N) {m : MT} (hm : RepR a m) (v w : Int32) : Ct g lau yX5_box wsX5_box rmX5_box N ad [.ref (ad o), .int (v), .int (w)] (zM g ad f o a kp hs hl so sv pd pn sp od wb nb) (pI N ad (fun x u => x = mBox v w m ∧ u = (zM g ad f o a kp hs hl so sv pd pn sp od wb nb))) 0 0 := by
  refine Ct.of (maxL := 3) rfl (by decide +kernel) [some (.ref (ad o)), some (.int (v)), some (.int (w))] (Nat.le_of_ble_eq_true rfl) (by simp [lvo, lv_args, Value.category]) (fun E hnl _ hC hR => ?_)
  obtain ⟨hh, hb, hr, hp⟩ := hm
  have hl : m.2.1.length < 2 ^ 31 := Nat.lt_of_le_of_lt hb.2.1 (by decide)
  refine V_aload_n hC dX5_box_0 rfl rfl ?_
  refine V_iload_n hC dX5_box_1 rfl rfl ?_
  refine V_cvI (n := 1) hC (c_X5_isBox g (eL E) hN hb v) dX5_box_2 gX5_box_X5_isBox rfl rfl rfl ⟨rfl, rfl⟩ (by decide +kernel) (by decide +kernel) (by omega) zM_0 rfl (Nat.le_of_ble_eq_true rfl) (by decide) (fun x2 u2 h2 => ?_)
  rcases h2 with ⟨rfl, hj, rfl⟩ | ⟨rfl, hj, rfl⟩
  · obtain ⟨k, hk, rfl⟩ := hj
    have hk8 : k < 8 := Nat.lt_of_lt_of_le hk hb.2.1
    obtain ⟨xx, hxx⟩ : ∃ z, m.2.1[k]? = some z := ⟨_, List.getElem?_eq_getElem hk⟩
    have hv := hb.2.2 k xx hxx
    have hbx := mBox_yes (w := w) hxx (by omega)
    refine V_if_ne_t hC 10 dX5_box_5 (by decide) (by decide) ?_
    refine V_iload_n hC dX5_box_10 rfl rfl ?_
    rcases (show w = 0 ∨ w = 3 ∨ ¬ (w = 0 ∨ w = 3) by by_cases h0 : w = 0; exact Or.inl h0; by_cases h3 : w = 3; exact Or.inr (Or.inl h3); exact Or.inr (Or.inr (by rintro (q | q); exact h0 q; exact h3 q))) with hw | hw | hw
    · refine V_lookup (off := 25) hC 36 dX5_box_11 (by decide) (by subst hw; decide) (by decide) ?_
      refine V_aload_n hC dX5_box_36 rfl rfl ?_
      refine V_iload_n hC dX5_box_37 rfl rfl ?_
      refine V_iconst hC 0 dX5_box_38 (by decide) ?_
      refine V_cvI (n := 2) hC (c_X5_get g (eL E) hN (b := k) (w := 0) hk8 (by decide)) dX5_box_39 gX5_box_X5_get rfl rfl rfl ⟨rfl, rfl⟩ (by decide +kernel) (by decide +kernel) (by omega) zM_0 rfl (Nat.le_of_ble_eq_true rfl) (by decide) (fun x39 u39 h39 => ?_)
      obtain ⟨rfl, rfl⟩ := h39
      refine V_sipush hC 1000 dX5_box_42 (by decide) ?_
      refine V_iadd hC dX5_box_45 ?_
      refine V_iret hC hR dX5_box_46 ⟨rfl, rfl, _, rfl, ?_⟩
      exact ⟨by rw [hbx, if_pos hw, hv 0 (by decide)], rfl⟩
    · refine V_lookup (off := 36) hC 47 dX5_box_11 (by decide) (by subst hw; decide) (by decide) ?_
      refine V_aload_n hC dX5_box_47 rfl rfl ?_
      refine V_iload_n hC dX5_box_48 rfl rfl ?_
      refine V_iconst hC 3 dX5_box_49 (by decide) ?_
      refine V_cvI (n := 2) hC (c_X5_get g (eL E) hN (b := k) (w := 3) hk8 (by decide)) dX5_box_50 gX5_box_X5_get rfl rfl rfl ⟨rfl, rfl⟩ (by decide +kernel) (by decide +kernel) (by omega) zM_0 rfl (Nat.le_of_ble_eq_true rfl) (by decide) (fun x50 u50 h50 => ?_)
      obtain ⟨rfl, rfl⟩ := h50
      refine V_bipush hC (-6) dX5_box_53 (by decide) ?_
      refine V_icmp_ne hC 63 dX5_box_55 (by decide) (fun c55 => ?_) (fun c55 => ?_)
      · refine V_aload_n hC dX5_box_63 rfl rfl ?_
        refine V_iload_n hC dX5_box_64 rfl rfl ?_
        refine V_iconst hC 3 dX5_box_65 (by decide) ?_
        refine V_cvI (n := 2) hC (c_X5_get g (eL E) hN (b := k) (w := 3) hk8 (by decide)) dX5_box_66 gX5_box_X5_get rfl rfl rfl ⟨rfl, rfl⟩ (by decide +kernel) (by decide +kernel) (by omega) zM_0 rfl (Nat.le_of_ble_eq_true rfl) (by decide) (fun x66 u66 h66 => ?_)
        obtain ⟨rfl, rfl⟩ := h66
        refine V_sipush hC 1000 dX5_box_69 (by decide) ?_
        refine V_iadd hC dX5_box_72 ?_
        refine V_iret hC hR dX5_box_73 ⟨rfl, rfl, _, rfl, ?_⟩
        refine ⟨?_, rfl⟩
        rw [hbx, if_neg (by rw [hw]; decide), if_pos hw]
        first | (rw [hv 3 (by decide)] at c55 ⊢; rw [if_neg c55]; done) | (rw [hv 3 (by decide)] at c55; rw [if_pos c55]; done)
      · refine V_bipush hC (-6) dX5_box_58 (by decide) ?_
        refine V_goto hC 73 dX5_box_60 (by decide) ?_
        refine V_iret hC hR dX5_box_73 ⟨rfl, rfl, _, rfl, ?_⟩
        refine ⟨?_, rfl⟩
        rw [hbx, if_neg (by rw [hw]; decide), if_pos hw]
        first | (rw [hv 3 (by decide)] at c55 ⊢; rw [if_neg c55]; done) | (rw [hv 3 (by decide)] at c55; rw [if_pos c55]; done)
    · have hw1 : ¬ w = 0 := fun q => hw (Or.inl q)
      have hw2 : ¬ w = 3 := fun q => hw (Or.inr q)
      refine V_lookup (off := 63) hC 74 dX5_box_11 (by decide) (lk2 hw1 hw2) (by decide) ?_
      refine V_iload_n hC dX5_box_74 rfl rfl ?_
      refine V_i2l hC dX5_box_75 ?_
      refine V_lconst hC 1 dX5_box_76 (by decide) ?_
      refine V_ldc2 (v := 5) hC dX5_box_77 (by decide +kernel) ?_
      refine V_csI (n := 3) hC (c_X5_in g (eL E) _ _ _) dX5_box_80 gX5_box_X5_in rfl rfl rfl ⟨rfl, rfl⟩ (by decide +kernel) (by decide +kernel) (Nat.le_of_ble_eq_true rfl) (by decide) (fun x80 u80 h80 => ?_)
      rcases h80 with ⟨rfl, hj, rfl⟩ | ⟨rfl, hj, rfl⟩
      · rw [inJ_c (a := 1) (b := 5) (by decide) (by decide)] at hj
        obtain ⟨j, hj1, hj5, rfl⟩ := rng_n (a := 1) (b := 5) (by decide) (by decide) hj
        refine V_if_eq_f (tgt := 95) hC dX5_box_83 (by decide) (by decide) ?_
        refine V_aload_n hC dX5_box_86 rfl rfl ?_
        refine V_iload_n hC dX5_box_87 rfl rfl ?_
        refine V_iload_n hC dX5_box_88 rfl rfl ?_
        refine V_cvI (n := 2) hC (c_X5_get g (eL E) hN (b := k) (w := j) hk8 (by omega)) dX5_box_89 gX5_box_X5_get rfl rfl rfl ⟨rfl, rfl⟩ (by decide +kernel) (by decide +kernel) (by omega) zM_0 rfl (Nat.le_of_ble_eq_true rfl) (by decide) (fun x89 u89 h89 => ?_)
        obtain ⟨rfl, rfl⟩ := h89
        refine V_goto hC 97 dX5_box_92 (by decide) ?_
        refine V_iret hC hR dX5_box_97 ⟨rfl, rfl, _, rfl, ?_⟩
        refine ⟨?_, rfl⟩
        first | (rw [hbx, box_w hw1 hw2 hj1 hj5, hv j (by omega)]; done) | (rw [hbx, box_n hw1 hw2 hj]; done)
      · rw [inJ_c (a := 1) (b := 5) (by decide) (by decide)] at hj
        refine V_if_eq_t hC 95 dX5_box_83 (by decide) rfl ?_
        refine V_bipush hC (-2) dX5_box_95 (by decide) ?_
        refine V_iret hC hR dX5_box_97 ⟨rfl, rfl, _, rfl, ?_⟩
        refine ⟨?_, rfl⟩
        first | (rw [hbx, box_w hw1 hw2 hj1 hj5, hv j (by omega)]; done) | (rw [hbx, box_n hw1 hw2 hj]; done)
  · refine V_if_ne_f (tgt := 10) hC dX5_box_5 (by decide) rfl ?_
    refine V_iconst hC (-1) dX5_box_8 (by decide) ?_
    refine V_iret hC hR dX5_box_9 ⟨rfl, rfl, _, rfl, ?_⟩
    exact ⟨(mBox_no hj).symm, rfl⟩
theorem inX5_X5_brings : ∀ w ∈ wsX50, w ∈ wsX5_brings := by decide +kernel
abbrev rmX5_brings : Room := { frames := 7, cells := 0, slots := 0, locals := 153 }
set_option maxHeartbeats 4000000 in
set_option maxRecDepth 100000 in
theorem c_X5_brings (g : GE) (lau : Launch) {N : Nat} {ad : Nat → Nat} {f : Nat → va_E} {o : Nat} {a kp hs : Nat → Int32} {hl : Int32} {so sv pd : Nat → Int32} {pn sp od wb nb : Int32} (hN : o + 7 ≤ N) {m : MT} {n w : Nat} (hm : RepR a m) (hn : n < 2 ^ 31) (hok : TicksOK n m) (hw : w < 27) (h9 : w ≠ 9) (h19 : w ≠ 19) (h20 : w ≠ 20) : Ct g lau yX5_brings wsX5_brings rmX5_brings N ad [.ref (ad o), .int (nI n), .int (nI w)] (zM g ad f o a kp hs hl so sv pd pn sp od wb nb) (pI N ad (fun x u => x = brg n w m ∧ ∃ a2 kp2, u = (zM g ad f o a2 kp2 hs hl so sv pd pn sp od wb nb) ∧ ∀ i, i < 160 → a2 i = a i)) 0 0 := by
  refine Ct.of (maxL := 6) rfl (by decide +kernel) [some (.ref (ad o)), some (.int (nI n)), some (.int (nI w)), none, none, none] (Nat.le_of_ble_eq_true rfl) (by simp [lvo, lv_args, Value.category]) (fun E hnl _ hC hR => ?_)
  refine V_aload_n hC dX5_brings_0 rfl rfl ?_
  refine V_cvV (n := 0) hC (c_X5_keep g (eL E) hN) dX5_brings_1 gX5_brings_X5_keep rfl rfl rfl ⟨rfl, rfl⟩ (by decide +kernel) (by decide +kernel) (by omega) zM_0 rfl (Nat.le_of_ble_eq_true rfl) (by decide) (fun u1 h1 => ?_)
  obtain rfl := h1
  refine V_aload_n hC dX5_brings_4 rfl rfl ?_
  refine V_zM_all hC hN dX5_brings_5 inX5_X5_brings (by decide +kernel) ?_
  refine V_iload_n hC dX5_brings_8 rfl rfl ?_
  refine V_zM_ld1 hC hN dX5_brings_9 (ix_nI (j := w) (by omega) (by decide)) ?_
  refine V_istore_n3 hC dX5_brings_10 rfl (by rw [hnl]; decide) rfl ?_
  refine V_aload_n hC dX5_brings_11 rfl rfl ?_
  refine V_iload_n hC dX5_brings_12 rfl rfl ?_
  refine V_cvI (n := 1) hC (c_X5_passes g (eL E) hN (n := n) hn hm hok) dX5_brings_13 gX5_brings_X5_passes rfl rfl rfl ⟨rfl, rfl⟩ (by decide +kernel) (by decide +kernel) (by omega) zM_0 rfl (Nat.le_of_ble_eq_true rfl) (by decide) (fun x13 u13 h13 => ?_)
  obtain ⟨-, a2, rfl, hm2⟩ := h13
  refine V_istore4 hC dX5_brings_16 (by rw [hnl]; decide) rfl ?_
  refine V_aload_n hC dX5_brings_18 rfl rfl ?_
  refine V_zM_all hC hN dX5_brings_19 inX5_X5_brings (by decide +kernel) ?_
  refine V_iload_n hC dX5_brings_22 rfl rfl ?_
  refine V_zM_ld1 hC hN dX5_brings_23 (ix_nI (j := w) (by omega) (by decide)) ?_
  refine V_iload_n hC dX5_brings_24 rfl rfl ?_
  refine V_isub hC dX5_brings_25 ?_
  refine V_istore5 hC dX5_brings_26 (by rw [hnl]; decide) rfl ?_
  refine V_aload_n hC dX5_brings_28 rfl rfl ?_
  refine V_cvV (n := 0) hC (c_X5_giveBack g (eL E) hN) dX5_brings_29 gX5_brings_X5_giveBack rfl rfl rfl ⟨rfl, rfl⟩ (by decide +kernel) (by decide +kernel) (by omega) zM_0 rfl (Nat.le_of_ble_eq_true rfl) (by decide) (fun u29 h29 => ?_)
  obtain rfl := h29
  refine V_iload hC dX5_brings_32 rfl ?_
  refine V_iret hC hR dX5_brings_34 ⟨rfl, rfl, _, rfl, ?_⟩
  refine ⟨?_, _, _, rfl, fun i hi => by simp [cpN, hi]⟩
  rw [hm2.1 w (by omega) h9 h19 h20, hm.1 w (by omega) h9 h19 h20]
  rfl
theorem mIf_no {t w : Int32} {m : MT} (h : okT t = true) (hw : ¬ ((0 : Int32) ≤ w ∧ w ≤ 6)) : mIf t w m = -2 := by
  unfold mIf
  rw [if_pos h, if_neg (by rintro rfl; exact hw (by decide)), if_neg (by rintro rfl; exact hw (by decide)), if_neg (by rintro rfl; exact hw (by decide)), if_neg (by rintro rfl; exact hw (by decide)), if_neg (by rintro rfl; exact hw (by decide)), if_neg (by rintro rfl; exact hw (by decide)), if_neg (by rintro rfl; exact hw (by decide))]
theorem mBest_no {t w : Int32} {m : MT} (h : okT t = true) (hw : ¬ ((0 : Int32) ≤ w ∧ w ≤ 1)) : mBest t w m = -2 := by
  unfold mBest
  rw [if_pos h, if_neg (by rintro rfl; exact hw (by decide)), if_neg (by rintro rfl; exact hw (by decide))]
theorem RepR.with {a : Nat → Int32} {m : MT} {k : Nat} {z : Int32} (q : RepR a m) (h9 : k ≠ 9) (h19 : k ≠ 19) (h20 : k ≠ 20) (hk : k < 27) : RepR (upd a k z) (withH m k z) := ⟨q.1.at, q.2.1.off h9 (Or.inl hk), q.2.2.1.off h19 (Or.inl (by omega)), q.2.2.2.off h20 (Or.inl (by omega))⟩
theorem rSlot.put {so sv a : Nat → Int32} {sl : Nat → Option MT} {k : Nat} {m : MT} (q : rSlot so sv sl) (hk : k < 2) (hm : RepR a m) : rSlot (cpA so (160 * k) a 160) (upd sv k 1) (va_up sl k (some m)) := by
  intro j hj
  by_cases h : j = k
  · subst h
    exact Or.inr ⟨m, by simp [va_up], pk_us, hm.eq fun i hi => cpA_in hi⟩
  · rcases q j hj with ⟨h1, h2⟩ | ⟨m2, h1, h2, h3⟩
    · exact Or.inl ⟨by simp [va_up, h, h1], by rw [pk_un h, h2]⟩
    · exact Or.inr ⟨m2, by simp [va_up, h, h1], by rw [pk_un h, h2], h3.eq fun i hi => cpA_out (by omega)⟩
theorem inX5_X5_ifPass : ∀ w ∈ wsX50, w ∈ wsX5_ifPass := by decide +kernel
abbrev rmX5_ifPass : Room := { frames := 8, cells := 0, slots := 0, locals := 178 }
set_option maxHeartbeats 4000000 in
set_option maxRecDepth 100000 in
theorem c_X5_ifPass (g : GE) (lau : Launch) {N : Nat} {ad : Nat → Nat} {f : Nat → va_E} {o : Nat} {a kp hs : Nat → Int32} {hl : Int32} {so sv pd : Nat → Int32} {pn sp od wb nb : Int32} (hN : o + 7 ≤ N) {S : ST} (hS : RepM a hs hl so sv pd pn S) (v w : Int32) (hok : ∀ n, n ≤ 99 → TicksOK n S.1) : Ct g lau yX5_ifPass wsX5_ifPass rmX5_ifPass N ad [.ref (ad o), .int (v), .int (w)] (zM g ad f o a kp hs hl so sv pd pn sp od wb nb) (pI N ad (fun x u => x = mIf v w S.1 ∧ MIs g ad f o S u)) 0 0 := by
  refine Ct.of (maxL := 3) rfl (by decide +kernel) [some (.ref (ad o)), some (.int (v)), some (.int (w))] (Nat.le_of_ble_eq_true rfl) (by simp [lvo, lv_args, Value.category]) (fun E hnl _ hC hR => ?_)
  obtain ⟨hm, hh2, hs2, hp2⟩ := hS
  refine V_iload_n hC dX5_ifPass_0 rfl rfl ?_
  refine V_csI (n := 1) hC (c_X5_areTicks g (eL E) v) dX5_ifPass_1 gX5_ifPass_X5_areTicks rfl rfl rfl ⟨rfl, rfl⟩ (by decide +kernel) (by decide +kernel) (Nat.le_of_ble_eq_true rfl) (by decide) (fun x1 u1 h1 => ?_)
  rcases h1 with ⟨rfl, hjT, rfl⟩ | ⟨rfl, hjT, rfl⟩
  · obtain ⟨n, hn, rfl⟩ := okT_n hjT
    refine V_if_eq_f (tgt := 19) hC dX5_ifPass_4 (by decide) (by decide) ?_
    refine V_iload_n hC dX5_ifPass_7 rfl rfl ?_
    refine V_i2l hC dX5_ifPass_8 ?_
    refine V_lconst hC 0 dX5_ifPass_9 (by decide) ?_
    refine V_ldc2 (v := 6) hC dX5_ifPass_10 (by decide +kernel) ?_
    refine V_csI (n := 3) hC (c_X5_in g (eL E) _ _ _) dX5_ifPass_13 gX5_ifPass_X5_in rfl rfl rfl ⟨rfl, rfl⟩ (by decide +kernel) (by decide +kernel) (Nat.le_of_ble_eq_true rfl) (by decide) (fun x13 u13 h13 => ?_)
    rcases h13 with ⟨rfl, hj, rfl⟩ | ⟨rfl, hj, rfl⟩
    · rw [inJ_c (a := 0) (b := 6) (by decide) (by decide)] at hj
      obtain ⟨k, -, hk, rfl⟩ := rng_n (a := 0) (b := 6) (by decide) (by decide) hj
      refine V_if_ne_t hC 22 dX5_ifPass_16 (by decide) (by decide) ?_
      refine V_iload_n hC dX5_ifPass_22 rfl rfl ?_
      rcases (show k = 0 ∨ k = 1 ∨ k = 2 ∨ k = 3 ∨ k = 4 ∨ k = 5 ∨ k = 6 by omega) with rfl | rfl | rfl | rfl | rfl | rfl | rfl
      · refine V_tableOut hC 92 dX5_ifPass_23 (by decide) (by decide) ?_
        refine V_aload_n hC dX5_ifPass_92 rfl rfl ?_
        refine V_iload_n hC dX5_ifPass_93 rfl rfl ?_
        refine V_bipush hC 11 dX5_ifPass_94 (by decide) ?_
        refine V_iload_n hC dX5_ifPass_96 rfl rfl ?_
        refine V_iadd hC dX5_ifPass_97 ?_
        refine V_eqt (nI 11) (by decide) ?_
        refine V_cvI (n := 2) hC (c_X5_brings g (eL E) hN (n := n) (w := 11) hm (by omega) (hok n hn) (by decide) (by decide) (by decide) (by decide)) dX5_ifPass_98 gX5_ifPass_X5_brings rfl rfl rfl ⟨rfl, rfl⟩ (by decide +kernel) (by decide +kernel) (by omega) zM_0 rfl (Nat.le_of_ble_eq_true rfl) (by decide) (fun x98 u98 h98 => ?_)
        obtain ⟨rfl, a2, kp2, rfl, ha2⟩ := h98
        refine V_iret hC hR dX5_ifPass_101 ⟨rfl, rfl, _, rfl, ?_⟩
        exact ⟨by rw [mIf, hjT, nI_clamp (by omega)]; rfl, MIs.mk ⟨hm.eq ha2, hh2, hs2, hp2⟩⟩
      · refine V_tableOut hC 92 dX5_ifPass_23 (by decide) (by decide) ?_
        refine V_aload_n hC dX5_ifPass_92 rfl rfl ?_
        refine V_iload_n hC dX5_ifPass_93 rfl rfl ?_
        refine V_bipush hC 11 dX5_ifPass_94 (by decide) ?_
        refine V_iload_n hC dX5_ifPass_96 rfl rfl ?_
        refine V_iadd hC dX5_ifPass_97 ?_
        refine V_eqt (nI 12) (by decide) ?_
        refine V_cvI (n := 2) hC (c_X5_brings g (eL E) hN (n := n) (w := 12) hm (by omega) (hok n hn) (by decide) (by decide) (by decide) (by decide)) dX5_ifPass_98 gX5_ifPass_X5_brings rfl rfl rfl ⟨rfl, rfl⟩ (by decide +kernel) (by decide +kernel) (by omega) zM_0 rfl (Nat.le_of_ble_eq_true rfl) (by decide) (fun x98 u98 h98 => ?_)
        obtain ⟨rfl, a2, kp2, rfl, ha2⟩ := h98
        refine V_iret hC hR dX5_ifPass_101 ⟨rfl, rfl, _, rfl, ?_⟩
        exact ⟨by rw [mIf, hjT, nI_clamp (by omega)]; rfl, MIs.mk ⟨hm.eq ha2, hh2, hs2, hp2⟩⟩
      · refine V_tableOut hC 92 dX5_ifPass_23 (by decide) (by decide) ?_
        refine V_aload_n hC dX5_ifPass_92 rfl rfl ?_
        refine V_iload_n hC dX5_ifPass_93 rfl rfl ?_
        refine V_bipush hC 11 dX5_ifPass_94 (by decide) ?_
        refine V_iload_n hC dX5_ifPass_96 rfl rfl ?_
        refine V_iadd hC dX5_ifPass_97 ?_
        refine V_eqt (nI 13) (by decide) ?_
        refine V_cvI (n := 2) hC (c_X5_brings g (eL E) hN (n := n) (w := 13) hm (by omega) (hok n hn) (by decide) (by decide) (by decide) (by decide)) dX5_ifPass_98 gX5_ifPass_X5_brings rfl rfl rfl ⟨rfl, rfl⟩ (by decide +kernel) (by decide +kernel) (by omega) zM_0 rfl (Nat.le_of_ble_eq_true rfl) (by decide) (fun x98 u98 h98 => ?_)
        obtain ⟨rfl, a2, kp2, rfl, ha2⟩ := h98
        refine V_iret hC hR dX5_ifPass_101 ⟨rfl, rfl, _, rfl, ?_⟩
        exact ⟨by rw [mIf, hjT, nI_clamp (by omega)]; rfl, MIs.mk ⟨hm.eq ha2, hh2, hs2, hp2⟩⟩
      · refine V_tableIn hC 52 dX5_ifPass_23 (by decide) (by decide) rfl (by decide) ?_
        refine V_aload_n hC dX5_ifPass_52 rfl rfl ?_
        refine V_iload_n hC dX5_ifPass_53 rfl rfl ?_
        refine V_bipush hC 17 dX5_ifPass_54 (by decide) ?_
        refine V_cvI (n := 2) hC (c_X5_brings g (eL E) hN (n := n) (w := 17) hm (by omega) (hok n hn) (by decide) (by decide) (by decide) (by decide)) dX5_ifPass_56 gX5_ifPass_X5_brings rfl rfl rfl ⟨rfl, rfl⟩ (by decide +kernel) (by decide +kernel) (by omega) zM_0 rfl (Nat.le_of_ble_eq_true rfl) (by decide) (fun x56 u56 h56 => ?_)
        obtain ⟨rfl, a2, kp2, rfl, ha2⟩ := h56
        refine V_iret hC hR dX5_ifPass_59 ⟨rfl, rfl, _, rfl, ?_⟩
        exact ⟨by rw [mIf, hjT, nI_clamp (by omega)]; rfl, MIs.mk ⟨hm.eq ha2, hh2, hs2, hp2⟩⟩
      · refine V_tableIn hC 60 dX5_ifPass_23 (by decide) (by decide) rfl (by decide) ?_
        refine V_aload_n hC dX5_ifPass_60 rfl rfl ?_
        refine V_iload_n hC dX5_ifPass_61 rfl rfl ?_
        refine V_bipush hC 14 dX5_ifPass_62 (by decide) ?_
        refine V_cvI (n := 2) hC (c_X5_brings g (eL E) hN (n := n) (w := 14) hm (by omega) (hok n hn) (by decide) (by decide) (by decide) (by decide)) dX5_ifPass_64 gX5_ifPass_X5_brings rfl rfl rfl ⟨rfl, rfl⟩ (by decide +kernel) (by decide +kernel) (by omega) zM_0 rfl (Nat.le_of_ble_eq_true rfl) (by decide) (fun x64 u64 h64 => ?_)
        obtain ⟨rfl, a2, kp2, rfl, ha2⟩ := h64
        refine V_iret hC hR dX5_ifPass_67 ⟨rfl, rfl, _, rfl, ?_⟩
        exact ⟨by rw [mIf, hjT, nI_clamp (by omega)]; rfl, MIs.mk ⟨hm.eq ha2, hh2, hs2, hp2⟩⟩
      · refine V_tableIn hC 68 dX5_ifPass_23 (by decide) (by decide) rfl (by decide) ?_
        refine V_aload_n hC dX5_ifPass_68 rfl rfl ?_
        refine V_iload_n hC dX5_ifPass_69 rfl rfl ?_
        refine V_bipush hC 15 dX5_ifPass_70 (by decide) ?_
        refine V_cvI (n := 2) hC (c_X5_brings g (eL E) hN (n := n) (w := 15) hm (by omega) (hok n hn) (by decide) (by decide) (by decide) (by decide)) dX5_ifPass_72 gX5_ifPass_X5_brings rfl rfl rfl ⟨rfl, rfl⟩ (by decide +kernel) (by decide +kernel) (by omega) zM_0 rfl (Nat.le_of_ble_eq_true rfl) (by decide) (fun x72 u72 h72 => ?_)
        obtain ⟨rfl, a2, kp2, rfl, ha2⟩ := h72
        refine V_iret hC hR dX5_ifPass_75 ⟨rfl, rfl, _, rfl, ?_⟩
        exact ⟨by rw [mIf, hjT, nI_clamp (by omega)]; rfl, MIs.mk ⟨hm.eq ha2, hh2, hs2, hp2⟩⟩
      · refine V_tableIn hC 76 dX5_ifPass_23 (by decide) (by decide) rfl (by decide) ?_
        refine V_aload_n hC dX5_ifPass_76 rfl rfl ?_
        refine V_zM_all hC hN dX5_ifPass_77 inX5_X5_ifPass (by decide +kernel) ?_
        refine V_bipush hC 18 dX5_ifPass_80 (by decide) ?_
        refine V_zM_ld1 hC hN (k := 18) dX5_ifPass_82 (ix_c (by decide)) ?_
        refine V_aload_n hC dX5_ifPass_83 rfl rfl ?_
        refine V_iload_n hC dX5_ifPass_84 rfl rfl ?_
        refine V_bipush hC 18 dX5_ifPass_85 (by decide) ?_
        refine V_cvI (n := 2) hC (c_X5_brings g (eL E) hN (n := n) (w := 18) hm (by omega) (hok n hn) (by decide) (by decide) (by decide) (by decide)) dX5_ifPass_87 gX5_ifPass_X5_brings rfl rfl rfl ⟨rfl, rfl⟩ (by decide +kernel) (by decide +kernel) (by omega) zM_0 rfl (Nat.le_of_ble_eq_true rfl) (by decide) (fun x87 u87 h87 => ?_)
        obtain ⟨rfl, a2, kp2, rfl, ha2⟩ := h87
        refine V_iadd hC dX5_ifPass_90 ?_
        refine V_iret hC hR dX5_ifPass_91 ⟨rfl, rfl, _, rfl, ?_⟩
        refine ⟨?_, MIs.mk ⟨hm.eq ha2, hh2, hs2, hp2⟩⟩
        rw [mIf, hjT, nI_clamp (by omega), hm.1 18 (by decide) (by decide) (by decide) (by decide), brg]
        show _ = (mTicks n S.1).1 18
        rw [Int32.add_comm, Int32.sub_add_cancel]
    · rw [inJ_c (a := 0) (b := 6) (by decide) (by decide)] at hj
      refine V_if_ne_f (tgt := 22) hC dX5_ifPass_16 (by decide) rfl ?_
      refine V_bipush hC (-2) dX5_ifPass_19 (by decide) ?_
      refine V_iret hC hR dX5_ifPass_21 ⟨rfl, rfl, _, rfl, ?_⟩
      refine ⟨?_, MIs.mk ⟨hm, hh2, hs2, hp2⟩⟩
      first | (rw [mIf_no hjT hj]; done) | (rw [mIf, hjT]; rfl)
  · refine V_if_eq_t hC 19 dX5_ifPass_4 (by decide) rfl ?_
    refine V_bipush hC (-2) dX5_ifPass_19 (by decide) ?_
    refine V_iret hC hR dX5_ifPass_21 ⟨rfl, rfl, _, rfl, ?_⟩
    refine ⟨?_, MIs.mk ⟨hm, hh2, hs2, hp2⟩⟩
    first | (rw [mIf_no hjT hj]; done) | (rw [mIf, hjT]; rfl)
theorem inX5_X5_bestGuess : ∀ w ∈ wsX50, w ∈ wsX5_bestGuess := by decide +kernel
abbrev rmX5_bestGuess : Room := { frames := 8, cells := 0, slots := 0, locals := 178 }
set_option maxHeartbeats 4000000 in
set_option maxRecDepth 100000 in
theorem c_X5_bestGuess (g : GE) (lau : Launch) {N : Nat} {ad : Nat → Nat} {f : Nat → va_E} {o : Nat} {a kp hs : Nat → Int32} {hl : Int32} {so sv pd : Nat → Int32} {pn sp od wb nb : Int32} (hN : o + 7 ≤ N) {S : ST} (hS : RepM a hs hl so sv pd pn S) (v w : Int32) (hok : AllOK S.1) : Ct g lau yX5_bestGuess wsX5_bestGuess rmX5_bestGuess N ad [.ref (ad o), .int (v), .int (w)] (zM g ad f o a kp hs hl so sv pd pn sp od wb nb) (pI N ad (fun x u => x = mBest v w S.1 ∧ MIs g ad f o S u)) 0 0 := by
  refine Ct.of (maxL := 8) rfl (by decide +kernel) [some (.ref (ad o)), some (.int (v)), some (.int (w)), none, none, none, none, none] (Nat.le_of_ble_eq_true rfl) (by simp [lvo, lv_args, Value.category]) (fun E hnl _ hC hR => ?_)
  obtain ⟨hm, hh2, hs2, hp2⟩ := hS
  have loop : okT v = true → (w = 0 ∨ w = 1) → ∀ (n : Nat), n ≤ 99 → v = nI n → ∀ (j k : Nat) (a1 kp : Nat → Int32), k + j = 6 → (∀ i, i < 160 → i ≠ 2 → a1 i = a i) → V E g N ad 0 0 (zM g ad f o a1 kp hs hl so sv pd pn sp od wb nb) 36 [some (.ref (ad o)), some (.int (v)), some (.int (w)), some (.int (a 2)), some (.int ((bestN n S.1 k).1)), some (.int ((bestN n S.1 k).2)), some (.int (nI k)), none] [] := by
    intro hjT hw n hn hv j
    induction j with
    | zero =>
      intro k a1 kp hk ha
      have hk : k = 6 := by omega
      subst hk
      refine V_iload hC dX5_bestGuess_36 rfl ?_
      refine V_iconst hC 5 dX5_bestGuess_38 (by decide) ?_
      refine V_icmp_gt_t hC 97 dX5_bestGuess_39 (by decide) (by decide) ?_
      refine V_aload_n hC dX5_bestGuess_97 rfl rfl ?_
      refine V_zM_all hC hN dX5_bestGuess_98 inX5_X5_bestGuess (by decide +kernel) ?_
      refine V_iconst hC 2 dX5_bestGuess_101 (by decide) ?_
      refine V_iload_n hC dX5_bestGuess_102 rfl rfl ?_
      refine V_zM_st1 (k := 2) hC hN dX5_bestGuess_103 (ix_c (by decide)) ?_
      refine V_iload_n hC dX5_bestGuess_104 rfl rfl ?_
      refine V_if_ne hC 113 dX5_bestGuess_105 (by decide) (fun c105 => ?_) (fun c105 => ?_)
      · refine V_iload hC dX5_bestGuess_113 rfl ?_
        refine V_iret hC hR dX5_bestGuess_115 ⟨rfl, rfl, _, rfl, ?_⟩
        refine ⟨?_, MIs.mk ⟨hm.eq fun i hi => by by_cases h2 : i = 2; rw [h2, pk_us]; rw [pk_un h2]; exact ha i hi h2, hh2, hs2, hp2⟩⟩
        rw [mBest, hjT, hv, nI_clamp (by omega)]
        first | (rw [if_pos rfl, if_pos c105]; done) | (rcases hw with hw | hw; exact absurd hw c105; rw [if_pos rfl, if_neg c105, if_pos hw])
      · refine V_iload hC dX5_bestGuess_108 rfl ?_
        refine V_goto hC 115 dX5_bestGuess_110 (by decide) ?_
        refine V_iret hC hR dX5_bestGuess_115 ⟨rfl, rfl, _, rfl, ?_⟩
        refine ⟨?_, MIs.mk ⟨hm.eq fun i hi => by by_cases h2 : i = 2; rw [h2, pk_us]; rw [pk_un h2]; exact ha i hi h2, hh2, hs2, hp2⟩⟩
        rw [mBest, hjT, hv, nI_clamp (by omega)]
        first | (rw [if_pos rfl, if_pos c105]; done) | (rcases hw with hw | hw; exact absurd hw c105; rw [if_pos rfl, if_neg c105, if_pos hw])
    | succ j ih =>
      intro k a1 kp hk ha
      have hk6 : k < 6 := by omega
      have hmk : RepR (upd a1 2 (nI k)) (withH S.1 2 (nI k)) := (hm.with (by decide) (by decide) (by decide) (by decide)).eq fun i hi => by by_cases h2 : i = 2; rw [h2, pk_us, pk_us]; rw [pk_un h2, pk_un h2]; exact ha i hi h2
      subst hv
      refine V_iload hC dX5_bestGuess_36 rfl ?_
      refine V_iconst hC 5 dX5_bestGuess_38 (by decide) ?_
      refine V_icmp_gt_f (tgt := 97) hC dX5_bestGuess_39 (by decide) (show ¬ (5 : Int32) < nI k from Int32.not_lt.mpr (nI_le (b := 5) (by omega) (by decide))) ?_
      refine V_aload_n hC dX5_bestGuess_42 rfl rfl ?_
      refine V_zM_all hC hN dX5_bestGuess_43 inX5_X5_bestGuess (by decide +kernel) ?_
      refine V_iconst hC 2 dX5_bestGuess_46 (by decide) ?_
      refine V_iload hC dX5_bestGuess_47 rfl ?_
      refine V_zM_st1 (k := 2) hC hN dX5_bestGuess_49 (ix_c (by decide)) ?_
      refine V_aload_n hC dX5_bestGuess_50 rfl rfl ?_
      refine V_iload_n hC dX5_bestGuess_51 rfl rfl ?_
      refine V_bipush hC 11 dX5_bestGuess_52 (by decide) ?_
      refine V_cvI (n := 2) hC (c_X5_brings g (eL E) hN (n := n) (w := 11) hmk (by omega) ((hok n hn).2.1 k (by omega)) (by decide) (by decide) (by decide) (by decide)) dX5_bestGuess_54 gX5_bestGuess_X5_brings rfl rfl rfl ⟨rfl, rfl⟩ (by decide +kernel) (by decide +kernel) (by omega) zM_0 rfl (Nat.le_of_ble_eq_true rfl) (by decide) (fun x54 u54 h54 => ?_)
      obtain ⟨rfl, a2, kp2, rfl, ha2⟩ := h54
      refine V_istore7 hC dX5_bestGuess_57 (by rw [hnl]; decide) rfl ?_
      refine V_iload hC dX5_bestGuess_59 rfl ?_
      refine V_iload hC dX5_bestGuess_61 rfl ?_
      refine V_icmp_le hC 71 dX5_bestGuess_63 (by decide) (fun c63 => ?_) (fun c63 => ?_)
      · refine V_iload hC dX5_bestGuess_71 rfl ?_
        refine V_istore4 hC dX5_bestGuess_73 (by rw [hnl]; decide) rfl ?_
        refine V_iload hC dX5_bestGuess_75 rfl ?_
        refine V_iload hC dX5_bestGuess_77 rfl ?_
        refine V_icmp_le_t hC 87 dX5_bestGuess_79 (by decide) c63 ?_
        refine V_iload hC dX5_bestGuess_87 rfl ?_
        refine V_istore5 hC dX5_bestGuess_89 (by rw [hnl]; decide) rfl ?_
        refine V_iinc6 hC (nI (k + 1)) dX5_bestGuess_91 (nI_1 k) (by rw [hnl]; decide) rfl ?_
        refine V_goto hC 36 dX5_bestGuess_94 (by decide) ?_
        have hb1 : bestN n S.1 (k + 1) = bestN n S.1 k := by rw [bestN, if_neg (Int32.not_lt.mpr c63)]
        have := ih (k + 1) a2 kp2 (by omega) (fun i hi h2 => by rw [ha2 i hi, pk_un h2]; exact ha i hi h2)
        rw [hb1] at this
        exact V_lo (by intro q hq; simp only [lvo, List.mem_cons, List.not_mem_nil, or_false] at hq ⊢; rcases hq with h | h | h | h | h | h | h <;> simp [h]) this
      · refine V_iload hC dX5_bestGuess_66 rfl ?_
        refine V_goto hC 73 dX5_bestGuess_68 (by decide) ?_
        refine V_istore4 hC dX5_bestGuess_73 (by rw [hnl]; decide) rfl ?_
        refine V_iload hC dX5_bestGuess_75 rfl ?_
        refine V_iload hC dX5_bestGuess_77 rfl ?_
        refine V_icmp_le_f (tgt := 87) hC dX5_bestGuess_79 (by decide) c63 ?_
        refine V_iload hC dX5_bestGuess_82 rfl ?_
        refine V_goto hC 89 dX5_bestGuess_84 (by decide) ?_
        refine V_istore5 hC dX5_bestGuess_89 (by rw [hnl]; decide) rfl ?_
        refine V_iinc6 hC (nI (k + 1)) dX5_bestGuess_91 (nI_1 k) (by rw [hnl]; decide) rfl ?_
        refine V_goto hC 36 dX5_bestGuess_94 (by decide) ?_
        have hb1 : bestN n S.1 (k + 1) = (nI k, brg n 11 (withH S.1 2 (nI k))) := by rw [bestN, if_pos (Int32.not_le.mp c63)]
        have := ih (k + 1) a2 kp2 (by omega) (fun i hi h2 => by rw [ha2 i hi, pk_un h2]; exact ha i hi h2)
        rw [hb1] at this
        exact V_lo (by intro q hq; simp only [lvo, List.mem_cons, List.not_mem_nil, or_false] at hq ⊢; rcases hq with h | h | h | h | h | h | h <;> simp [h]) this
  refine V_iload_n hC dX5_bestGuess_0 rfl rfl ?_
  refine V_csI (n := 1) hC (c_X5_areTicks g (eL E) v) dX5_bestGuess_1 gX5_bestGuess_X5_areTicks rfl rfl rfl ⟨rfl, rfl⟩ (by decide +kernel) (by decide +kernel) (Nat.le_of_ble_eq_true rfl) (by decide) (fun x1 u1 h1 => ?_)
  rcases h1 with ⟨rfl, hjT, rfl⟩ | ⟨rfl, hjT, rfl⟩
  · obtain ⟨n, hn, rfl⟩ := okT_n hjT
    refine V_if_eq_f (tgt := 17) hC dX5_bestGuess_4 (by decide) (by decide) ?_
    refine V_iload_n hC dX5_bestGuess_7 rfl rfl ?_
    refine V_i2l hC dX5_bestGuess_8 ?_
    refine V_lconst hC 0 dX5_bestGuess_9 (by decide) ?_
    refine V_lconst hC 1 dX5_bestGuess_10 (by decide) ?_
    refine V_csI (n := 3) hC (c_X5_in g (eL E) _ _ _) dX5_bestGuess_11 gX5_bestGuess_X5_in rfl rfl rfl ⟨rfl, rfl⟩ (by decide +kernel) (by decide +kernel) (Nat.le_of_ble_eq_true rfl) (by decide) (fun x11 u11 h11 => ?_)
    rcases h11 with ⟨rfl, hj, rfl⟩ | ⟨rfl, hj, rfl⟩
    · rw [inJ_c (a := 0) (b := 1) (by decide) (by decide)] at hj
      have hw : w = 0 ∨ w = 1 := by obtain ⟨k, -, hk, rfl⟩ := rng_n (a := 0) (b := 1) (by decide) (by decide) hj; rcases (show k = 0 ∨ k = 1 by omega) with rfl | rfl; exact Or.inl rfl; exact Or.inr rfl
      refine V_if_ne_t hC 20 dX5_bestGuess_14 (by decide) (by decide) ?_
      refine V_aload_n hC dX5_bestGuess_20 rfl rfl ?_
      refine V_zM_all hC hN dX5_bestGuess_21 inX5_X5_bestGuess (by decide +kernel) ?_
      refine V_iconst hC 2 dX5_bestGuess_24 (by decide) ?_
      refine V_zM_ld1 hC hN (k := 2) dX5_bestGuess_25 (ix_c (by decide)) ?_
      refine V_istore_n3 hC dX5_bestGuess_26 rfl (by rw [hnl]; decide) rfl ?_
      refine V_iconst hC 0 dX5_bestGuess_27 (by decide) ?_
      refine V_istore4 hC dX5_bestGuess_28 (by rw [hnl]; decide) rfl ?_
      refine V_iconst hC (-1) dX5_bestGuess_30 (by decide) ?_
      refine V_istore5 hC dX5_bestGuess_31 (by rw [hnl]; decide) rfl ?_
      refine V_iconst hC 0 dX5_bestGuess_33 (by decide) ?_
      refine V_istore6 hC dX5_bestGuess_34 (by rw [hnl]; decide) rfl ?_
      exact loop hjT hw n hn rfl 6 0 a kp rfl (fun i _ _ => rfl)
    · rw [inJ_c (a := 0) (b := 1) (by decide) (by decide)] at hj
      refine V_if_ne_f (tgt := 20) hC dX5_bestGuess_14 (by decide) rfl ?_
      refine V_bipush hC (-2) dX5_bestGuess_17 (by decide) ?_
      refine V_iret hC hR dX5_bestGuess_19 ⟨rfl, rfl, _, rfl, ?_⟩
      refine ⟨?_, MIs.mk ⟨hm, hh2, hs2, hp2⟩⟩
      first | (rw [mBest_no hjT hj]; done) | (rw [mBest, hjT]; rfl)
  · refine V_if_eq_t hC 17 dX5_bestGuess_4 (by decide) rfl ?_
    refine V_bipush hC (-2) dX5_bestGuess_17 (by decide) ?_
    refine V_iret hC hR dX5_bestGuess_19 ⟨rfl, rfl, _, rfl, ?_⟩
    refine ⟨?_, MIs.mk ⟨hm, hh2, hs2, hp2⟩⟩
    first | (rw [mBest_no hjT hj]; done) | (rw [mBest, hjT]; rfl)
theorem inX5_X5_neededSlack : ∀ w ∈ wsX50, w ∈ wsX5_neededSlack := by decide +kernel
abbrev rmX5_neededSlack : Room := { frames := 8, cells := 0, slots := 0, locals := 178 }
set_option maxHeartbeats 4000000 in
set_option maxRecDepth 100000 in
theorem c_X5_neededSlack (g : GE) (lau : Launch) {N : Nat} {ad : Nat → Nat} {f : Nat → va_E} {o : Nat} {a kp hs : Nat → Int32} {hl : Int32} {so sv pd : Nat → Int32} {pn sp od wb nb : Int32} (hN : o + 7 ≤ N) {S : ST} (hS : RepM a hs hl so sv pd pn S) (v : Int32) (hok : AllOK S.1) : Ct g lau yX5_neededSlack wsX5_neededSlack rmX5_neededSlack N ad [.ref (ad o), .int (v)] (zM g ad f o a kp hs hl so sv pd pn sp od wb nb) (pI N ad (fun x u => x = mNeed v S.1 ∧ MIs g ad f o S u)) 0 0 := by
  refine Ct.of (maxL := 5) rfl (by decide +kernel) [some (.ref (ad o)), some (.int (v)), none, none, none] (Nat.le_of_ble_eq_true rfl) (by simp [lvo, lv_args, Value.category]) (fun E hnl _ hC hR => ?_)
  obtain ⟨hm, hh2, hs2, hp2⟩ := hS
  have loop : okT v = true → ∀ (n : Nat), n ≤ 99 → v = nI n → ∀ (s j : Nat) (a1 kp : Nat → Int32), j + s = 60 → (∀ i, i < 160 → i ≠ 18 → a1 i = a i) → V E g N ad 0 0 (zM g ad f o a1 kp hs hl so sv pd pn sp od wb nb) 25 [some (.ref (ad o)), some (.int (v)), some (.int (a 18)), some (.int (needN n S.1 j)), some (.int (nI s))] [] := by
    intro hjT n hn hv s
    subst hv
    induction s with
    | zero =>
      intro j a1 kp hj ha
      have hj : j = 60 := by omega
      subst hj
      have hmk : RepR (upd a1 18 (nI 0)) (withH S.1 18 (nI 0)) := (hm.with (by decide) (by decide) (by decide) (by decide)).eq fun i hi => by by_cases h2 : i = 18; rw [h2, pk_us, pk_us]; rw [pk_un h2, pk_un h2]; exact ha i hi h2
      refine V_iload hC dX5_neededSlack_25 rfl ?_
      refine V_if_lt_f (tgt := 62) hC dX5_neededSlack_27 (by decide) (by decide) ?_
      refine V_aload_n hC dX5_neededSlack_30 rfl rfl ?_
      refine V_zM_all hC hN dX5_neededSlack_31 inX5_X5_neededSlack (by decide +kernel) ?_
      refine V_bipush hC 18 dX5_neededSlack_34 (by decide) ?_
      refine V_iload hC dX5_neededSlack_36 rfl ?_
      refine V_zM_st1 (k := 18) hC hN dX5_neededSlack_38 (ix_c (by decide)) ?_
      refine V_aload_n hC dX5_neededSlack_39 rfl rfl ?_
      refine V_iload_n hC dX5_neededSlack_40 rfl rfl ?_
      refine V_bipush hC 17 dX5_neededSlack_41 (by decide) ?_
      refine V_cvI (n := 2) hC (c_X5_brings g (eL E) hN (n := n) (w := 17) hmk (by omega) ((hok n hn).2.2 0 (by omega)) (by decide) (by decide) (by decide) (by decide)) dX5_neededSlack_43 gX5_neededSlack_X5_brings rfl rfl rfl ⟨rfl, rfl⟩ (by decide +kernel) (by decide +kernel) (by omega) zM_0 rfl (Nat.le_of_ble_eq_true rfl) (by decide) (fun x43 u43 h43 => ?_)
      obtain ⟨rfl, a2, kp2, rfl, ha2⟩ := h43
      refine V_if_ne hC 54 dX5_neededSlack_46 (by decide) (fun c46 => ?_) (fun c46 => ?_)
      · refine V_iload_n hC dX5_neededSlack_54 rfl rfl ?_
        refine V_istore_n3 hC dX5_neededSlack_55 rfl (by rw [hnl]; decide) rfl ?_
        refine V_iinc4 hC (-1) dX5_neededSlack_56 (by decide) (by rw [hnl]; decide) rfl ?_
        refine V_goto hC 25 dX5_neededSlack_59 (by decide) ?_
        refine V_iload hC dX5_neededSlack_25 rfl ?_
        refine V_if_lt_t hC 62 dX5_neededSlack_27 (by decide) (by decide) ?_
        refine V_aload_n hC dX5_neededSlack_62 rfl rfl ?_
        refine V_zM_all hC hN dX5_neededSlack_63 inX5_X5_neededSlack (by decide +kernel) ?_
        refine V_bipush hC 18 dX5_neededSlack_66 (by decide) ?_
        refine V_iload_n hC dX5_neededSlack_68 rfl rfl ?_
        refine V_zM_st1 (k := 18) hC hN dX5_neededSlack_69 (ix_c (by decide)) ?_
        refine V_iload_n hC dX5_neededSlack_70 rfl rfl ?_
        refine V_iret hC hR dX5_neededSlack_71 ⟨rfl, rfl, _, rfl, ?_⟩
        refine ⟨?_, MIs.mk ⟨hm.eq fun i hi => by by_cases h2 : i = 18; rw [h2, pk_us]; rw [pk_un h2, ha2 i hi, pk_un h2]; exact ha i hi h2, hh2, hs2, hp2⟩⟩
        have h61 : needN n S.1 61 = if brg n 17 (withH S.1 18 (nI 0)) = 0 then nI 0 else needN n S.1 60 := rfl
        rw [mNeed, hjT, nI_clamp (by omega), if_pos rfl, h61]
        first | (rw [if_pos c46]; done) | (rw [if_neg c46]; done)
      · refine V_iload hC dX5_neededSlack_49 rfl ?_
        refine V_goto hC 55 dX5_neededSlack_51 (by decide) ?_
        refine V_istore_n3 hC dX5_neededSlack_55 rfl (by rw [hnl]; decide) rfl ?_
        refine V_iinc4 hC (-1) dX5_neededSlack_56 (by decide) (by rw [hnl]; decide) rfl ?_
        refine V_goto hC 25 dX5_neededSlack_59 (by decide) ?_
        refine V_iload hC dX5_neededSlack_25 rfl ?_
        refine V_if_lt_t hC 62 dX5_neededSlack_27 (by decide) (by decide) ?_
        refine V_aload_n hC dX5_neededSlack_62 rfl rfl ?_
        refine V_zM_all hC hN dX5_neededSlack_63 inX5_X5_neededSlack (by decide +kernel) ?_
        refine V_bipush hC 18 dX5_neededSlack_66 (by decide) ?_
        refine V_iload_n hC dX5_neededSlack_68 rfl rfl ?_
        refine V_zM_st1 (k := 18) hC hN dX5_neededSlack_69 (ix_c (by decide)) ?_
        refine V_iload_n hC dX5_neededSlack_70 rfl rfl ?_
        refine V_iret hC hR dX5_neededSlack_71 ⟨rfl, rfl, _, rfl, ?_⟩
        refine ⟨?_, MIs.mk ⟨hm.eq fun i hi => by by_cases h2 : i = 18; rw [h2, pk_us]; rw [pk_un h2, ha2 i hi, pk_un h2]; exact ha i hi h2, hh2, hs2, hp2⟩⟩
        have h61 : needN n S.1 61 = if brg n 17 (withH S.1 18 (nI 0)) = 0 then nI 0 else needN n S.1 60 := rfl
        rw [mNeed, hjT, nI_clamp (by omega), if_pos rfl, h61]
        first | (rw [if_pos c46]; done) | (rw [if_neg c46]; done)
    | succ s ih =>
      intro j a1 kp hj ha
      have hmk : RepR (upd a1 18 (nI (s + 1))) (withH S.1 18 (nI (s + 1))) := (hm.with (by decide) (by decide) (by decide) (by decide)).eq fun i hi => by by_cases h2 : i = 18; rw [h2, pk_us, pk_us]; rw [pk_un h2, pk_un h2]; exact ha i hi h2
      refine V_iload hC dX5_neededSlack_25 rfl ?_
      refine V_if_lt_f (tgt := 62) hC dX5_neededSlack_27 (by decide) (nI_pos (by omega)) ?_
      refine V_aload_n hC dX5_neededSlack_30 rfl rfl ?_
      refine V_zM_all hC hN dX5_neededSlack_31 inX5_X5_neededSlack (by decide +kernel) ?_
      refine V_bipush hC 18 dX5_neededSlack_34 (by decide) ?_
      refine V_iload hC dX5_neededSlack_36 rfl ?_
      refine V_zM_st1 (k := 18) hC hN dX5_neededSlack_38 (ix_c (by decide)) ?_
      refine V_aload_n hC dX5_neededSlack_39 rfl rfl ?_
      refine V_iload_n hC dX5_neededSlack_40 rfl rfl ?_
      refine V_bipush hC 17 dX5_neededSlack_41 (by decide) ?_
      refine V_cvI (n := 2) hC (c_X5_brings g (eL E) hN (n := n) (w := 17) hmk (by omega) ((hok n hn).2.2 (s + 1) (by omega)) (by decide) (by decide) (by decide) (by decide)) dX5_neededSlack_43 gX5_neededSlack_X5_brings rfl rfl rfl ⟨rfl, rfl⟩ (by decide +kernel) (by decide +kernel) (by omega) zM_0 rfl (Nat.le_of_ble_eq_true rfl) (by decide) (fun x43 u43 h43 => ?_)
      obtain ⟨rfl, a2, kp2, rfl, ha2⟩ := h43
      refine V_if_ne hC 54 dX5_neededSlack_46 (by decide) (fun c46 => ?_) (fun c46 => ?_)
      · refine V_iload_n hC dX5_neededSlack_54 rfl rfl ?_
        refine V_istore_n3 hC dX5_neededSlack_55 rfl (by rw [hnl]; decide) rfl ?_
        refine V_iinc4 hC (nI s) dX5_neededSlack_56 (pk_m1 s) (by rw [hnl]; decide) rfl ?_
        refine V_goto hC 25 dX5_neededSlack_59 (by decide) ?_
        have hb1 : needN n S.1 (j + 1) = needN n S.1 j := by rw [needN, show 60 - j = s + 1 by omega, if_neg c46]
        have := ih (j + 1) a2 kp2 (by omega) (fun i hi h2 => by rw [ha2 i hi, pk_un h2]; exact ha i hi h2)
        rw [hb1] at this
        exact this
      · refine V_iload hC dX5_neededSlack_49 rfl ?_
        refine V_goto hC 55 dX5_neededSlack_51 (by decide) ?_
        refine V_istore_n3 hC dX5_neededSlack_55 rfl (by rw [hnl]; decide) rfl ?_
        refine V_iinc4 hC (nI s) dX5_neededSlack_56 (pk_m1 s) (by rw [hnl]; decide) rfl ?_
        refine V_goto hC 25 dX5_neededSlack_59 (by decide) ?_
        have hb1 : needN n S.1 (j + 1) = nI (s + 1) := by rw [needN, show 60 - j = s + 1 by omega, if_pos c46]
        have := ih (j + 1) a2 kp2 (by omega) (fun i hi h2 => by rw [ha2 i hi, pk_un h2]; exact ha i hi h2)
        rw [hb1] at this
        exact this
  refine V_iload_n hC dX5_neededSlack_0 rfl rfl ?_
  refine V_csI (n := 1) hC (c_X5_areTicks g (eL E) v) dX5_neededSlack_1 gX5_neededSlack_X5_areTicks rfl rfl rfl ⟨rfl, rfl⟩ (by decide +kernel) (by decide +kernel) (Nat.le_of_ble_eq_true rfl) (by decide) (fun x1 u1 h1 => ?_)
  rcases h1 with ⟨rfl, hjT, rfl⟩ | ⟨rfl, hjT, rfl⟩
  · obtain ⟨n, hn, rfl⟩ := okT_n hjT
    refine V_if_ne_t hC 10 dX5_neededSlack_4 (by decide) (by decide) ?_
    refine V_aload_n hC dX5_neededSlack_10 rfl rfl ?_
    refine V_zM_all hC hN dX5_neededSlack_11 inX5_X5_neededSlack (by decide +kernel) ?_
    refine V_bipush hC 18 dX5_neededSlack_14 (by decide) ?_
    refine V_zM_ld1 hC hN (k := 18) dX5_neededSlack_16 (ix_c (by decide)) ?_
    refine V_istore_n2 hC dX5_neededSlack_17 rfl (by rw [hnl]; decide) rfl ?_
    refine V_bipush hC (-6) dX5_neededSlack_18 (by decide) ?_
    refine V_istore_n3 hC dX5_neededSlack_20 rfl (by rw [hnl]; decide) rfl ?_
    refine V_bipush hC 60 dX5_neededSlack_21 (by decide) ?_
    refine V_istore4 hC dX5_neededSlack_23 (by rw [hnl]; decide) rfl ?_
    exact loop hjT n hn rfl 60 0 a kp rfl (fun i _ _ => rfl)
  · refine V_if_ne_f (tgt := 10) hC dX5_neededSlack_4 (by decide) rfl ?_
    refine V_bipush hC (-2) dX5_neededSlack_7 (by decide) ?_
    refine V_iret hC hR dX5_neededSlack_9 ⟨rfl, rfl, _, rfl, ?_⟩
    exact ⟨by rw [mNeed, hjT]; rfl, MIs.mk ⟨hm, hh2, hs2, hp2⟩⟩
theorem inX5_X5_wipe : ∀ w ∈ wsX50, w ∈ wsX5_wipe := by decide +kernel
abbrev rmX5_wipe : Room := { frames := 0, cells := 0, slots := 0, locals := 0 }
set_option maxHeartbeats 4000000 in
set_option maxRecDepth 100000 in
theorem c_X5_wipe (g : GE) (lau : Launch) {N : Nat} {ad : Nat → Nat} {f : Nat → va_E} {o : Nat} {a kp hs : Nat → Int32} {hl : Int32} {so sv pd : Nat → Int32} {pn sp od wb nb : Int32} (hN : o + 7 ≤ N) {S : ST} (hS : RepM a hs hl so sv pd pn S) : Ct g lau yX5_wipe wsX5_wipe rmX5_wipe N ad [.ref (ad o)] (zM g ad f o a kp hs hl so sv pd pn sp od wb nb) (pI N ad (fun x u => x = nI S.2.2.2.length ∧ MIs g ad f o (S.1, S.2.1, S.2.2.1, []) u)) 0 0 := by
  refine Ct.of (maxL := 2) rfl (by decide +kernel) [some (.ref (ad o)), none] (Nat.le_of_ble_eq_true rfl) (by simp [lvo, lv_args, Value.category]) (fun E hnl _ hC hR => ?_)
  obtain ⟨hm, hh2, hs2, hp2⟩ := hS
  refine V_aload_n hC dX5_wipe_0 rfl rfl ?_
  refine V_zM_padLong hC hN dX5_wipe_1 inX5_X5_wipe (by decide +kernel) ?_
  refine V_istore_n1 hC dX5_wipe_4 rfl (by rw [hnl]; decide) rfl ?_
  refine V_aload_n hC dX5_wipe_5 rfl rfl ?_
  refine V_iconst hC 0 dX5_wipe_6 (by decide) ?_
  refine V_zM_put_padLong hC hN dX5_wipe_7 inX5_X5_wipe (by decide +kernel) ?_
  refine V_iload_n hC dX5_wipe_10 rfl rfl ?_
  refine V_iret hC hR dX5_wipe_11 ⟨rfl, rfl, _, rfl, ?_⟩
  exact ⟨hp2.1, MIs.mk ⟨hm, hh2, hs2, rfl, Nat.zero_le _, fun j y hj => by simp at hj⟩⟩
theorem rHist.pop {hs : Nat → Int32} {hl : Int32} {hi : List MT} {m : MT} (q : rHist hs hl hi) (h : hi.getLast? = some m) : rHist hs (nI (hi.length - 1)) hi.dropLast ∧ RepR (fun i => hs (160 * (hi.length - 1) + i)) m ∧ 0 < hi.length := by
  rw [List.getLast?_eq_getElem?] at h
  have hl2 := (List.getElem?_eq_some_iff.mp h).1
  refine ⟨⟨by rw [List.length_dropLast], by rw [List.length_dropLast]; have := q.2.1; omega, fun j m2 hj => ?_⟩, q.2.2 _ _ h, by omega⟩
  have h3 := (List.getElem?_eq_some_iff.mp hj).1
  rw [List.length_dropLast] at h3
  rw [List.getElem?_dropLast, if_pos h3] at hj
  exact q.2.2 j m2 hj
theorem inX5_X5_undo : ∀ w ∈ wsX50, w ∈ wsX5_undo := by decide +kernel
abbrev rmX5_undo : Room := { frames := 0, cells := 0, slots := 0, locals := 0 }
set_option maxHeartbeats 4000000 in
set_option maxRecDepth 100000 in
theorem c_X5_undo (g : GE) (lau : Launch) {N : Nat} {ad : Nat → Nat} {f : Nat → va_E} {o : Nat} {a kp hs : Nat → Int32} {hl : Int32} {so sv pd : Nat → Int32} {pn sp od wb nb : Int32} (hN : o + 7 ≤ N) {S : ST} (hS : RepM a hs hl so sv pd pn S) : Ct g lau yX5_undo wsX5_undo rmX5_undo N ad [.ref (ad o)] (zM g ad f o a kp hs hl so sv pd pn sp od wb nb) (pI N ad (fun x u => x = (sUndo S).1 ∧ MIs g ad f o (sUndo S).2 u)) 0 0 := by
  refine Ct.of (maxL := 2) rfl (by decide +kernel) [some (.ref (ad o)), none] (Nat.le_of_ble_eq_true rfl) (by simp [lvo, lv_args, Value.category]) (fun E hnl _ hC hR => ?_)
  obtain ⟨hm, hh2, hs2, hp2⟩ := hS
  cases hlast : S.2.1.getLast? with
  | none =>
    have h0 : S.2.1.length = 0 := by rw [List.getLast?_eq_none_iff.mp hlast]; rfl
    refine V_aload_n hC dX5_undo_0 rfl rfl ?_
    refine V_zM_historyLong hC hN dX5_undo_1 inX5_X5_undo (by decide +kernel) ?_
    refine V_if_ne_f (tgt := 10) hC dX5_undo_4 (by decide) (by rw [hh2.1, h0]; rfl) ?_
    refine V_bipush hC (-5) dX5_undo_7 (by decide) ?_
    refine V_iret hC hR dX5_undo_9 ⟨rfl, rfl, _, rfl, ?_⟩
    rw [sUndo, hlast]
    exact ⟨rfl, MIs.mk ⟨hm, hh2, hs2, hp2⟩⟩
  | some m =>
    obtain ⟨q1, q2, q3⟩ := hh2.pop hlast
    have hl6 := hh2.2.1
    have loop : ∀ (n k : Nat), k + n = 160 → V E g N ad 0 0 (zM g ad f o (cpN (fun i => hs (160 * (S.2.1.length - 1) + i)) a k) kp hs (nI (S.2.1.length - 1)) so sv pd pn sp od wb nb) 22 [some (.ref (ad o)), some (.int (nI k))] [] := by
      intro n
      induction n with
      | zero =>
        intro k hk
        have hk : k = 160 := by omega
        subst hk
        refine V_iload_n hC dX5_undo_22 rfl rfl ?_
        refine V_sipush hC 160 dX5_undo_23 (by decide) ?_
        refine V_icmp_ge_t hC 56 dX5_undo_26 (by decide) (by decide) ?_
        refine V_aload_n hC dX5_undo_56 rfl rfl ?_
        refine V_zM_historyLong hC hN dX5_undo_57 inX5_X5_undo (by decide +kernel) ?_
        refine V_iret hC hR dX5_undo_60 ⟨rfl, rfl, _, rfl, ?_⟩
        rw [sUndo, hlast]
        exact ⟨rfl, MIs.mk ⟨q2.eq fun i hi => by simp [cpN, hi], q1, hs2, hp2⟩⟩
      | succ n ih =>
        intro k hk
        refine V_iload_n hC dX5_undo_22 rfl rfl ?_
        refine V_sipush hC 160 dX5_undo_23 (by decide) ?_
        refine V_icmp_ge_f (tgt := 56) hC dX5_undo_26 (by decide) (nI_ge (a := k) (b := 160) (by omega) (by decide)) ?_
        refine V_aload_n hC dX5_undo_29 rfl rfl ?_
        refine V_zM_all hC hN dX5_undo_30 inX5_X5_undo (by decide +kernel) ?_
        refine V_iload_n hC dX5_undo_33 rfl rfl ?_
        refine V_aload_n hC dX5_undo_34 rfl rfl ?_
        refine V_zM_history hC hN dX5_undo_35 inX5_X5_undo (by decide +kernel) ?_
        refine V_sipush hC 160 dX5_undo_38 (by decide) ?_
        refine V_aload_n hC dX5_undo_41 rfl rfl ?_
        refine V_zM_historyLong hC hN dX5_undo_42 inX5_X5_undo (by decide +kernel) ?_
        refine V_imul hC dX5_undo_45 ?_
        refine V_iload_n hC dX5_undo_46 rfl rfl ?_
        refine V_iadd hC dX5_undo_47 ?_
        refine V_zM_ld3 hC hN dX5_undo_48 (ix_of (j := 160 * (S.2.1.length - 1) + k) (i160 _ _) (by omega) (by decide)) ?_
        refine V_zM_st1 hC hN dX5_undo_49 (ix_nI (j := k) (by omega) (by decide)) ?_
        refine V_iinc1 hC (nI (k + 1)) dX5_undo_50 (nI_1 k) (by rw [hnl]; decide) rfl ?_
        refine V_goto hC 22 dX5_undo_53 (by decide) ?_
        refine V_f ?_ (ih (k + 1) (by omega))
        rw [← cpN_s]
    refine V_aload_n hC dX5_undo_0 rfl rfl ?_
    refine V_zM_historyLong hC hN dX5_undo_1 inX5_X5_undo (by decide +kernel) ?_
    refine V_if_ne_t hC 10 dX5_undo_4 (by decide) (by rw [hh2.1]; exact nI_ne0 q3 (by omega)) ?_
    refine V_aload_n hC dX5_undo_10 rfl rfl ?_
    refine V_dup hC dX5_undo_11 rfl ?_
    refine V_zM_historyLong hC hN dX5_undo_12 inX5_X5_undo (by decide +kernel) ?_
    refine V_iconst hC 1 dX5_undo_15 (by decide) ?_
    refine V_isub hC dX5_undo_16 ?_
    refine V_eqt (nI (S.2.1.length - 1)) (by rw [hh2.1, show (1 : Int32) = nI 1 from rfl, pk_sub (by omega)]) ?_
    refine V_zM_put_historyLong hC hN dX5_undo_17 inX5_X5_undo (by decide +kernel) ?_
    refine V_iconst hC 0 dX5_undo_20 (by decide) ?_
    refine V_istore_n1 hC dX5_undo_21 rfl (by rw [hnl]; decide) rfl ?_
    have := loop 160 0 rfl
    rw [cpN_0] at this
    exact this
theorem inX5_X5_save : ∀ w ∈ wsX50, w ∈ wsX5_save := by decide +kernel
abbrev rmX5_save : Room := { frames := 1, cells := 0, slots := 0, locals := 25 }
set_option maxHeartbeats 4000000 in
set_option maxRecDepth 100000 in
theorem c_X5_save (g : GE) (lau : Launch) {N : Nat} {ad : Nat → Nat} {f : Nat → va_E} {o : Nat} {a kp hs : Nat → Int32} {hl : Int32} {so sv pd : Nat → Int32} {pn sp od wb nb : Int32} (hN : o + 7 ≤ N) {S : ST} (hS : RepM a hs hl so sv pd pn S) (v : Int32) : Ct g lau yX5_save wsX5_save rmX5_save N ad [.ref (ad o), .int (v)] (zM g ad f o a kp hs hl so sv pd pn sp od wb nb) (pI N ad (fun x u => x = (sSave v S).1 ∧ MIs g ad f o (sSave v S).2 u)) 0 0 := by
  refine Ct.of (maxL := 3) rfl (by decide +kernel) [some (.ref (ad o)), some (.int (v)), none] (Nat.le_of_ble_eq_true rfl) (by simp [lvo, lv_args, Value.category]) (fun E hnl _ hC hR => ?_)
  obtain ⟨hm, hh2, hs2, hp2⟩ := hS
  have loop : ∀ (q : Nat), q ≤ 1 → v = nI q → ∀ (n k : Nat), k + n = 160 → V E g N ad 0 0 (zM g ad f o a kp hs hl (cpA so (160 * q) a k) sv pd pn sp od wb nb) 15 [some (.ref (ad o)), some (.int (nI q)), some (.int (nI k))] [] := by
    intro q hq hv n
    subst hv
    induction n with
    | zero =>
      intro k hk
      have hk : k = 160 := by omega
      subst hk
      refine V_iload_n hC dX5_save_15 rfl rfl ?_
      refine V_sipush hC 160 dX5_save_16 (by decide) ?_
      refine V_icmp_ge_t hC 46 dX5_save_19 (by decide) (by decide) ?_
      refine V_aload_n hC dX5_save_46 rfl rfl ?_
      refine V_zM_isSaved hC hN dX5_save_47 inX5_X5_save (by decide +kernel) ?_
      refine V_iload_n hC dX5_save_50 rfl rfl ?_
      refine V_iconst hC 1 dX5_save_51 (by decide) ?_
      refine V_zM_st5 hC hN dX5_save_52 (ix_nI (j := q) (by omega) (by decide)) ?_
      refine V_aload_n hC dX5_save_53 rfl rfl ?_
      refine V_zM_all hC hN dX5_save_54 inX5_X5_save (by decide +kernel) ?_
      refine V_bipush hC 8 dX5_save_57 (by decide) ?_
      refine V_zM_ld1 hC hN (k := 8) dX5_save_59 (ix_c (by decide)) ?_
      refine V_iret hC hR dX5_save_60 ⟨rfl, rfl, _, rfl, ?_⟩
      rw [sSave, if_pos ⟨nI_pos' (by omega), nI_le (b := 1) hq (by decide)⟩, nI_clamp (by omega)]
      exact ⟨hm.1 8 (by decide) (by decide) (by decide) (by decide), MIs.mk ⟨hm, hh2, hs2.put (by omega) hm, hp2⟩⟩
    | succ n ih =>
      intro k hk
      refine V_iload_n hC dX5_save_15 rfl rfl ?_
      refine V_sipush hC 160 dX5_save_16 (by decide) ?_
      refine V_icmp_ge_f (tgt := 46) hC dX5_save_19 (by decide) (nI_ge (a := k) (b := 160) (by omega) (by decide)) ?_
      refine V_aload_n hC dX5_save_22 rfl rfl ?_
      refine V_zM_slots hC hN dX5_save_23 inX5_X5_save (by decide +kernel) ?_
      refine V_sipush hC 160 dX5_save_26 (by decide) ?_
      refine V_iload_n hC dX5_save_29 rfl rfl ?_
      refine V_imul hC dX5_save_30 ?_
      refine V_iload_n hC dX5_save_31 rfl rfl ?_
      refine V_iadd hC dX5_save_32 ?_
      refine V_aload_n hC dX5_save_33 rfl rfl ?_
      refine V_zM_all hC hN dX5_save_34 inX5_X5_save (by decide +kernel) ?_
      refine V_iload_n hC dX5_save_37 rfl rfl ?_
      refine V_zM_ld1 hC hN dX5_save_38 (ix_nI (j := k) (by omega) (by decide)) ?_
      refine V_zM_st4 hC hN dX5_save_39 (ix_of (j := 160 * q + k) (i160 _ _) (by omega) (by decide)) ?_
      refine V_iinc2 hC (nI (k + 1)) dX5_save_40 (nI_1 k) (by rw [hnl]; decide) rfl ?_
      refine V_goto hC 15 dX5_save_43 (by decide) ?_
      refine V_f ?_ (ih (k + 1) (by omega))
      rw [← cpA_s]
  refine V_iload_n hC dX5_save_0 rfl rfl ?_
  refine V_i2l hC dX5_save_1 ?_
  refine V_lconst hC 0 dX5_save_2 (by decide) ?_
  refine V_lconst hC 1 dX5_save_3 (by decide) ?_
  refine V_csI (n := 3) hC (c_X5_in g (eL E) _ _ _) dX5_save_4 gX5_save_X5_in rfl rfl rfl ⟨rfl, rfl⟩ (by decide +kernel) (by decide +kernel) (Nat.le_of_ble_eq_true rfl) (by decide) (fun x4 u4 h4 => ?_)
  rcases h4 with ⟨rfl, hj, rfl⟩ | ⟨rfl, hj, rfl⟩
  · rw [inJ_c (a := 0) (b := 1) (by decide) (by decide)] at hj
    obtain ⟨q, -, hq, rfl⟩ := rng_n (a := 0) (b := 1) (by decide) (by decide) hj
    refine V_if_ne_t hC 13 dX5_save_7 (by decide) (by decide) ?_
    refine V_iconst hC 0 dX5_save_13 (by decide) ?_
    refine V_istore_n2 hC dX5_save_14 rfl (by rw [hnl]; decide) rfl ?_
    have := loop q hq rfl 160 0 rfl
    rw [cpA_0] at this
    exact this
  · rw [inJ_c (a := 0) (b := 1) (by decide) (by decide)] at hj
    refine V_if_ne_f (tgt := 13) hC dX5_save_7 (by decide) rfl ?_
    refine V_bipush hC (-2) dX5_save_10 (by decide) ?_
    refine V_iret hC hR dX5_save_12 ⟨rfl, rfl, _, rfl, ?_⟩
    rw [sSave, if_neg hj]
    exact ⟨rfl, MIs.mk ⟨hm, hh2, hs2, hp2⟩⟩
theorem inX5_X5_restore : ∀ w ∈ wsX50, w ∈ wsX5_restore := by decide +kernel
abbrev rmX5_restore : Room := { frames := 1, cells := 0, slots := 0, locals := 25 }
set_option maxHeartbeats 4000000 in
set_option maxRecDepth 100000 in
theorem c_X5_restore (g : GE) (lau : Launch) {N : Nat} {ad : Nat → Nat} {f : Nat → va_E} {o : Nat} {a kp hs : Nat → Int32} {hl : Int32} {so sv pd : Nat → Int32} {pn sp od wb nb : Int32} (hN : o + 7 ≤ N) {S : ST} (hS : RepM a hs hl so sv pd pn S) (v : Int32) : Ct g lau yX5_restore wsX5_restore rmX5_restore N ad [.ref (ad o), .int (v)] (zM g ad f o a kp hs hl so sv pd pn sp od wb nb) (pI N ad (fun x u => x = (sRestore v S).1 ∧ MIs g ad f o (sRestore v S).2 u)) 0 0 := by
  refine Ct.of (maxL := 3) rfl (by decide +kernel) [some (.ref (ad o)), some (.int (v)), none] (Nat.le_of_ble_eq_true rfl) (by simp [lvo, lv_args, Value.category]) (fun E hnl _ hC hR => ?_)
  obtain ⟨hm, hh2, hs2, hp2⟩ := hS
  have loop : ∀ (q : Nat) (m : MT), q ≤ 1 → v = nI q → S.2.2.1 q = some m → RepR (fun i => so (160 * q + i)) m → ∀ (n k : Nat), k + n = 160 → V E g N ad 0 0 (zM g ad f o (cpN (fun i => so (160 * q + i)) a k) (cpN a kp 160) hs hl so sv pd pn sp od wb nb) 31 [some (.ref (ad o)), some (.int (nI q)), some (.int (nI k))] [] := by
    intro q m hq hv hsm hqm n
    subst hv
    induction n with
    | zero =>
      intro k hk
      have hk : k = 160 := by omega
      subst hk
      refine V_iload_n hC dX5_restore_31 rfl rfl ?_
      refine V_sipush hC 160 dX5_restore_32 (by decide) ?_
      refine V_icmp_ge_t hC 62 dX5_restore_35 (by decide) (by decide) ?_
      refine V_aload_n hC dX5_restore_62 rfl rfl ?_
      refine V_aload_n hC dX5_restore_63 rfl rfl ?_
      refine V_zM_all hC hN dX5_restore_64 inX5_X5_restore (by decide +kernel) ?_
      refine V_bipush hC 8 dX5_restore_67 (by decide) ?_
      refine V_zM_ld1 hC hN (k := 8) dX5_restore_69 (ix_c (by decide)) ?_
      refine V_cvI (n := 1) hC (c_X5_changed g (eL E) hN hh2 (hm.eq (b := cpN a kp 160) fun i hi => by simp [cpN, hi]) _) dX5_restore_70 gX5_restore_X5_changed rfl rfl rfl ⟨rfl, rfl⟩ (by decide +kernel) (by decide +kernel) (by omega) zM_0 rfl (Nat.le_of_ble_eq_true rfl) (by decide) (fun x70 u70 h70 => ?_)
      obtain ⟨rfl, hs3, hl3, rfl, hh3⟩ := h70
      refine V_iret hC hR dX5_restore_73 ⟨rfl, rfl, _, rfl, ?_⟩
      rw [sRestore, if_pos ⟨nI_pos' (by omega), nI_le (b := 1) hq (by decide)⟩, nI_clamp (by omega), hsm]
      have e8 : cpN (fun i => so (160 * q + i)) a 160 8 = m.1 8 := hqm.1 8 (by decide) (by decide) (by decide) (by decide)
      rw [e8] at hh3
      exact ⟨e8, MIs.mk ⟨hqm.eq fun i hi => by simp [cpN, hi], hh3, hs2, hp2⟩⟩
    | succ n ih =>
      intro k hk
      refine V_iload_n hC dX5_restore_31 rfl rfl ?_
      refine V_sipush hC 160 dX5_restore_32 (by decide) ?_
      refine V_icmp_ge_f (tgt := 62) hC dX5_restore_35 (by decide) (nI_ge (a := k) (b := 160) (by omega) (by decide)) ?_
      refine V_aload_n hC dX5_restore_38 rfl rfl ?_
      refine V_zM_all hC hN dX5_restore_39 inX5_X5_restore (by decide +kernel) ?_
      refine V_iload_n hC dX5_restore_42 rfl rfl ?_
      refine V_aload_n hC dX5_restore_43 rfl rfl ?_
      refine V_zM_slots hC hN dX5_restore_44 inX5_X5_restore (by decide +kernel) ?_
      refine V_sipush hC 160 dX5_restore_47 (by decide) ?_
      refine V_iload_n hC dX5_restore_50 rfl rfl ?_
      refine V_imul hC dX5_restore_51 ?_
      refine V_iload_n hC dX5_restore_52 rfl rfl ?_
      refine V_iadd hC dX5_restore_53 ?_
      refine V_zM_ld4 hC hN dX5_restore_54 (ix_of (j := 160 * q + k) (i160 _ _) (by omega) (by decide)) ?_
      refine V_zM_st1 hC hN dX5_restore_55 (ix_nI (j := k) (by omega) (by decide)) ?_
      refine V_iinc2 hC (nI (k + 1)) dX5_restore_56 (nI_1 k) (by rw [hnl]; decide) rfl ?_
      refine V_goto hC 31 dX5_restore_59 (by decide) ?_
      refine V_f ?_ (ih (k + 1) (by omega))
      rw [← cpN_s (fun i => so (160 * q + i)) a k]
  refine V_iload_n hC dX5_restore_0 rfl rfl ?_
  refine V_i2l hC dX5_restore_1 ?_
  refine V_lconst hC 0 dX5_restore_2 (by decide) ?_
  refine V_lconst hC 1 dX5_restore_3 (by decide) ?_
  refine V_csI (n := 3) hC (c_X5_in g (eL E) _ _ _) dX5_restore_4 gX5_restore_X5_in rfl rfl rfl ⟨rfl, rfl⟩ (by decide +kernel) (by decide +kernel) (Nat.le_of_ble_eq_true rfl) (by decide) (fun x4 u4 h4 => ?_)
  rcases h4 with ⟨rfl, hj, rfl⟩ | ⟨rfl, hj, rfl⟩
  · rw [inJ_c (a := 0) (b := 1) (by decide) (by decide)] at hj
    obtain ⟨q, -, hq, rfl⟩ := rng_n (a := 0) (b := 1) (by decide) (by decide) hj
    refine V_if_ne_t hC 13 dX5_restore_7 (by decide) (by decide) ?_
    refine V_aload_n hC dX5_restore_13 rfl rfl ?_
    refine V_zM_isSaved hC hN dX5_restore_14 inX5_X5_restore (by decide +kernel) ?_
    refine V_iload_n hC dX5_restore_17 rfl rfl ?_
    refine V_zM_ld5 hC hN dX5_restore_18 (ix_nI (j := q) (by omega) (by decide)) ?_
    refine V_if_ne hC 25 dX5_restore_19 (by decide) (fun c19 => ?_) (fun c19 => ?_)
    · have ⟨m, h1, hm2⟩ : ∃ m, S.2.2.1 q = some m ∧ RepR (fun i => so (160 * q + i)) m := by rcases hs2 q (by omega) with ⟨h1, h2⟩ | ⟨m, h1, h2, h3⟩; exact absurd h2 c19; exact ⟨m, h1, h3⟩
      refine V_aload_n hC dX5_restore_25 rfl rfl ?_
      refine V_cvV (n := 0) hC (c_X5_keep g (eL E) hN) dX5_restore_26 gX5_restore_X5_keep rfl rfl rfl ⟨rfl, rfl⟩ (by decide +kernel) (by decide +kernel) (by omega) zM_0 rfl (Nat.le_of_ble_eq_true rfl) (by decide) (fun u26 h26 => ?_)
      obtain rfl := h26
      refine V_iconst hC 0 dX5_restore_29 (by decide) ?_
      refine V_istore_n2 hC dX5_restore_30 rfl (by rw [hnl]; decide) rfl ?_
      have := loop q m hq rfl h1 hm2 160 0 rfl
      rw [cpN_0] at this
      exact this
    · have h1 : S.2.2.1 q = none := by rcases hs2 q (by omega) with ⟨h1, h2⟩ | ⟨m, h1, h2, h3⟩; exact h1; rw [h2] at c19; exact absurd c19 (by decide)
      refine V_bipush hC (-5) dX5_restore_22 (by decide) ?_
      refine V_iret hC hR dX5_restore_24 ⟨rfl, rfl, _, rfl, ?_⟩
      rw [sRestore, if_pos ⟨nI_pos' (by omega), nI_le (b := 1) hq (by decide)⟩, nI_clamp (by omega), h1]
      exact ⟨rfl, MIs.mk ⟨hm, hh2, hs2, hp2⟩⟩
  · rw [inJ_c (a := 0) (b := 1) (by decide) (by decide)] at hj
    refine V_if_ne_f (tgt := 13) hC dX5_restore_7 (by decide) rfl ?_
    refine V_bipush hC (-2) dX5_restore_10 (by decide) ?_
    refine V_iret hC hR dX5_restore_12 ⟨rfl, rfl, _, rfl, ?_⟩
    rw [sRestore, if_neg hj]
    exact ⟨rfl, MIs.mk ⟨hm, hh2, hs2, hp2⟩⟩
