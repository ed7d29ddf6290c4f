theorem inJ_c {v a b : Int32} {A B : Int64} (hA : a.toInt64 = A) (hB : b.toInt64 = B) : inJ v.toInt64 A B ↔ a ≤ v ∧ v ≤ b := by
  subst hA
  subst hB
  exact inJ_i
theorem l_pred {n : Nat} (h : n < 2 ^ 31) : ((nI n).toInt64 - 1).toInt = (n : Int) - 1 := by
  rw [nI_l h]
  cases n with
  | zero => decide
  | succ n =>
    rw [show (1 : Int64) = lN 1 from rfl, lN_sub (by omega), lN_toInt (by omega)]
    omega
theorem inJ_n {v : Int32} {n : Nat} (h : n < 2 ^ 31) : inJ v.toInt64 0 ((nI n).toInt64 - 1) ↔ ∃ k, k < n ∧ v = nI k := by
  unfold inJ
  rw [l_pred h, Int32.toInt_toInt64, show (0 : Int64).toInt = 0 from rfl]
  constructor
  · intro ⟨h1, h2⟩
    obtain ⟨k, hk, e⟩ := nI_of (x := v) (by rw [Int32.lt_iff_toInt_lt]; simpa using h1)
    subst e
    rw [nI_toInt hk] at h2
    exact ⟨k, by omega, rfl⟩
  · rintro ⟨k, hk, e⟩
    subst e
    rw [nI_toInt (by omega)]
    omega
theorem cut_ex {α : Type} {l : List α} {k : Nat} (h : k < l.length) : ∃ (d r : List α) (x : α), l = d ++ x :: r ∧ d.length = k := by
  refine ⟨l.take k, l.drop (k + 1), l[k], ?_, by simp; omega⟩
  rw [List.getElem_cons_drop, List.take_append_drop]
theorem okS_j {k v : Int32} (h : okS k v = true) : ∃ j, j < 8 ∧ k = nI j := by
  simp only [okS, Bool.and_eq_true, decide_eq_true_eq] at h
  obtain ⟨⟨⟨h1, h2⟩, -⟩, -⟩ := h
  obtain ⟨j, hj, e⟩ := nI_of (x := k) (Int32.not_lt.mpr h1)
  subst e
  rw [show (8 : Int32) = nI 8 from rfl, nI_ltI hj (by decide)] at h2
  exact ⟨j, h2, rfl⟩
theorem okS_no {k v : Int32} (h : k < 0 ∨ 8 ≤ k) : okS k v = false := by
  cases hk : okS k v with
  | false => rfl
  | true =>
    simp only [okS, Bool.and_eq_true, decide_eq_true_eq] at hk
    rcases h with h | h
    · exact absurd hk.1.1.1 (Int32.not_le.mpr h)
    · exact absurd hk.1.1.2 (Int32.not_lt.mpr h)
theorem k8 (k : Int32) : (k < 0 ∨ 8 ≤ k) ∨ k = 0 ∨ k = 1 ∨ k = 2 ∨ k = 3 ∨ k = 4 ∨ k = 5 ∨ k = 6 ∨ k = 7 := by
  by_cases h : k < 0
  · exact Or.inl (Or.inl h)
  · obtain ⟨j, hj, e⟩ := nI_of h
    subst e
    by_cases h2 : j < 8
    · rcases (show j = 0 ∨ j = 1 ∨ j = 2 ∨ j = 3 ∨ j = 4 ∨ j = 5 ∨ j = 6 ∨ j = 7 by omega) with e | e | e | e | e | e | e | e <;> subst e <;> decide
    · exact Or.inl (Or.inr (nI_le (a := 8) (by omega) hj))
def rHist (hs : Nat → Int32) (hl : Int32) (hi : List MT) : Prop := hl = nI hi.length ∧ hi.length ≤ 6 ∧ ∀ j m, hi[j]? = some m → RepR (fun i => hs (160 * j + i)) m
def rSlot (so sv : Nat → Int32) (sl : Nat → Option MT) : Prop := ∀ k, k < 2 → (sl k = none ∧ sv k = 0) ∨ ∃ m, sl k = some m ∧ sv k = 1 ∧ RepR (fun i => so (160 * k + i)) m
def rPad (pd : Nat → Int32) (pn : Int32) (p : List Int32) : Prop := pn = nI p.length ∧ p.length ≤ 60 ∧ ∀ j x, p[j]? = some x → pd j = x
theorem inX5_X5_isBox : ∀ w ∈ wsX50, w ∈ wsX5_isBox := by decide +kernel
abbrev rmX5_isBox : Room := { frames := 1, cells := 0, slots := 0, locals := 25 }
set_option maxHeartbeats 4000000 in
set_option maxRecDepth 100000 in
theorem c_X5_isBox (g : GE) (lau : Launch) {N : Nat} {ad : Nat → Nat} {f : Nat → va_E} {o : Nat} {a kp hs : Nat → Int32} {hl : Int32} {so sv pd : Nat → Int32} {pn sp od wb nb : Int32} (hN : o + 7 ≤ N) {bs : List (Nat → Int32)} (hb : rB a bs) (b : Int32) : Ct g lau yX5_isBox wsX5_isBox rmX5_isBox N ad [.ref (ad o), .int (b)] (zM g ad f o a kp hs hl so sv pd pn sp od wb nb) (pI N ad (fun x u => (x = 1 ∧ (∃ k, k < bs.length ∧ b = nI k) ∧ u = (zM g ad f o a kp hs hl so sv pd pn sp od wb nb)) ∨ (x = 0 ∧ ¬ ((∃ k, k < bs.length ∧ b = nI k)) ∧ u = (zM g ad f o a kp hs hl so sv pd pn sp od wb nb)))) 0 0 := by
  refine Ct.of (maxL := 2) rfl (by decide +kernel) [some (.ref (ad o)), some (.int (b))] (Nat.le_of_ble_eq_true rfl) (by simp [lvo, lv_args, Value.category]) (fun E hnl _ hC hR => ?_)
  have hl : bs.length < 2 ^ 31 := Nat.lt_of_le_of_lt hb.2.1 (by decide)
  refine V_iload_n hC dX5_isBox_0 rfl rfl ?_
  refine V_i2l hC dX5_isBox_1 ?_
  refine V_lconst hC 0 dX5_isBox_2 (by decide) ?_
  refine V_aload_n hC dX5_isBox_3 rfl rfl ?_
  refine V_zM_all hC hN dX5_isBox_4 inX5_X5_isBox (by decide +kernel) ?_
  refine V_bipush hC 9 dX5_isBox_7 (by decide) ?_
  refine V_zM_ld1 hC hN (k := 9) dX5_isBox_9 (ix_c (by decide)) ?_
  refine V_i2l hC dX5_isBox_10 ?_
  refine V_lconst hC 1 dX5_isBox_11 (by decide) ?_
  refine V_lsub hC dX5_isBox_12 ?_
  refine V_csI (n := 3) hC (c_X5_in g (eL E) _ _ _) dX5_isBox_13 gX5_isBox_X5_in rfl rfl rfl ⟨rfl, rfl⟩ (by decide +kernel) (by decide +kernel) (Nat.le_of_ble_eq_true rfl) (by decide) (fun x13 u13 h13 => ?_)
  rcases h13 with ⟨rfl, hj, rfl⟩ | ⟨rfl, hj, rfl⟩
  · rw [hb.1, inJ_n hl] at hj
    refine V_zret hC hR rfl dX5_isBox_16 ⟨rfl, rfl, _, rfl, ?_⟩
    first | exact Or.inl ⟨rfl, hj, rfl⟩ | exact Or.inr ⟨rfl, hj, rfl⟩
  · rw [hb.1, inJ_n hl] at hj
    refine V_zret hC hR rfl dX5_isBox_16 ⟨rfl, rfl, _, rfl, ?_⟩
    first | exact Or.inl ⟨rfl, hj, rfl⟩ | exact Or.inr ⟨rfl, hj, rfl⟩
abbrev rmX5_isLength : Room := { frames := 1, cells := 0, slots := 0, locals := 25 }
set_option maxHeartbeats 4000000 in
set_option maxRecDepth 100000 in
theorem c_X5_isLength (g : GE) (lau : Launch) {N : Nat} {ad : Nat → Nat} {f : Nat → va_E} (v : Int32) : Ct g lau yX5_isLength wsX5_isLength rmX5_isLength N ad [.int v] f (pI N ad (fun x u => (x = 1 ∧ okLen v = true ∧ u = f) ∨ (x = 0 ∧ okLen v = false ∧ u = f))) 0 0 := by
  refine Ct.of (maxL := 1) rfl (by decide +kernel) [some (.int v)] (Nat.le_of_ble_eq_true rfl) (by simp [lvo, lv_args, Value.category]) (fun E hnl _ hC hR => ?_)
  refine V_iload_n hC dX5_isLength_0 rfl rfl ?_
  refine V_i2l hC dX5_isLength_1 ?_
  refine V_ldc2 (v := 4) hC dX5_isLength_2 (by decide +kernel) ?_
  refine V_ldc2 (v := 30) hC dX5_isLength_5 (by decide +kernel) ?_
  refine V_csI (n := 3) hC (c_X5_in g (eL E) _ _ _) dX5_isLength_8 gX5_isLength_X5_in rfl rfl rfl ⟨rfl, rfl⟩ (by decide +kernel) (by decide +kernel) (Nat.le_of_ble_eq_true rfl) (by decide) (fun x8 u8 h8 => ?_)
  rcases h8 with ⟨rfl, hj, rfl⟩ | ⟨rfl, hj, rfl⟩
  · rw [inJ_c (a := 4) (b := 30) (by decide) (by decide)] at hj
    refine V_zret hC hR rfl dX5_isLength_11 ⟨rfl, rfl, _, rfl, ?_⟩
    first | exact Or.inl ⟨rfl, by simp [okLen, hj], rfl⟩ | exact Or.inr ⟨rfl, by simp only [okLen, ← Bool.decide_and, hj, decide_false], rfl⟩
  · rw [inJ_c (a := 4) (b := 30) (by decide) (by decide)] at hj
    refine V_zret hC hR rfl dX5_isLength_11 ⟨rfl, rfl, _, rfl, ?_⟩
    first | exact Or.inl ⟨rfl, by simp [okLen, hj], rfl⟩ | exact Or.inr ⟨rfl, by simp only [okLen, ← Bool.decide_and, hj, decide_false], rfl⟩
abbrev rmX5_areTicks : Room := { frames := 1, cells := 0, slots := 0, locals := 25 }
set_option maxHeartbeats 4000000 in
set_option maxRecDepth 100000 in
theorem c_X5_areTicks (g : GE) (lau : Launch) {N : Nat} {ad : Nat → Nat} {f : Nat → va_E} (v : Int32) : Ct g lau yX5_areTicks wsX5_areTicks rmX5_areTicks N ad [.int v] f (pI N ad (fun x u => (x = 1 ∧ okT v = true ∧ u = f) ∨ (x = 0 ∧ okT v = false ∧ u = f))) 0 0 := by
  refine Ct.of (maxL := 1) rfl (by decide +kernel) [some (.int v)] (Nat.le_of_ble_eq_true rfl) (by simp [lvo, lv_args, Value.category]) (fun E hnl _ hC hR => ?_)
  refine V_iload_n hC dX5_areTicks_0 rfl rfl ?_
  refine V_i2l hC dX5_areTicks_1 ?_
  refine V_lconst hC 1 dX5_areTicks_2 (by decide) ?_
  refine V_ldc2 (v := 99) hC dX5_areTicks_3 (by decide +kernel) ?_
  refine V_csI (n := 3) hC (c_X5_in g (eL E) _ _ _) dX5_areTicks_6 gX5_areTicks_X5_in rfl rfl rfl ⟨rfl, rfl⟩ (by decide +kernel) (by decide +kernel) (Nat.le_of_ble_eq_true rfl) (by decide) (fun x6 u6 h6 => ?_)
  rcases h6 with ⟨rfl, hj, rfl⟩ | ⟨rfl, hj, rfl⟩
  · rw [inJ_c (a := 1) (b := 99) (by decide) (by decide)] at hj
    refine V_zret hC hR rfl dX5_areTicks_9 ⟨rfl, rfl, _, rfl, ?_⟩
    first | exact Or.inl ⟨rfl, by simp [okT, hj], rfl⟩ | exact Or.inr ⟨rfl, by simp only [okT, ← Bool.decide_and, hj, decide_false], rfl⟩
  · rw [inJ_c (a := 1) (b := 99) (by decide) (by decide)] at hj
    refine V_zret hC hR rfl dX5_areTicks_9 ⟨rfl, rfl, _, rfl, ?_⟩
    first | exact Or.inl ⟨rfl, by simp [okT, hj], rfl⟩ | exact Or.inr ⟨rfl, by simp only [okT, ← Bool.decide_and, hj, decide_false], rfl⟩
abbrev rmX5_isSetting : Room := { frames := 1, cells := 0, slots := 0, locals := 25 }
set_option maxHeartbeats 4000000 in
set_option maxRecDepth 100000 in
theorem c_X5_isSetting (g : GE) (lau : Launch) {N : Nat} {ad : Nat → Nat} {f : Nat → va_E} (k v : Int32) : Ct g lau yX5_isSetting wsX5_isSetting rmX5_isSetting N ad [.int k, .int v] f (pI N ad (fun x u => (x = 1 ∧ okS k v = true ∧ u = f) ∨ (x = 0 ∧ okS k v = false ∧ u = f))) 0 0 := by
  refine Ct.of (maxL := 2) rfl (by decide +kernel) [some (.int k), some (.int v)] (Nat.le_of_ble_eq_true rfl) (by simp [lvo, lv_args, Value.category]) (fun E hnl _ hC hR => ?_)
  rcases k8 k with hk | rfl | rfl | rfl | rfl | rfl | rfl | rfl | rfl
  · have h1 : k.toInt < 0 ∨ 7 < k.toInt := by
      rcases hk with h | h
      · exact Or.inl (Int32.lt_iff_toInt_lt.mp h)
      · exact Or.inr (by have := Int32.le_iff_toInt_le.mp h; have e : (8 : Int32).toInt = 8 := rfl; omega)
    have h5 : ¬ k = 5 := by rintro rfl; revert hk; decide
    refine V_iload_n hC dX5_isSetting_0 rfl rfl ?_
    refine V_tableOut hC 88 dX5_isSetting_1 h1 (by decide) ?_
    refine V_iload_n hC dX5_isSetting_88 rfl rfl ?_
    refine V_iconst hC 5 dX5_isSetting_89 (by decide) ?_
    refine V_icmp_ne_t hC 109 dX5_isSetting_90 (by decide) h5 ?_
    refine V_iconst hC 0 dX5_isSetting_109 (by decide) ?_
    refine V_zret hC hR rfl dX5_isSetting_110 ⟨rfl, rfl, _, rfl, ?_⟩
    exact Or.inr ⟨rfl, okS_no hk, rfl⟩
  · refine V_iload_n hC dX5_isSetting_0 rfl rfl ?_
    refine V_tableIn hC 48 dX5_isSetting_1 (by decide) (by decide) rfl (by decide) ?_
    refine V_iload_n hC dX5_isSetting_48 rfl rfl ?_
    refine V_i2l hC dX5_isSetting_49 ?_
    refine V_lconst hC 0 dX5_isSetting_50 (by decide) ?_
    refine V_ldc2 (v := 9) hC dX5_isSetting_51 (by decide +kernel) ?_
    refine V_csI (n := 3) hC (c_X5_in g (eL E) _ _ _) dX5_isSetting_54 gX5_isSetting_X5_in rfl rfl rfl ⟨rfl, rfl⟩ (by decide +kernel) (by decide +kernel) (Nat.le_of_ble_eq_true rfl) (by decide) (fun x54 u54 h54 => ?_)
    rcases h54 with ⟨rfl, hj, rfl⟩ | ⟨rfl, hj, rfl⟩
    · rw [inJ_c (a := 0) (b := 9) (by decide) (by decide)] at hj
      refine V_zret hC hR rfl dX5_isSetting_57 ⟨rfl, rfl, _, rfl, ?_⟩
      first | exact Or.inl ⟨rfl, by simpa [okS, lowS, highS, lstA] using hj, rfl⟩ | exact Or.inr ⟨rfl, by rw [← Bool.not_eq_true]; intro q; exact hj (by simpa [okS, lowS, highS, lstA] using q), rfl⟩
    · rw [inJ_c (a := 0) (b := 9) (by decide) (by decide)] at hj
      refine V_zret hC hR rfl dX5_isSetting_57 ⟨rfl, rfl, _, rfl, ?_⟩
      first | exact Or.inl ⟨rfl, by simpa [okS, lowS, highS, lstA] using hj, rfl⟩ | exact Or.inr ⟨rfl, by rw [← Bool.not_eq_true]; intro q; exact hj (by simpa [okS, lowS, highS, lstA] using q), rfl⟩
  · refine V_iload_n hC dX5_isSetting_0 rfl rfl ?_
    refine V_tableIn hC 58 dX5_isSetting_1 (by decide) (by decide) rfl (by decide) ?_
    refine V_iload_n hC dX5_isSetting_58 rfl rfl ?_
    refine V_i2l hC dX5_isSetting_59 ?_
    refine V_lconst hC 0 dX5_isSetting_60 (by decide) ?_
    refine V_ldc2 (v := 5) hC dX5_isSetting_61 (by decide +kernel) ?_
    refine V_csI (n := 3) hC (c_X5_in g (eL E) _ _ _) dX5_isSetting_64 gX5_isSetting_X5_in rfl rfl rfl ⟨rfl, rfl⟩ (by decide +kernel) (by decide +kernel) (Nat.le_of_ble_eq_true rfl) (by decide) (fun x64 u64 h64 => ?_)
    rcases h64 with ⟨rfl, hj, rfl⟩ | ⟨rfl, hj, rfl⟩
    · rw [inJ_c (a := 0) (b := 5) (by decide) (by decide)] at hj
      refine V_zret hC hR rfl dX5_isSetting_67 ⟨rfl, rfl, _, rfl, ?_⟩
      first | exact Or.inl ⟨rfl, by simpa [okS, lowS, highS, lstA] using hj, rfl⟩ | exact Or.inr ⟨rfl, by rw [← Bool.not_eq_true]; intro q; exact hj (by simpa [okS, lowS, highS, lstA] using q), rfl⟩
    · rw [inJ_c (a := 0) (b := 5) (by decide) (by decide)] at hj
      refine V_zret hC hR rfl dX5_isSetting_67 ⟨rfl, rfl, _, rfl, ?_⟩
      first | exact Or.inl ⟨rfl, by simpa [okS, lowS, highS, lstA] using hj, rfl⟩ | exact Or.inr ⟨rfl, by rw [← Bool.not_eq_true]; intro q; exact hj (by simpa [okS, lowS, highS, lstA] using q), rfl⟩
  · refine V_iload_n hC dX5_isSetting_0 rfl rfl ?_
    refine V_tableIn hC 58 dX5_isSetting_1 (by decide) (by decide) rfl (by decide) ?_
    refine V_iload_n hC dX5_isSetting_58 rfl rfl ?_
    refine V_i2l hC dX5_isSetting_59 ?_
    refine V_lconst hC 0 dX5_isSetting_60 (by decide) ?_
    refine V_ldc2 (v := 5) hC dX5_isSetting_61 (by decide +kernel) ?_
    refine V_csI (n := 3) hC (c_X5_in g (eL E) _ _ _) dX5_isSetting_64 gX5_isSetting_X5_in rfl rfl rfl ⟨rfl, rfl⟩ (by decide +kernel) (by decide +kernel) (Nat.le_of_ble_eq_true rfl) (by decide) (fun x64 u64 h64 => ?_)
    rcases h64 with ⟨rfl, hj, rfl⟩ | ⟨rfl, hj, rfl⟩
    · rw [inJ_c (a := 0) (b := 5) (by decide) (by decide)] at hj
      refine V_zret hC hR rfl dX5_isSetting_67 ⟨rfl, rfl, _, rfl, ?_⟩
      first | exact Or.inl ⟨rfl, by simpa [okS, lowS, highS, lstA] using hj, rfl⟩ | exact Or.inr ⟨rfl, by rw [← Bool.not_eq_true]; intro q; exact hj (by simpa [okS, lowS, highS, lstA] using q), rfl⟩
    · rw [inJ_c (a := 0) (b := 5) (by decide) (by decide)] at hj
      refine V_zret hC hR rfl dX5_isSetting_67 ⟨rfl, rfl, _, rfl, ?_⟩
      first | exact Or.inl ⟨rfl, by simpa [okS, lowS, highS, lstA] using hj, rfl⟩ | exact Or.inr ⟨rfl, by rw [← Bool.not_eq_true]; intro q; exact hj (by simpa [okS, lowS, highS, lstA] using q), rfl⟩
  · refine V_iload_n hC dX5_isSetting_0 rfl rfl ?_
    refine V_tableIn hC 68 dX5_isSetting_1 (by decide) (by decide) rfl (by decide) ?_
    refine V_iload_n hC dX5_isSetting_68 rfl rfl ?_
    refine V_i2l hC dX5_isSetting_69 ?_
    refine V_lconst hC 0 dX5_isSetting_70 (by decide) ?_
    refine V_ldc2 (v := 20) hC dX5_isSetting_71 (by decide +kernel) ?_
    refine V_csI (n := 3) hC (c_X5_in g (eL E) _ _ _) dX5_isSetting_74 gX5_isSetting_X5_in rfl rfl rfl ⟨rfl, rfl⟩ (by decide +kernel) (by decide +kernel) (Nat.le_of_ble_eq_true rfl) (by decide) (fun x74 u74 h74 => ?_)
    rcases h74 with ⟨rfl, hj, rfl⟩ | ⟨rfl, hj, rfl⟩
    · rw [inJ_c (a := 0) (b := 20) (by decide) (by decide)] at hj
      refine V_zret hC hR rfl dX5_isSetting_77 ⟨rfl, rfl, _, rfl, ?_⟩
      first | exact Or.inl ⟨rfl, by simpa [okS, lowS, highS, lstA] using hj, rfl⟩ | exact Or.inr ⟨rfl, by rw [← Bool.not_eq_true]; intro q; exact hj (by simpa [okS, lowS, highS, lstA] using q), rfl⟩
    · rw [inJ_c (a := 0) (b := 20) (by decide) (by decide)] at hj
      refine V_zret hC hR rfl dX5_isSetting_77 ⟨rfl, rfl, _, rfl, ?_⟩
      first | exact Or.inl ⟨rfl, by simpa [okS, lowS, highS, lstA] using hj, rfl⟩ | exact Or.inr ⟨rfl, by rw [← Bool.not_eq_true]; intro q; exact hj (by simpa [okS, lowS, highS, lstA] using q), rfl⟩
  · refine V_iload_n hC dX5_isSetting_0 rfl rfl ?_
    refine V_tableIn hC 78 dX5_isSetting_1 (by decide) (by decide) rfl (by decide) ?_
    refine V_iload_n hC dX5_isSetting_78 rfl rfl ?_
    refine V_i2l hC dX5_isSetting_79 ?_
    refine V_lconst hC 1 dX5_isSetting_80 (by decide) ?_
    refine V_ldc2 (v := 20) hC dX5_isSetting_81 (by decide +kernel) ?_
    refine V_csI (n := 3) hC (c_X5_in g (eL E) _ _ _) dX5_isSetting_84 gX5_isSetting_X5_in rfl rfl rfl ⟨rfl, rfl⟩ (by decide +kernel) (by decide +kernel) (Nat.le_of_ble_eq_true rfl) (by decide) (fun x84 u84 h84 => ?_)
    rcases h84 with ⟨rfl, hj, rfl⟩ | ⟨rfl, hj, rfl⟩
    · rw [inJ_c (a := 1) (b := 20) (by decide) (by decide)] at hj
      refine V_zret hC hR rfl dX5_isSetting_87 ⟨rfl, rfl, _, rfl, ?_⟩
      first | exact Or.inl ⟨rfl, by simpa [okS, lowS, highS, lstA] using hj, rfl⟩ | exact Or.inr ⟨rfl, by rw [← Bool.not_eq_true]; intro q; exact hj (by simpa [okS, lowS, highS, lstA] using q), rfl⟩
    · rw [inJ_c (a := 1) (b := 20) (by decide) (by decide)] at hj
      refine V_zret hC hR rfl dX5_isSetting_87 ⟨rfl, rfl, _, rfl, ?_⟩
      first | exact Or.inl ⟨rfl, by simpa [okS, lowS, highS, lstA] using hj, rfl⟩ | exact Or.inr ⟨rfl, by rw [← Bool.not_eq_true]; intro q; exact hj (by simpa [okS, lowS, highS, lstA] using q), rfl⟩
  · refine V_iload_n hC dX5_isSetting_0 rfl rfl ?_
    refine V_tableIn hC 88 dX5_isSetting_1 (by decide) (by decide) rfl (by decide) ?_
    refine V_iload_n hC dX5_isSetting_88 rfl rfl ?_
    refine V_iconst hC 5 dX5_isSetting_89 (by decide) ?_
    refine V_icmp_ne_f (tgt := 109) hC dX5_isSetting_90 (by decide) rfl ?_
    refine V_iload_n hC dX5_isSetting_93 rfl rfl ?_
    refine V_i2l hC dX5_isSetting_94 ?_
    refine V_lconst hC 1 dX5_isSetting_95 (by decide) ?_
    refine V_ldc2 (v := 60) hC dX5_isSetting_96 (by decide +kernel) ?_
    refine V_csI (n := 3) hC (c_X5_in g (eL E) _ _ _) dX5_isSetting_99 gX5_isSetting_X5_in rfl rfl rfl ⟨rfl, rfl⟩ (by decide +kernel) (by decide +kernel) (Nat.le_of_ble_eq_true rfl) (by decide) (fun x99 u99 h99 => ?_)
    rcases h99 with ⟨rfl, hj, rfl⟩ | ⟨rfl, hj, rfl⟩
    · rw [inJ_c (a := 1) (b := 60) (by decide) (by decide)] at hj
      refine V_if_eq_f (tgt := 109) hC dX5_isSetting_102 (by decide) (by decide) ?_
      refine V_iconst hC 1 dX5_isSetting_105 (by decide) ?_
      refine V_goto hC 110 dX5_isSetting_106 (by decide) ?_
      refine V_zret hC hR rfl dX5_isSetting_110 ⟨rfl, rfl, _, rfl, ?_⟩
      first | exact Or.inl ⟨rfl, by simpa [okS, lowS, highS, lstA] using hj, rfl⟩ | exact Or.inr ⟨rfl, by rw [← Bool.not_eq_true]; intro q; exact hj (by simpa [okS, lowS, highS, lstA] using q), rfl⟩
    · rw [inJ_c (a := 1) (b := 60) (by decide) (by decide)] at hj
      refine V_if_eq_t hC 109 dX5_isSetting_102 (by decide) rfl ?_
      refine V_iconst hC 0 dX5_isSetting_109 (by decide) ?_
      refine V_zret hC hR rfl dX5_isSetting_110 ⟨rfl, rfl, _, rfl, ?_⟩
      first | exact Or.inl ⟨rfl, by simpa [okS, lowS, highS, lstA] using hj, rfl⟩ | exact Or.inr ⟨rfl, by rw [← Bool.not_eq_true]; intro q; exact hj (by simpa [okS, lowS, highS, lstA] using q), rfl⟩
  · refine V_iload_n hC dX5_isSetting_0 rfl rfl ?_
    refine V_tableIn hC 48 dX5_isSetting_1 (by decide) (by decide) rfl (by decide) ?_
    refine V_iload_n hC dX5_isSetting_48 rfl rfl ?_
    refine V_i2l hC dX5_isSetting_49 ?_
    refine V_lconst hC 0 dX5_isSetting_50 (by decide) ?_
    refine V_ldc2 (v := 9) hC dX5_isSetting_51 (by decide +kernel) ?_
    refine V_csI (n := 3) hC (c_X5_in g (eL E) _ _ _) dX5_isSetting_54 gX5_isSetting_X5_in rfl rfl rfl ⟨rfl, rfl⟩ (by decide +kernel) (by decide +kernel) (Nat.le_of_ble_eq_true rfl) (by decide) (fun x54 u54 h54 => ?_)
    rcases h54 with ⟨rfl, hj, rfl⟩ | ⟨rfl, hj, rfl⟩
    · rw [inJ_c (a := 0) (b := 9) (by decide) (by decide)] at hj
      refine V_zret hC hR rfl dX5_isSetting_57 ⟨rfl, rfl, _, rfl, ?_⟩
      first | exact Or.inl ⟨rfl, by simpa [okS, lowS, highS, lstA] using hj, rfl⟩ | exact Or.inr ⟨rfl, by rw [← Bool.not_eq_true]; intro q; exact hj (by simpa [okS, lowS, highS, lstA] using q), rfl⟩
    · rw [inJ_c (a := 0) (b := 9) (by decide) (by decide)] at hj
      refine V_zret hC hR rfl dX5_isSetting_57 ⟨rfl, rfl, _, rfl, ?_⟩
      first | exact Or.inl ⟨rfl, by simpa [okS, lowS, highS, lstA] using hj, rfl⟩ | exact Or.inr ⟨rfl, by rw [← Bool.not_eq_true]; intro q; exact hj (by simpa [okS, lowS, highS, lstA] using q), rfl⟩
  · refine V_iload_n hC dX5_isSetting_0 rfl rfl ?_
    refine V_tableIn hC 48 dX5_isSetting_1 (by decide) (by decide) rfl (by decide) ?_
    refine V_iload_n hC dX5_isSetting_48 rfl rfl ?_
    refine V_i2l hC dX5_isSetting_49 ?_
    refine V_lconst hC 0 dX5_isSetting_50 (by decide) ?_
    refine V_ldc2 (v := 9) hC dX5_isSetting_51 (by decide +kernel) ?_
    refine V_csI (n := 3) hC (c_X5_in g (eL E) _ _ _) dX5_isSetting_54 gX5_isSetting_X5_in rfl rfl rfl ⟨rfl, rfl⟩ (by decide +kernel) (by decide +kernel) (Nat.le_of_ble_eq_true rfl) (by decide) (fun x54 u54 h54 => ?_)
    rcases h54 with ⟨rfl, hj, rfl⟩ | ⟨rfl, hj, rfl⟩
    · rw [inJ_c (a := 0) (b := 9) (by decide) (by decide)] at hj
      refine V_zret hC hR rfl dX5_isSetting_57 ⟨rfl, rfl, _, rfl, ?_⟩
      first | exact Or.inl ⟨rfl, by simpa [okS, lowS, highS, lstA] using hj, rfl⟩ | exact Or.inr ⟨rfl, by rw [← Bool.not_eq_true]; intro q; exact hj (by simpa [okS, lowS, highS, lstA] using q), rfl⟩
    · rw [inJ_c (a := 0) (b := 9) (by decide) (by decide)] at hj
      refine V_zret hC hR rfl dX5_isSetting_57 ⟨rfl, rfl, _, rfl, ?_⟩
      first | exact Or.inl ⟨rfl, by simpa [okS, lowS, highS, lstA] using hj, rfl⟩ | exact Or.inr ⟨rfl, by rw [← Bool.not_eq_true]; intro q; exact hj (by simpa [okS, lowS, highS, lstA] using q), rfl⟩
theorem inX5_X5_doSet : ∀ w ∈ wsX50, w ∈ wsX5_doSet := by decide +kernel
abbrev rmX5_doSet : Room := { frames := 2, cells := 0, slots := 0, locals := 46 }
set_option maxHeartbeats 4000000 in
set_option maxRecDepth 100000 in
theorem c_X5_doSet (g : GE) (lau : Launch) {N : Nat} {ad : Nat → Nat} {f : Nat → va_E} {o : Nat} {a kp hs : Nat → Int32} {hl : Int32} {so sv pd : Nat → Int32} {pn sp od wb nb : Int32} (hN : o + 7 ≤ N) {m : MT} (hm : RepR a m) (k v : Int32) : Ct g lau yX5_doSet wsX5_doSet rmX5_doSet N ad [.ref (ad o), .int (k), .int (v)] (zM g ad f o a kp hs hl so sv pd pn sp od wb nb) (pI N ad (fun x u => x = (mSet k v m).1 ∧ ∃ a2, u = (zM g ad f o a2 kp hs hl so sv pd pn sp od wb nb) ∧ RepR a2 (mSet k v m).2)) 0 0 := by
  refine Ct.of (maxL := 4) rfl (by decide +kernel) [some (.ref (ad o)), some (.int (k)), some (.int (v)), none] (Nat.le_of_ble_eq_true rfl) (by simp [lvo, lv_args, Value.category]) (fun E hnl _ hC hR => ?_)
  obtain ⟨hh, hb, hr, hp⟩ := hm
  refine V_iload_n hC dX5_doSet_0 rfl rfl ?_
  refine V_iload_n hC dX5_doSet_1 rfl rfl ?_
  refine V_csI (n := 2) hC (c_X5_isSetting g (eL E) k v) dX5_doSet_2 gX5_doSet_X5_isSetting rfl rfl rfl ⟨rfl, rfl⟩ (by decide +kernel) (by decide +kernel) (Nat.le_of_ble_eq_true rfl) (by decide) (fun x2 u2 h2 => ?_)
  rcases h2 with ⟨rfl, hj, rfl⟩ | ⟨rfl, hj, rfl⟩
  · obtain ⟨j, hj8, rfl⟩ := okS_j hj
    have ej := hh j (by omega) (by omega) (by omega) (by omega)
    refine V_if_ne_t hC 11 dX5_doSet_5 (by decide) (by decide) ?_
    refine V_aload_n hC dX5_doSet_11 rfl rfl ?_
    refine V_zM_all hC hN dX5_doSet_12 inX5_X5_doSet (by decide +kernel) ?_
    refine V_iload_n hC dX5_doSet_15 rfl rfl ?_
    refine V_zM_ld1 hC hN dX5_doSet_16 (ix_nI (j := j) (by omega) (by decide)) ?_
    refine V_istore_n3 hC dX5_doSet_17 rfl (by rw [hnl]; decide) rfl ?_
    refine V_aload_n hC dX5_doSet_18 rfl rfl ?_
    refine V_zM_all hC hN dX5_doSet_19 inX5_X5_doSet (by decide +kernel) ?_
    refine V_iload_n hC dX5_doSet_22 rfl rfl ?_
    refine V_iload_n hC dX5_doSet_23 rfl rfl ?_
    refine V_zM_st1 hC hN dX5_doSet_24 (ix_nI (j := j) (by omega) (by decide)) ?_
    refine V_iload_n hC dX5_doSet_25 rfl rfl ?_
    refine V_iret hC hR dX5_doSet_26 ⟨rfl, rfl, _, rfl, ?_⟩
    rw [mSet, hj]
    simp only [if_true]
    rw [nI_clamp (by omega)]
    exact ⟨ej, _, rfl, hh.at, hb.off (by omega) (by omega), hr.off (by omega) (by omega), hp.off (by omega) (by omega)⟩
  · refine V_if_ne_f (tgt := 11) hC dX5_doSet_5 (by decide) (by decide) ?_
    refine V_bipush hC (-2) dX5_doSet_8 (by decide) ?_
    refine V_iret hC hR dX5_doSet_10 ⟨rfl, rfl, _, rfl, ?_⟩
    rw [mSet, hj]
    exact ⟨rfl, a, rfl, hh, hb, hr, hp⟩
theorem okT_n {t : Int32} (h : okT t = true) : ∃ n, n ≤ 99 ∧ t = nI n := by
  simp only [okT, Bool.and_eq_true, decide_eq_true_eq] at h
  obtain ⟨n, hn, e⟩ := nI_of (x := t) (Int32.not_lt.mpr (Int32.le_trans (by decide) h.1))
  subst e
  rw [show (99 : Int32) = nI 99 from rfl, nI_leI hn (by decide)] at h
  exact ⟨n, h.2, rfl⟩
theorem inX5_X5_doPass : ∀ w ∈ wsX50, w ∈ wsX5_doPass := by decide +kernel
abbrev rmX5_doPass : Room := { frames := 7, cells := 0, slots := 0, locals := 153 }
set_option maxHeartbeats 4000000 in
set_option maxRecDepth 100000 in
theorem c_X5_doPass (g : GE) (lau : Launch) {N : Nat} {ad : Nat → Nat} {f : Nat → va_E} {o : Nat} {a kp hs : Nat → Int32} {hl : Int32} {so sv pd : Nat → Int32} {pn sp od wb nb : Int32} (hN : o + 7 ≤ N) {m : MT} (hm : RepR a m) (v : Int32) (hok : ∀ n, n ≤ 99 → TicksOK n m) : Ct g lau yX5_doPass wsX5_doPass rmX5_doPass N ad [.ref (ad o), .int (v)] (zM g ad f o a kp hs hl so sv pd pn sp od wb nb) (pI N ad (fun x u => x = (mPass v m).1 ∧ ∃ a2, u = (zM g ad f o a2 kp hs hl so sv pd pn sp od wb nb) ∧ RepR a2 (mPass v m).2)) 0 0 := by
  refine Ct.of (maxL := 2) rfl (by decide +kernel) [some (.ref (ad o)), some (.int (v))] (Nat.le_of_ble_eq_true rfl) (by simp [lvo, lv_args, Value.category]) (fun E hnl _ hC hR => ?_)
  have e8 := hm.1 8 (by decide) (by decide) (by decide) (by decide)
  refine V_iload_n hC dX5_doPass_0 rfl rfl ?_
  refine V_csI (n := 1) hC (c_X5_areTicks g (eL E) v) dX5_doPass_1 gX5_doPass_X5_areTicks rfl rfl rfl ⟨rfl, rfl⟩ (by decide +kernel) (by decide +kernel) (Nat.le_of_ble_eq_true rfl) (by decide) (fun x1 u1 h1 => ?_)
  rcases h1 with ⟨rfl, hj, rfl⟩ | ⟨rfl, hj, rfl⟩
  · obtain ⟨n, hn, rfl⟩ := okT_n hj
    refine V_if_ne_t hC 10 dX5_doPass_4 (by decide) (by decide) ?_
    refine V_aload_n hC dX5_doPass_10 rfl rfl ?_
    refine V_zM_all hC hN dX5_doPass_11 inX5_X5_doPass (by decide +kernel) ?_
    refine V_bipush hC 8 dX5_doPass_14 (by decide) ?_
    refine V_zM_ld1 hC hN (k := 8) dX5_doPass_16 (ix_c (by decide)) ?_
    refine V_iload_n hC dX5_doPass_17 rfl rfl ?_
    refine V_iadd hC dX5_doPass_18 ?_
    refine V_sipush hC 20000 dX5_doPass_19 (by decide) ?_
    refine V_icmp_le hC 30 dX5_doPass_22 (by decide) (fun c22 => ?_) (fun c22 => ?_)
    · rw [e8] at c22
      refine V_aload_n hC dX5_doPass_30 rfl rfl ?_
      refine V_iload_n hC dX5_doPass_31 rfl rfl ?_
      refine V_cvI (n := 1) hC (c_X5_passes g (eL E) hN (n := n) (by omega) hm (hok n hn)) dX5_doPass_32 gX5_doPass_X5_passes rfl rfl rfl ⟨rfl, rfl⟩ (by decide +kernel) (by decide +kernel) (by omega) zM_0 rfl (Nat.le_of_ble_eq_true rfl) (by decide) (fun x32 u32 h32 => ?_)
      obtain ⟨rfl, a2, rfl, hm2⟩ := h32
      refine V_iret hC hR dX5_doPass_35 ⟨rfl, rfl, _, rfl, ?_⟩
      rw [mPass, hj]
      simp only [if_true]
      first | (rw [if_neg (Int32.not_lt.mpr c22), nI_clamp (by omega)]; exact ⟨rfl, a2, rfl, hm2⟩) | (rw [if_pos (Int32.not_le.mp c22)]; exact ⟨rfl, a, rfl, hm⟩)
    · rw [e8] at c22
      refine V_bipush hC (-4) dX5_doPass_25 (by decide) ?_
      refine V_goto hC 35 dX5_doPass_27 (by decide) ?_
      refine V_iret hC hR dX5_doPass_35 ⟨rfl, rfl, _, rfl, ?_⟩
      rw [mPass, hj]
      simp only [if_true]
      first | (rw [if_neg (Int32.not_lt.mpr c22), nI_clamp (by omega)]; exact ⟨rfl, a2, rfl, hm2⟩) | (rw [if_pos (Int32.not_le.mp c22)]; exact ⟨rfl, a, rfl, hm⟩)
  · refine V_if_ne_f (tgt := 10) hC dX5_doPass_4 (by decide) (by decide) ?_
    refine V_bipush hC (-2) dX5_doPass_7 (by decide) ?_
    refine V_iret hC hR dX5_doPass_9 ⟨rfl, rfl, _, rfl, ?_⟩
    rw [mPass, hj]
    exact ⟨rfl, a, rfl, hm⟩
