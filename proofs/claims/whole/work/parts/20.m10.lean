theorem rPad.ge {pd : Nat → Int32} {pn : Int32} {pre : List Int32} (q : rPad pd pn (pre ++ [])) : pn ≤ nI pre.length := lp_end q.1 (Nat.le_trans q.2.1 (by decide))
theorem rPad.lt {pd : Nat → Int32} {pn : Int32} {pre t : List Int32} {c : Int32} (q : rPad pd pn (pre ++ c :: t)) : ¬ pn ≤ nI pre.length ∧ pre.length < 60 ∧ pd pre.length = c := ⟨lp_go q.1 (Nat.le_trans q.2.1 (by decide)), by have := q.2.1; simp at this; omega, q.2.2 _ _ cut_m⟩
theorem rPad.step {pd : Nat → Int32} {pn : Int32} {pre t : List Int32} {c : Int32} (q : rPad pd pn (pre ++ c :: t)) : rPad pd pn ((pre ++ [c]) ++ t) := by
  rw [List.append_assoc]
  exact q
theorem len1 {pre : List Int32} {c : Int32} : nI (pre ++ [c]).length = nI pre.length + 1 := by
  rw [List.length_append]
  exact (nI_1 _).symm
theorem rPad.drop {pd : Nat → Int32} {pn : Int32} {pre l : List Int32} (q : rPad pd pn (pre ++ l)) (n : Nat) : rPad pd pn ((pre ++ l.take n) ++ l.drop n) := by
  rw [List.append_assoc, List.take_append_drop]
  exact q
theorem lenT {pre l : List Int32} {n : Nat} (h : n ≤ l.length) : (pre ++ l.take n).length = pre.length + n := by
  rw [List.length_append, List.length_take, Nat.min_eq_left h]
theorem rdNum_no {l : List Int32} (h : hereB l 48 57 = false) : rdNum l = (false, 0, 0) := by
  cases l with
  | nil => rfl
  | cons c t => simp only [rdNum, h, Bool.false_eq_true, if_false]
theorem rdNum_1 {c : Int32} {t : List Int32} (h : hereB (c :: t) 48 57 = true) (h2 : ¬ 0 < c - 48 ∨ hereB t 48 57 = false) : rdNum (c :: t) = (true, 1, c - 48) := by
  unfold rdNum
  simp only [h, if_true]
  split
  · cases t with
    | nil => rfl
    | cons e t2 =>
      rcases h2 with q | q
      · rename_i q2
        exact absurd q2 q
      · simp only [q, Bool.false_eq_true, if_false]
  · rfl
theorem rdNum_2 {c e : Int32} {t : List Int32} (h : hereB (c :: e :: t) 48 57 = true) (h1 : 0 < c - 48) (h2 : hereB (e :: t) 48 57 = true) : rdNum (c :: e :: t) = (true, 2, 10 * (c - 48) + e - 48) := by
  unfold rdNum
  simp only [h, h1, h2, if_true]
theorem inX5_X5_isHere : ∀ w ∈ wsX50, w ∈ wsX5_isHere := by decide +kernel
abbrev rmX5_isHere : Room := { frames := 1, cells := 0, slots := 0, locals := 25 }
set_option maxHeartbeats 4000000 in
set_option maxRecDepth 100000 in
theorem c_X5_isHere (g : GE) (lau : Launch) {N : Nat} {ad : Nat → Nat} {f : Nat → va_E} {o : Nat} {a kp hs : Nat → Int32} {hl : Int32} {so sv pd : Nat → Int32} {pn od wb nb : Int32} (hN : o + 7 ≤ N) {pre l : List Int32} (hq : rPad pd pn (pre ++ l)) (v1 v2 : Int32) : Ct g lau yX5_isHere wsX5_isHere rmX5_isHere N ad [.ref (ad o), .int (v1), .int (v2)] (zM g ad f o a kp hs hl so sv pd pn (nI pre.length) od wb nb) (pI N ad (fun x u => (x = 1 ∧ hereB l v1 v2 = true ∧ u = (zM g ad f o a kp hs hl so sv pd pn (nI pre.length) od wb nb)) ∨ (x = 0 ∧ hereB l v1 v2 = false ∧ u = (zM g ad f o a kp hs hl so sv pd pn (nI pre.length) od wb nb)))) 0 0 := by
  refine Ct.of (maxL := 3) rfl (by decide +kernel) [some (.ref (ad o)), some (.int (v1)), some (.int (v2))] (Nat.le_of_ble_eq_true rfl) (by simp [lvo, lv_args, Value.category]) (fun E hnl _ hC hR => ?_)
  cases l with
  | nil =>
    have h1 := hq.ge
    refine V_aload_n hC dX5_isHere_0 rfl rfl ?_
    refine V_zM_spot hC hN dX5_isHere_1 inX5_X5_isHere (by decide +kernel) ?_
    refine V_aload_n hC dX5_isHere_4 rfl rfl ?_
    refine V_zM_padLong hC hN dX5_isHere_5 inX5_X5_isHere (by decide +kernel) ?_
    refine V_icmp_ge_t hC 35 dX5_isHere_8 (by decide) h1 ?_
    refine V_iconst hC 0 dX5_isHere_35 (by decide) ?_
    refine V_zret hC hR rfl dX5_isHere_36 ⟨rfl, rfl, _, rfl, ?_⟩
    exact Or.inr ⟨rfl, rfl, rfl⟩
  | cons c t =>
    obtain ⟨h1, h2, h3⟩ := hq.lt
    refine V_aload_n hC dX5_isHere_0 rfl rfl ?_
    refine V_zM_spot hC hN dX5_isHere_1 inX5_X5_isHere (by decide +kernel) ?_
    refine V_aload_n hC dX5_isHere_4 rfl rfl ?_
    refine V_zM_padLong hC hN dX5_isHere_5 inX5_X5_isHere (by decide +kernel) ?_
    refine V_icmp_ge_f (tgt := 35) hC dX5_isHere_8 (by decide) h1 ?_
    refine V_aload_n hC dX5_isHere_11 rfl rfl ?_
    refine V_zM_pad hC hN dX5_isHere_12 inX5_X5_isHere (by decide +kernel) ?_
    refine V_aload_n hC dX5_isHere_15 rfl rfl ?_
    refine V_zM_spot hC hN dX5_isHere_16 inX5_X5_isHere (by decide +kernel) ?_
    refine V_zM_ld6 hC hN dX5_isHere_19 (ix_nI (j := pre.length) h2 (by decide)) ?_
    refine V_i2l hC dX5_isHere_20 ?_
    refine V_iload_n hC dX5_isHere_21 rfl rfl ?_
    refine V_i2l hC dX5_isHere_22 ?_
    refine V_iload_n hC dX5_isHere_23 rfl rfl ?_
    refine V_i2l hC dX5_isHere_24 ?_
    refine V_csI (n := 3) hC (c_X5_in g (eL E) _ _ _) dX5_isHere_25 gX5_isHere_X5_in rfl rfl rfl ⟨rfl, rfl⟩ (by decide +kernel) (by decide +kernel) (Nat.le_of_ble_eq_true rfl) (by decide) (fun x25 u25 h25 => ?_)
    rcases h25 with ⟨rfl, hj, rfl⟩ | ⟨rfl, hj, rfl⟩
    · rw [inJ_i, h3] at hj
      refine V_if_eq_f (tgt := 35) hC dX5_isHere_28 (by decide) (by decide) ?_
      refine V_iconst hC 1 dX5_isHere_31 (by decide) ?_
      refine V_goto hC 36 dX5_isHere_32 (by decide) ?_
      refine V_zret hC hR rfl dX5_isHere_36 ⟨rfl, rfl, _, rfl, ?_⟩
      first | exact Or.inl ⟨rfl, by simp [hereB, hj], rfl⟩ | exact Or.inr ⟨rfl, by simp only [hereB, ← Bool.decide_and, hj, decide_false], rfl⟩
    · rw [inJ_i, h3] at hj
      refine V_if_eq_t hC 35 dX5_isHere_28 (by decide) rfl ?_
      refine V_iconst hC 0 dX5_isHere_35 (by decide) ?_
      refine V_zret hC hR rfl dX5_isHere_36 ⟨rfl, rfl, _, rfl, ?_⟩
      first | exact Or.inl ⟨rfl, by simp [hereB, hj], rfl⟩ | exact Or.inr ⟨rfl, by simp only [hereB, ← Bool.decide_and, hj, decide_false], rfl⟩
theorem inX5_X5_takes : ∀ w ∈ wsX50, w ∈ wsX5_takes := by decide +kernel
abbrev rmX5_takes : Room := { frames := 2, cells := 0, slots := 0, locals := 47 }
set_option maxHeartbeats 4000000 in
set_option maxRecDepth 100000 in
theorem c_X5_takes (g : GE) (lau : Launch) {N : Nat} {ad : Nat → Nat} {f : Nat → va_E} {o : Nat} {a kp hs : Nat → Int32} {hl : Int32} {so sv pd : Nat → Int32} {pn od wb nb : Int32} (hN : o + 7 ≤ N) {pre l : List Int32} (hq : rPad pd pn (pre ++ l)) (v : Int32) : Ct g lau yX5_takes wsX5_takes rmX5_takes N ad [.ref (ad o), .int (v)] (zM g ad f o a kp hs hl so sv pd pn (nI pre.length) od wb nb) (pI N ad (fun x u => (x = 1 ∧ (∃ t, l = v :: t) ∧ u = (zM g ad f o a kp hs hl so sv pd pn (nI (pre.length + 1)) od wb nb)) ∨ (x = 0 ∧ hereB l v v = false ∧ u = (zM g ad f o a kp hs hl so sv pd pn (nI pre.length) od wb nb)))) 0 0 := by
  refine Ct.of (maxL := 3) rfl (by decide +kernel) [some (.ref (ad o)), some (.int (v)), none] (Nat.le_of_ble_eq_true rfl) (by simp [lvo, lv_args, Value.category]) (fun E hnl _ hC hR => ?_)
  refine V_aload_n hC dX5_takes_0 rfl rfl ?_
  refine V_iload_n hC dX5_takes_1 rfl rfl ?_
  refine V_iload_n hC dX5_takes_2 rfl rfl ?_
  refine V_cvI (n := 2) hC (c_X5_isHere g (eL E) hN hq v v) dX5_takes_3 gX5_takes_X5_isHere rfl rfl rfl ⟨rfl, rfl⟩ (by decide +kernel) (by decide +kernel) (by omega) zM_0 rfl (Nat.le_of_ble_eq_true rfl) (by decide) (fun x3 u3 h3 => ?_)
  rcases h3 with ⟨rfl, hj, rfl⟩ | ⟨rfl, hj, rfl⟩
  · refine V_istore_n2 hC dX5_takes_6 rfl (by rw [hnl]; decide) rfl ?_
    refine V_aload_n hC dX5_takes_7 rfl rfl ?_
    refine V_dup hC dX5_takes_8 rfl ?_
    refine V_zM_spot hC hN dX5_takes_9 inX5_X5_takes (by decide +kernel) ?_
    refine V_iload_n hC dX5_takes_12 rfl rfl ?_
    refine V_if_eq_f (tgt := 20) hC dX5_takes_13 (by decide) (by decide) ?_
    refine V_iconst hC 1 dX5_takes_16 (by decide) ?_
    refine V_goto hC 21 dX5_takes_17 (by decide) ?_
    refine V_iadd hC dX5_takes_21 ?_
    refine V_zM_put_spot hC hN dX5_takes_22 inX5_X5_takes (by decide +kernel) ?_
    refine V_iload_n hC dX5_takes_25 rfl rfl ?_
    refine V_zret hC hR rfl dX5_takes_26 ⟨rfl, rfl, _, rfl, ?_⟩
    first | exact Or.inl ⟨rfl, by obtain ⟨c, t, e, h1, h2⟩ := hereB_i hj; rw [e, Int32.le_antisymm h2 h1]; exact ⟨t, rfl⟩, by rw [nI_1]⟩ | exact Or.inr ⟨rfl, hj, by rw [Int32.add_zero]⟩
  · refine V_istore_n2 hC dX5_takes_6 rfl (by rw [hnl]; decide) rfl ?_
    refine V_aload_n hC dX5_takes_7 rfl rfl ?_
    refine V_dup hC dX5_takes_8 rfl ?_
    refine V_zM_spot hC hN dX5_takes_9 inX5_X5_takes (by decide +kernel) ?_
    refine V_iload_n hC dX5_takes_12 rfl rfl ?_
    refine V_if_eq_t hC 20 dX5_takes_13 (by decide) rfl ?_
    refine V_iconst hC 0 dX5_takes_20 (by decide) ?_
    refine V_iadd hC dX5_takes_21 ?_
    refine V_zM_put_spot hC hN dX5_takes_22 inX5_X5_takes (by decide +kernel) ?_
    refine V_iload_n hC dX5_takes_25 rfl rfl ?_
    refine V_zret hC hR rfl dX5_takes_26 ⟨rfl, rfl, _, rfl, ?_⟩
    first | exact Or.inl ⟨rfl, by obtain ⟨c, t, e, h1, h2⟩ := hereB_i hj; rw [e, Int32.le_antisymm h2 h1]; exact ⟨t, rfl⟩, by rw [nI_1]⟩ | exact Or.inr ⟨rfl, hj, by rw [Int32.add_zero]⟩
theorem inX5_X5_readsNumber : ∀ w ∈ wsX50, w ∈ wsX5_readsNumber := by decide +kernel
abbrev rmX5_readsNumber : Room := { frames := 2, cells := 0, slots := 0, locals := 47 }
set_option maxHeartbeats 4000000 in
set_option maxRecDepth 100000 in
theorem c_X5_readsNumber (g : GE) (lau : Launch) {N : Nat} {ad : Nat → Nat} {f : Nat → va_E} {o : Nat} {a kp hs : Nat → Int32} {hl : Int32} {so sv pd : Nat → Int32} {pn od wb nb : Int32} (hN : o + 7 ≤ N) {pre l : List Int32} (hq : rPad pd pn (pre ++ l)) : Ct g lau yX5_readsNumber wsX5_readsNumber rmX5_readsNumber N ad [.ref (ad o)] (zM g ad f o a kp hs hl so sv pd pn (nI pre.length) od wb nb) (pI N ad (fun x u => (x = 1 ∧ (rdNum l).1 = true ∧ u = (zM g ad f o a kp hs hl so sv pd pn (nI (pre.length + (rdNum l).2.1)) od wb ((rdNum l).2.2))) ∨ (x = 0 ∧ (rdNum l).1 = false ∧ (rdNum l).2.1 = 0 ∧ u = (zM g ad f o a kp hs hl so sv pd pn (nI pre.length) od wb nb)))) 0 0 := by
  refine Ct.of (maxL := 1) rfl (by decide +kernel) [some (.ref (ad o))] (Nat.le_of_ble_eq_true rfl) (by simp [lvo, lv_args, Value.category]) (fun E hnl _ hC hR => ?_)
  refine V_aload_n hC dX5_readsNumber_0 rfl rfl ?_
  refine V_bipush hC 48 dX5_readsNumber_1 (by decide) ?_
  refine V_bipush hC 57 dX5_readsNumber_3 (by decide) ?_
  refine V_cvI (n := 2) hC (c_X5_isHere g (eL E) hN hq 48 57) dX5_readsNumber_5 gX5_readsNumber_X5_isHere rfl rfl rfl ⟨rfl, rfl⟩ (by decide +kernel) (by decide +kernel) (by omega) zM_0 rfl (Nat.le_of_ble_eq_true rfl) (by decide) (fun x5 u5 h5 => ?_)
  rcases h5 with ⟨rfl, hj, rfl⟩ | ⟨rfl, hj, rfl⟩
  · obtain ⟨c, t, rfl, -, -⟩ := hereB_i hj
    obtain ⟨-, h2, h3⟩ := hq.lt
    refine V_if_ne_t hC 13 dX5_readsNumber_8 (by decide) (by decide) ?_
    refine V_aload_n hC dX5_readsNumber_13 rfl rfl ?_
    refine V_aload_n hC dX5_readsNumber_14 rfl rfl ?_
    refine V_zM_pad hC hN dX5_readsNumber_15 inX5_X5_readsNumber (by decide +kernel) ?_
    refine V_aload_n hC dX5_readsNumber_18 rfl rfl ?_
    refine V_zM_spot hC hN dX5_readsNumber_19 inX5_X5_readsNumber (by decide +kernel) ?_
    refine V_zM_ld6 hC hN dX5_readsNumber_22 (ix_nI (j := pre.length) h2 (by decide)) ?_
    refine V_bipush hC 48 dX5_readsNumber_23 (by decide) ?_
    refine V_isub hC dX5_readsNumber_25 ?_
    refine V_eqt (c - 48) (by rw [h3]) ?_
    refine V_zM_put_number hC hN dX5_readsNumber_26 inX5_X5_readsNumber (by decide +kernel) ?_
    refine V_aload_n hC dX5_readsNumber_29 rfl rfl ?_
    refine V_dup hC dX5_readsNumber_30 rfl ?_
    refine V_zM_spot hC hN dX5_readsNumber_31 inX5_X5_readsNumber (by decide +kernel) ?_
    refine V_iconst hC 1 dX5_readsNumber_34 (by decide) ?_
    refine V_iadd hC dX5_readsNumber_35 ?_
    refine V_eqt (nI (pre ++ [c]).length) len1.symm ?_
    refine V_zM_put_spot hC hN dX5_readsNumber_36 inX5_X5_readsNumber (by decide +kernel) ?_
    refine V_aload_n hC dX5_readsNumber_39 rfl rfl ?_
    refine V_zM_number hC hN dX5_readsNumber_40 inX5_X5_readsNumber (by decide +kernel) ?_
    refine V_if_le hC 91 dX5_readsNumber_43 (by decide) (fun c43 => ?_) (fun c43 => ?_)
    · have hz := rdNum_1 hj (Or.inl (Int32.not_lt.mpr c43))
      refine V_iconst hC 1 dX5_readsNumber_91 (by decide) ?_
      refine V_zret hC hR rfl dX5_readsNumber_92 ⟨rfl, rfl, _, rfl, ?_⟩
      exact Or.inl ⟨rfl, by rw [hz], by rw [hz]; simp [Nat.add_assoc]⟩
    · have c43 : 0 < c - 48 := Int32.not_le.mp c43
      refine V_aload_n hC dX5_readsNumber_46 rfl rfl ?_
      refine V_bipush hC 48 dX5_readsNumber_47 (by decide) ?_
      refine V_bipush hC 57 dX5_readsNumber_49 (by decide) ?_
      refine V_cvI (n := 2) hC (c_X5_isHere g (eL E) hN hq.step 48 57) dX5_readsNumber_51 gX5_readsNumber_X5_isHere rfl rfl rfl ⟨rfl, rfl⟩ (by decide +kernel) (by decide +kernel) (by omega) zM_0 rfl (Nat.le_of_ble_eq_true rfl) (by decide) (fun x51 u51 h51 => ?_)
      rcases h51 with ⟨rfl, hj2, rfl⟩ | ⟨rfl, hj2, rfl⟩
      · obtain ⟨e, t2, rfl, -, -⟩ := hereB_i hj2
        obtain ⟨-, h4, h5⟩ := hq.step.lt
        have hz := rdNum_2 hj c43 hj2
        refine V_if_eq_f (tgt := 91) hC dX5_readsNumber_54 (by decide) (by decide) ?_
        refine V_aload_n hC dX5_readsNumber_57 rfl rfl ?_
        refine V_bipush hC 10 dX5_readsNumber_58 (by decide) ?_
        refine V_aload_n hC dX5_readsNumber_60 rfl rfl ?_
        refine V_zM_number hC hN dX5_readsNumber_61 inX5_X5_readsNumber (by decide +kernel) ?_
        refine V_imul hC dX5_readsNumber_64 ?_
        refine V_aload_n hC dX5_readsNumber_65 rfl rfl ?_
        refine V_zM_pad hC hN dX5_readsNumber_66 inX5_X5_readsNumber (by decide +kernel) ?_
        refine V_aload_n hC dX5_readsNumber_69 rfl rfl ?_
        refine V_zM_spot hC hN dX5_readsNumber_70 inX5_X5_readsNumber (by decide +kernel) ?_
        refine V_zM_ld6 hC hN dX5_readsNumber_73 (ix_nI (j := (pre ++ [c]).length) h4 (by decide)) ?_
        refine V_iadd hC dX5_readsNumber_74 ?_
        refine V_bipush hC 48 dX5_readsNumber_75 (by decide) ?_
        refine V_isub hC dX5_readsNumber_77 ?_
        refine V_eqt (10 * (c - 48) + e - 48) (by rw [h5]) ?_
        refine V_zM_put_number hC hN dX5_readsNumber_78 inX5_X5_readsNumber (by decide +kernel) ?_
        refine V_aload_n hC dX5_readsNumber_81 rfl rfl ?_
        refine V_dup hC dX5_readsNumber_82 rfl ?_
        refine V_zM_spot hC hN dX5_readsNumber_83 inX5_X5_readsNumber (by decide +kernel) ?_
        refine V_iconst hC 1 dX5_readsNumber_86 (by decide) ?_
        refine V_iadd hC dX5_readsNumber_87 ?_
        refine V_eqt (nI ((pre ++ [c]) ++ [e]).length) len1.symm ?_
        refine V_zM_put_spot hC hN dX5_readsNumber_88 inX5_X5_readsNumber (by decide +kernel) ?_
        refine V_iconst hC 1 dX5_readsNumber_91 (by decide) ?_
        refine V_zret hC hR rfl dX5_readsNumber_92 ⟨rfl, rfl, _, rfl, ?_⟩
        exact Or.inl ⟨rfl, by rw [hz], by rw [hz]; simp [Nat.add_assoc]⟩
      · have hz := rdNum_1 hj (Or.inr hj2)
        refine V_if_eq_t hC 91 dX5_readsNumber_54 (by decide) rfl ?_
        refine V_iconst hC 1 dX5_readsNumber_91 (by decide) ?_
        refine V_zret hC hR rfl dX5_readsNumber_92 ⟨rfl, rfl, _, rfl, ?_⟩
        exact Or.inl ⟨rfl, by rw [hz], by rw [hz]; simp [Nat.add_assoc]⟩
  · refine V_if_ne_f (tgt := 13) hC dX5_readsNumber_8 (by decide) rfl ?_
    refine V_iconst hC 0 dX5_readsNumber_11 (by decide) ?_
    refine V_zret hC hR rfl dX5_readsNumber_12 ⟨rfl, rfl, _, rfl, ?_⟩
    exact Or.inr ⟨rfl, by rw [rdNum_no hj], by rw [rdNum_no hj], rfl⟩
