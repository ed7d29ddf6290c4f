theorem nar_cn {n : Nat} (h : n < 65536) : narrow .char (.int (nI n)) = .int (nI n) := by
  have e : ((nI n).toUInt32.toUInt16.toUInt32.toInt32) = nI n := by
    unfold nI
    apply Int32.toBitVec_inj.mp
    simp
    apply BitVec.eq_of_toNat_eq
    simp
    omega
  first | exact congrArg Value.int e | (simp only [narrow]; rw [e])
def dg (v : Int32) : Bool := decide (48 ≤ v) && decide (v ≤ 57)
/-- what is due behind a sign -/
def duF (d : Nat) (v : Int32) : Nat :=
  if d = 0 then (if v = 116 then 1 else if v = 98 ∨ v = 119 ∨ v = 115 then 3 else 6)
  else if d = 1 then (if 48 ≤ v ∧ v ≤ 55 then 2 else 6)
  else if d = 2 then (if v = 61 then 3 else 6)
  else if d = 3 then (if v = 48 then 5 else if dg v then 4 else 6)
  else if d = 4 then (if dg v then 5 else if v = 59 then 0 else 6)
  else if d = 5 then (if v = 59 then 0 else 6) else 6
theorem duF_le (d : Nat) (v : Int32) : duF d v ≤ 6 := by
  unfold duF
  repeat' (first | decide | split)
def autoF : Nat → Nat → List Int32 → Int32
  | d, i, [] => if d = 4 ∨ d = 5 then -6 else nI i
  | d, i, c :: t => if duF d c = 6 then nI i else autoF (duF d c) (i + 1) t
def numL : Int32 → List Int32 → Int32
  | acc, [] => acc
  | acc, c :: t => if dg c then numL (10 * acc + (c - 48)) t else acc
def sgn (p : List Int32) (i : Nat) : Int32 := p.getD i 59
/-- at z, z+1 of the world u is a pad with the text p -/
def PAt (g : GE) (ad : Nat → Nat) (z : Nat) (p : List Int32) (u : Nat → va_E) : Prop := ∃ sg : Nat → Int32, u z = .inr (3, [.ref (ad (z + 1)), .int (nI p.length)]) ∧ u (z + 1) = .inl (g.2.1 1, 60, .inl sg) ∧ rPad sg (nI p.length) p
def padOK (p : List Int32) : Prop := ∀ c ∈ p, 0 ≤ c.toInt ∧ c.toInt < 65536
theorem nar_c {c : Int32} (h : 0 ≤ c.toInt ∧ c.toInt < 65536) : narrow .char (.int c) = .int c := by
  obtain ⟨n, hn⟩ := Int.eq_ofNat_of_zero_le h.1
  have e := nI_of_int hn (by omega)
  subst e
  exact nar_cn (by omega)
abbrev rmX3_isDigit : Room := { frames := 0, cells := 0, slots := 0, locals := 0 }
set_option maxHeartbeats 4000000 in
set_option maxRecDepth 100000 in
theorem c_X3_isDigit (g : GE) (lau : Launch) {N : Nat} {ad : Nat → Nat} {f : Nat → va_E} (v : Int32) : Ct g lau yX3_isDigit wsX3_isDigit rmX3_isDigit N ad [.int v] f (pI N ad (fun x u => (x = 1 ∧ dg v = true ∧ u = f) ∨ (x = 0 ∧ dg v = false ∧ u = f))) 0 0 := by
  refine Ct.of (maxL := 1) rfl (by decide +kernel) [some (.int v)] (Nat.le_of_ble_eq_true rfl) (by simp [lvo, lv_args, Value.category]) (fun E hnl _ hC hR => ?_)
  refine V_iload_n hC dX3_isDigit_0 rfl rfl ?_
  refine V_bipush hC 48 dX3_isDigit_1 (by decide) ?_
  refine V_icmp_lt hC 16 dX3_isDigit_3 (by decide) (fun c3 => ?_) (fun c3 => ?_)
  · refine V_iconst hC 0 dX3_isDigit_16 (by decide) ?_
    refine V_zret hC hR rfl dX3_isDigit_17 ⟨rfl, rfl, _, rfl, ?_⟩
    first | exact Or.inl ⟨rfl, by simp only [dg, Bool.and_eq_true, decide_eq_true_eq]; exact ⟨Int32.not_lt.mp c3, Int32.not_lt.mp c9⟩, rfl⟩ | exact Or.inr ⟨rfl, by rw [dg, decide_eq_false (Int32.not_le.mpr c3)]; rfl, rfl⟩ | exact Or.inr ⟨rfl, by rw [dg, decide_eq_false (p := v ≤ 57) (Int32.not_le.mpr c9), Bool.and_false], rfl⟩
  · refine V_iload_n hC dX3_isDigit_6 rfl rfl ?_
    refine V_bipush hC 57 dX3_isDigit_7 (by decide) ?_
    refine V_icmp_gt hC 16 dX3_isDigit_9 (by decide) (fun c9 => ?_) (fun c9 => ?_)
    · refine V_iconst hC 0 dX3_isDigit_16 (by decide) ?_
      refine V_zret hC hR rfl dX3_isDigit_17 ⟨rfl, rfl, _, rfl, ?_⟩
      first | exact Or.inl ⟨rfl, by simp only [dg, Bool.and_eq_true, decide_eq_true_eq]; exact ⟨Int32.not_lt.mp c3, Int32.not_lt.mp c9⟩, rfl⟩ | exact Or.inr ⟨rfl, by rw [dg, decide_eq_false (Int32.not_le.mpr c3)]; rfl, rfl⟩ | exact Or.inr ⟨rfl, by rw [dg, decide_eq_false (p := v ≤ 57) (Int32.not_le.mpr c9), Bool.and_false], rfl⟩
    · refine V_iconst hC 1 dX3_isDigit_12 (by decide) ?_
      refine V_goto hC 17 dX3_isDigit_13 (by decide) ?_
      refine V_zret hC hR rfl dX3_isDigit_17 ⟨rfl, rfl, _, rfl, ?_⟩
      first | exact Or.inl ⟨rfl, by simp only [dg, Bool.and_eq_true, decide_eq_true_eq]; exact ⟨Int32.not_lt.mp c3, Int32.not_lt.mp c9⟩, rfl⟩ | exact Or.inr ⟨rfl, by rw [dg, decide_eq_false (Int32.not_le.mpr c3)]; rfl, rfl⟩ | exact Or.inr ⟨rfl, by rw [dg, decide_eq_false (p := v ≤ 57) (Int32.not_le.mpr c9), Bool.and_false], rfl⟩
abbrev rmX3_behindOrder : Room := { frames := 0, cells := 0, slots := 0, locals := 0 }
set_option maxHeartbeats 4000000 in
set_option maxRecDepth 100000 in
theorem c_X3_behindOrder (g : GE) (lau : Launch) {N : Nat} {ad : Nat → Nat} {f : Nat → va_E} (v : Int32) : Ct g lau yX3_behindOrder wsX3_behindOrder rmX3_behindOrder N ad [.int v] f (pI N ad (fun x u => x = nI (duF 0 v) ∧ u = f)) 0 0 := by
  refine Ct.of (maxL := 1) rfl (by decide +kernel) [some (.int v)] (Nat.le_of_ble_eq_true rfl) (by simp [lvo, lv_args, Value.category]) (fun E hnl _ hC hR => ?_)
  refine V_iload_n hC dX3_behindOrder_0 rfl rfl ?_
  refine V_bipush hC 116 dX3_behindOrder_1 (by decide) ?_
  refine V_icmp_ne hC 8 dX3_behindOrder_3 (by decide) (fun c3 => ?_) (fun c3 => ?_)
  · refine V_iload_n hC dX3_behindOrder_8 rfl rfl ?_
    refine V_bipush hC 98 dX3_behindOrder_9 (by decide) ?_
    refine V_icmp_eq hC 26 dX3_behindOrder_11 (by decide) (fun c11 => ?_) (fun c11 => ?_)
    · refine V_iconst hC 3 dX3_behindOrder_26 (by decide) ?_
      refine V_goto hC 32 dX3_behindOrder_27 (by decide) ?_
      refine V_iret hC hR dX3_behindOrder_32 ⟨rfl, rfl, _, rfl, ?_⟩
      first | exact ⟨by rw [show duF 0 v = 3 by simp only [duF, if_true]; rw [if_neg c3, if_pos (Or.inl c11)]]; rfl, rfl⟩ | exact ⟨by rw [show duF 0 v = 3 by simp only [duF, if_true]; rw [if_neg c3, if_pos (Or.inr (Or.inl c17))]]; rfl, rfl⟩ | exact ⟨by rw [show duF 0 v = 3 by simp only [duF, if_true]; rw [if_neg c3, if_pos (Or.inr (Or.inr c23))]]; rfl, rfl⟩ | exact ⟨by rw [show duF 0 v = 6 by simp only [duF, if_true]; rw [if_neg c3, if_neg (fun q => by rcases q with q | q | q; exact c11 q; exact c17 q; exact c23 q)]]; rfl, rfl⟩
    · refine V_iload_n hC dX3_behindOrder_14 rfl rfl ?_
      refine V_bipush hC 119 dX3_behindOrder_15 (by decide) ?_
      refine V_icmp_eq hC 26 dX3_behindOrder_17 (by decide) (fun c17 => ?_) (fun c17 => ?_)
      · refine V_iconst hC 3 dX3_behindOrder_26 (by decide) ?_
        refine V_goto hC 32 dX3_behindOrder_27 (by decide) ?_
        refine V_iret hC hR dX3_behindOrder_32 ⟨rfl, rfl, _, rfl, ?_⟩
        first | exact ⟨by rw [show duF 0 v = 3 by simp only [duF, if_true]; rw [if_neg c3, if_pos (Or.inl c11)]]; rfl, rfl⟩ | exact ⟨by rw [show duF 0 v = 3 by simp only [duF, if_true]; rw [if_neg c3, if_pos (Or.inr (Or.inl c17))]]; rfl, rfl⟩ | exact ⟨by rw [show duF 0 v = 3 by simp only [duF, if_true]; rw [if_neg c3, if_pos (Or.inr (Or.inr c23))]]; rfl, rfl⟩ | exact ⟨by rw [show duF 0 v = 6 by simp only [duF, if_true]; rw [if_neg c3, if_neg (fun q => by rcases q with q | q | q; exact c11 q; exact c17 q; exact c23 q)]]; rfl, rfl⟩
      · refine V_iload_n hC dX3_behindOrder_20 rfl rfl ?_
        refine V_bipush hC 115 dX3_behindOrder_21 (by decide) ?_
        refine V_icmp_ne hC 30 dX3_behindOrder_23 (by decide) (fun c23 => ?_) (fun c23 => ?_)
        · refine V_bipush hC 6 dX3_behindOrder_30 (by decide) ?_
          refine V_iret hC hR dX3_behindOrder_32 ⟨rfl, rfl, _, rfl, ?_⟩
          first | exact ⟨by rw [show duF 0 v = 3 by simp only [duF, if_true]; rw [if_neg c3, if_pos (Or.inl c11)]]; rfl, rfl⟩ | exact ⟨by rw [show duF 0 v = 3 by simp only [duF, if_true]; rw [if_neg c3, if_pos (Or.inr (Or.inl c17))]]; rfl, rfl⟩ | exact ⟨by rw [show duF 0 v = 3 by simp only [duF, if_true]; rw [if_neg c3, if_pos (Or.inr (Or.inr c23))]]; rfl, rfl⟩ | exact ⟨by rw [show duF 0 v = 6 by simp only [duF, if_true]; rw [if_neg c3, if_neg (fun q => by rcases q with q | q | q; exact c11 q; exact c17 q; exact c23 q)]]; rfl, rfl⟩
        · refine V_iconst hC 3 dX3_behindOrder_26 (by decide) ?_
          refine V_goto hC 32 dX3_behindOrder_27 (by decide) ?_
          refine V_iret hC hR dX3_behindOrder_32 ⟨rfl, rfl, _, rfl, ?_⟩
          first | exact ⟨by rw [show duF 0 v = 3 by simp only [duF, if_true]; rw [if_neg c3, if_pos (Or.inl c11)]]; rfl, rfl⟩ | exact ⟨by rw [show duF 0 v = 3 by simp only [duF, if_true]; rw [if_neg c3, if_pos (Or.inr (Or.inl c17))]]; rfl, rfl⟩ | exact ⟨by rw [show duF 0 v = 3 by simp only [duF, if_true]; rw [if_neg c3, if_pos (Or.inr (Or.inr c23))]]; rfl, rfl⟩ | exact ⟨by rw [show duF 0 v = 6 by simp only [duF, if_true]; rw [if_neg c3, if_neg (fun q => by rcases q with q | q | q; exact c11 q; exact c17 q; exact c23 q)]]; rfl, rfl⟩
  · refine V_iconst hC 1 dX3_behindOrder_6 (by decide) ?_
    refine V_iret hC hR dX3_behindOrder_7 ⟨rfl, rfl, _, rfl, ?_⟩
    exact ⟨by rw [show duF 0 v = 1 by simp [duF, c3]]; rfl, rfl⟩
abbrev rmX3_dueBehind : Room := { frames := 1, cells := 0, slots := 0, locals := 20 }
set_option maxHeartbeats 4000000 in
set_option maxRecDepth 100000 in
theorem c_X3_dueBehind (g : GE) (lau : Launch) {N : Nat} {ad : Nat → Nat} {f : Nat → va_E} {d : Nat} (hd : d ≤ 5) (v : Int32) : Ct g lau yX3_dueBehind wsX3_dueBehind rmX3_dueBehind N ad [.int (nI d), .int v] f (pI N ad (fun x u => x = nI (duF d v) ∧ u = f)) 0 0 := by
  refine Ct.of (maxL := 2) rfl (by decide +kernel) [some (.int (nI d)), some (.int v)] (Nat.le_of_ble_eq_true rfl) (by simp [lvo, lv_args, Value.category]) (fun E hnl _ hC hR => ?_)
  rcases (show d = 0 ∨ d = 1 ∨ d = 2 ∨ d = 3 ∨ d = 4 ∨ d = 5 by omega) with rfl | rfl | rfl | rfl | rfl | rfl
  · refine V_iload_n hC dX3_dueBehind_0 rfl rfl ?_
    refine V_tableIn hC 40 dX3_dueBehind_1 (by decide) (by decide) rfl (by decide) ?_
    refine V_iload_n hC dX3_dueBehind_40 rfl rfl ?_
    refine V_csI (n := 1) hC (c_X3_behindOrder g (eL E) v) dX3_dueBehind_41 gX3_dueBehind_X3_behindOrder rfl rfl rfl ⟨rfl, rfl⟩ (by decide +kernel) (by decide +kernel) (Nat.le_of_ble_eq_true rfl) (by decide) (fun x41 u41 h41 => ?_)
    obtain ⟨rfl, he⟩ := h41
    obtain rfl := he.symm
    refine V_iret hC hR dX3_dueBehind_44 ⟨rfl, rfl, _, rfl, ?_⟩
    exact ⟨rfl, rfl⟩
  · refine V_iload_n hC dX3_dueBehind_0 rfl rfl ?_
    refine V_tableIn hC 45 dX3_dueBehind_1 (by decide) (by decide) rfl (by decide) ?_
    refine V_iload_n hC dX3_dueBehind_45 rfl rfl ?_
    refine V_bipush hC 48 dX3_dueBehind_46 (by decide) ?_
    refine V_icmp_lt hC 61 dX3_dueBehind_48 (by decide) (fun c48 => ?_) (fun c48 => ?_)
    · refine V_bipush hC 6 dX3_dueBehind_61 (by decide) ?_
      refine V_iret hC hR dX3_dueBehind_63 ⟨rfl, rfl, _, rfl, ?_⟩
      refine ⟨?_, rfl⟩
      first | (rw [show duF 1 v = 2 by simp [duF, Int32.not_lt.mp c48, Int32.not_lt.mp c54]]; rfl) | (rw [show duF 1 v = 6 by simp [duF]; intro q; exact absurd q (Int32.not_le.mpr c48)]; rfl) | (rw [show duF 1 v = 6 by simp [duF]; intro _; exact c54]; rfl)
    · refine V_iload_n hC dX3_dueBehind_51 rfl rfl ?_
      refine V_bipush hC 55 dX3_dueBehind_52 (by decide) ?_
      refine V_icmp_gt hC 61 dX3_dueBehind_54 (by decide) (fun c54 => ?_) (fun c54 => ?_)
      · refine V_bipush hC 6 dX3_dueBehind_61 (by decide) ?_
        refine V_iret hC hR dX3_dueBehind_63 ⟨rfl, rfl, _, rfl, ?_⟩
        refine ⟨?_, rfl⟩
        first | (rw [show duF 1 v = 2 by simp [duF, Int32.not_lt.mp c48, Int32.not_lt.mp c54]]; rfl) | (rw [show duF 1 v = 6 by simp [duF]; intro q; exact absurd q (Int32.not_le.mpr c48)]; rfl) | (rw [show duF 1 v = 6 by simp [duF]; intro _; exact c54]; rfl)
      · refine V_iconst hC 2 dX3_dueBehind_57 (by decide) ?_
        refine V_goto hC 63 dX3_dueBehind_58 (by decide) ?_
        refine V_iret hC hR dX3_dueBehind_63 ⟨rfl, rfl, _, rfl, ?_⟩
        refine ⟨?_, rfl⟩
        first | (rw [show duF 1 v = 2 by simp [duF, Int32.not_lt.mp c48, Int32.not_lt.mp c54]]; rfl) | (rw [show duF 1 v = 6 by simp [duF]; intro q; exact absurd q (Int32.not_le.mpr c48)]; rfl) | (rw [show duF 1 v = 6 by simp [duF]; intro _; exact c54]; rfl)
  · refine V_iload_n hC dX3_dueBehind_0 rfl rfl ?_
    refine V_tableIn hC 64 dX3_dueBehind_1 (by decide) (by decide) rfl (by decide) ?_
    refine V_iload_n hC dX3_dueBehind_64 rfl rfl ?_
    refine V_bipush hC 61 dX3_dueBehind_65 (by decide) ?_
    refine V_icmp_ne hC 74 dX3_dueBehind_67 (by decide) (fun c67 => ?_) (fun c67 => ?_)
    · refine V_bipush hC 6 dX3_dueBehind_74 (by decide) ?_
      refine V_iret hC hR dX3_dueBehind_76 ⟨rfl, rfl, _, rfl, ?_⟩
      refine ⟨?_, rfl⟩
      first | (rw [show duF 2 v = 3 by simp [duF, c67]]; rfl) | (rw [show duF 2 v = 6 by simp [duF, c67]]; rfl)
    · refine V_iconst hC 3 dX3_dueBehind_70 (by decide) ?_
      refine V_goto hC 76 dX3_dueBehind_71 (by decide) ?_
      refine V_iret hC hR dX3_dueBehind_76 ⟨rfl, rfl, _, rfl, ?_⟩
      refine ⟨?_, rfl⟩
      first | (rw [show duF 2 v = 3 by simp [duF, c67]]; rfl) | (rw [show duF 2 v = 6 by simp [duF, c67]]; rfl)
  · refine V_iload_n hC dX3_dueBehind_0 rfl rfl ?_
    refine V_tableIn hC 77 dX3_dueBehind_1 (by decide) (by decide) rfl (by decide) ?_
    refine V_iload_n hC dX3_dueBehind_77 rfl rfl ?_
    refine V_bipush hC 48 dX3_dueBehind_78 (by decide) ?_
    refine V_icmp_ne hC 85 dX3_dueBehind_80 (by decide) (fun c80 => ?_) (fun c80 => ?_)
    · refine V_iload_n hC dX3_dueBehind_85 rfl rfl ?_
      refine V_csI (n := 1) hC (c_X3_isDigit g (eL E) v) dX3_dueBehind_86 gX3_dueBehind_X3_isDigit rfl rfl rfl ⟨rfl, rfl⟩ (by decide +kernel) (by decide +kernel) (Nat.le_of_ble_eq_true rfl) (by decide) (fun x86 u86 h86 => ?_)
      rcases h86 with ⟨rfl, hj, he⟩ | ⟨rfl, hj, he⟩
      · obtain rfl := he.symm
        refine V_if_eq_f (tgt := 96) hC dX3_dueBehind_89 (by decide) (by decide) ?_
        refine V_iconst hC 4 dX3_dueBehind_92 (by decide) ?_
        refine V_goto hC 98 dX3_dueBehind_93 (by decide) ?_
        refine V_iret hC hR dX3_dueBehind_98 ⟨rfl, rfl, _, rfl, ?_⟩
        refine ⟨?_, rfl⟩
        first | (rw [show duF 3 v = 4 by simp [duF, c80, hj]]; rfl) | (rw [show duF 3 v = 6 by simp [duF, c80, hj]]; rfl)
      · obtain rfl := he.symm
        refine V_if_eq_t hC 96 dX3_dueBehind_89 (by decide) rfl ?_
        refine V_bipush hC 6 dX3_dueBehind_96 (by decide) ?_
        refine V_iret hC hR dX3_dueBehind_98 ⟨rfl, rfl, _, rfl, ?_⟩
        refine ⟨?_, rfl⟩
        first | (rw [show duF 3 v = 4 by simp [duF, c80, hj]]; rfl) | (rw [show duF 3 v = 6 by simp [duF, c80, hj]]; rfl)
    · refine V_iconst hC 5 dX3_dueBehind_83 (by decide) ?_
      refine V_iret hC hR dX3_dueBehind_84 ⟨rfl, rfl, _, rfl, ?_⟩
      refine ⟨?_, rfl⟩
      rw [show duF 3 v = 5 by simp [duF, c80]]
      rfl
  · refine V_iload_n hC dX3_dueBehind_0 rfl rfl ?_
    refine V_tableIn hC 99 dX3_dueBehind_1 (by decide) (by decide) rfl (by decide) ?_
    refine V_iload_n hC dX3_dueBehind_99 rfl rfl ?_
    refine V_csI (n := 1) hC (c_X3_isDigit g (eL E) v) dX3_dueBehind_100 gX3_dueBehind_X3_isDigit rfl rfl rfl ⟨rfl, rfl⟩ (by decide +kernel) (by decide +kernel) (Nat.le_of_ble_eq_true rfl) (by decide) (fun x100 u100 h100 => ?_)
    rcases h100 with ⟨rfl, hj, he⟩ | ⟨rfl, hj, he⟩
    · obtain rfl := he.symm
      refine V_if_eq_f (tgt := 108) hC dX3_dueBehind_103 (by decide) (by decide) ?_
      refine V_iconst hC 5 dX3_dueBehind_106 (by decide) ?_
      refine V_iret hC hR dX3_dueBehind_107 ⟨rfl, rfl, _, rfl, ?_⟩
      refine ⟨?_, rfl⟩
      rw [show duF 4 v = 5 by simp [duF, hj]]
      rfl
    · obtain rfl := he.symm
      refine V_if_eq_t hC 108 dX3_dueBehind_103 (by decide) rfl ?_
      refine V_iload_n hC dX3_dueBehind_108 rfl rfl ?_
      refine V_bipush hC 59 dX3_dueBehind_109 (by decide) ?_
      refine V_icmp_ne hC 118 dX3_dueBehind_111 (by decide) (fun c111 => ?_) (fun c111 => ?_)
      · refine V_bipush hC 6 dX3_dueBehind_118 (by decide) ?_
        refine V_iret hC hR dX3_dueBehind_120 ⟨rfl, rfl, _, rfl, ?_⟩
        refine ⟨?_, rfl⟩
        first | (subst c111; rfl) | (rw [show duF 4 v = 6 by simp [duF, hj, c111]]; rfl)
      · refine V_iconst hC 0 dX3_dueBehind_114 (by decide) ?_
        refine V_goto hC 120 dX3_dueBehind_115 (by decide) ?_
        refine V_iret hC hR dX3_dueBehind_120 ⟨rfl, rfl, _, rfl, ?_⟩
        refine ⟨?_, rfl⟩
        first | (subst c111; rfl) | (rw [show duF 4 v = 6 by simp [duF, hj, c111]]; rfl)
  · refine V_iload_n hC dX3_dueBehind_0 rfl rfl ?_
    refine V_tableIn hC 121 dX3_dueBehind_1 (by decide) (by decide) rfl (by decide) ?_
    refine V_iload_n hC dX3_dueBehind_121 rfl rfl ?_
    refine V_bipush hC 59 dX3_dueBehind_122 (by decide) ?_
    refine V_icmp_ne hC 131 dX3_dueBehind_124 (by decide) (fun c124 => ?_) (fun c124 => ?_)
    · refine V_bipush hC 6 dX3_dueBehind_131 (by decide) ?_
      refine V_iret hC hR dX3_dueBehind_133 ⟨rfl, rfl, _, rfl, ?_⟩
      refine ⟨?_, rfl⟩
      first | (rw [show duF 5 v = 0 by simp [duF, c124]]; rfl) | (rw [show duF 5 v = 6 by simp [duF, c124]]; rfl)
    · refine V_iconst hC 0 dX3_dueBehind_127 (by decide) ?_
      refine V_goto hC 133 dX3_dueBehind_128 (by decide) ?_
      refine V_iret hC hR dX3_dueBehind_133 ⟨rfl, rfl, _, rfl, ?_⟩
      refine ⟨?_, rfl⟩
      first | (rw [show duF 5 v = 0 by simp [duF, c124]]; rfl) | (rw [show duF 5 v = 6 by simp [duF, c124]]; rfl)
theorem inX3_X3_firstFault : ∀ w ∈ wsX30, w ∈ wsX3_firstFault := by decide +kernel
abbrev rmX3_firstFault : Room := { frames := 2, cells := 0, slots := 0, locals := 41 }
set_option maxHeartbeats 4000000 in
set_option maxRecDepth 100000 in
theorem c_X3_firstFault (g : GE) (lau : Launch) {N : Nat} {ad : Nat → Nat} {f : Nat → va_E} {z : Nat} (hN : z + 2 ≤ N) {p : List Int32} (hP : PAt g ad z p f) : Ct g lau yX3_firstFault wsX3_firstFault rmX3_firstFault N ad [.ref (ad z)] f (pI N ad (fun x u => x = autoF 0 0 p ∧ u = f)) 0 0 := by
  refine Ct.of (maxL := 3) rfl (by decide +kernel) [some (.ref (ad z)), none, none] (Nat.le_of_ble_eq_true rfl) (by simp [lvo, lv_args, Value.category]) (fun E hnl _ hC hR => ?_)
  obtain ⟨sg, h1, h2, h3⟩ := id hP
  have h60 := h3.2.1
  have loop : ∀ (l pre : List Int32) (d : Nat), d ≤ 5 → pre ++ l = p → autoF d pre.length l = autoF 0 0 p → V E g N ad 0 0 f 4 [some (.ref (ad z)), some (.int (nI d)), some (.int (nI pre.length))] [] := by
    intro l
    induction l with
    | nil =>
      intro pre d hd hp ha
      rw [List.append_nil] at hp
      subst hp
      refine V_iload_n hC dX3_firstFault_4 rfl rfl ?_
      refine V_aload_n hC dX3_firstFault_5 rfl rfl ?_
      refine V_get hC 1 dX3_firstFault_6 (by omega) h1 rfl (by decide) inX3_X3_firstFault (by decide +kernel) rfl ?_
      refine V_icmp_ge_t hC 37 dX3_firstFault_9 (by decide) (Int32.le_refl _) ?_
      refine V_iload_n hC dX3_firstFault_37 rfl rfl ?_
      refine V_iconst hC 4 dX3_firstFault_38 (by decide) ?_
      refine V_icmp_eq hC 47 dX3_firstFault_39 (by decide) (fun c39 => ?_) (fun c39 => ?_)
      · have e : d = 4 := (nI_eq (b := 4) (by omega) (by decide)).mp c39
        refine V_bipush hC (-6) dX3_firstFault_47 (by decide) ?_
        refine V_goto hC 56 dX3_firstFault_49 (by decide) ?_
        refine V_iret hC hR dX3_firstFault_56 ⟨rfl, rfl, _, rfl, ?_⟩
        rw [← ha]
        first | exact ⟨by rw [autoF, if_pos (Or.inl e)], rfl⟩ | exact ⟨by rw [autoF, if_pos (Or.inr e)], rfl⟩ | exact ⟨by rw [autoF, if_neg (fun q => by rcases q with q | q; exact c39 (by rw [q]; rfl); exact c44 (by rw [q]; rfl))], rfl⟩
      · refine V_iload_n hC dX3_firstFault_42 rfl rfl ?_
        refine V_iconst hC 5 dX3_firstFault_43 (by decide) ?_
        refine V_icmp_ne hC 52 dX3_firstFault_44 (by decide) (fun c44 => ?_) (fun c44 => ?_)
        · refine V_aload_n hC dX3_firstFault_52 rfl rfl ?_
          refine V_get hC 1 dX3_firstFault_53 (by omega) h1 rfl (by decide) inX3_X3_firstFault (by decide +kernel) rfl ?_
          refine V_iret hC hR dX3_firstFault_56 ⟨rfl, rfl, _, rfl, ?_⟩
          rw [← ha]
          first | exact ⟨by rw [autoF, if_pos (Or.inl e)], rfl⟩ | exact ⟨by rw [autoF, if_pos (Or.inr e)], rfl⟩ | exact ⟨by rw [autoF, if_neg (fun q => by rcases q with q | q; exact c39 (by rw [q]; rfl); exact c44 (by rw [q]; rfl))], rfl⟩
        · have e : d = 5 := (nI_eq (b := 5) (by omega) (by decide)).mp c44
          refine V_bipush hC (-6) dX3_firstFault_47 (by decide) ?_
          refine V_goto hC 56 dX3_firstFault_49 (by decide) ?_
          refine V_iret hC hR dX3_firstFault_56 ⟨rfl, rfl, _, rfl, ?_⟩
          rw [← ha]
          first | exact ⟨by rw [autoF, if_pos (Or.inl e)], rfl⟩ | exact ⟨by rw [autoF, if_pos (Or.inr e)], rfl⟩ | exact ⟨by rw [autoF, if_neg (fun q => by rcases q with q | q; exact c39 (by rw [q]; rfl); exact c44 (by rw [q]; rfl))], rfl⟩
    | cons c t ih =>
      intro pre d hd hp ha
      have hl : pre.length < p.length := by rw [← hp]; simp
      have ec : sg pre.length = c := h3.2.2 _ _ (by rw [← hp]; exact cut_m)
      refine V_iload_n hC dX3_firstFault_4 rfl rfl ?_
      refine V_aload_n hC dX3_firstFault_5 rfl rfl ?_
      refine V_get hC 1 dX3_firstFault_6 (by omega) h1 rfl (by decide) inX3_X3_firstFault (by decide +kernel) rfl ?_
      refine V_icmp_ge_f (tgt := 37) hC dX3_firstFault_9 (by decide) (nI_ge hl (by omega)) ?_
      refine V_iload_n hC dX3_firstFault_12 rfl rfl ?_
      refine V_aload_n hC dX3_firstFault_13 rfl rfl ?_
      refine V_get hC 0 dX3_firstFault_14 (by omega) h1 rfl (by decide) inX3_X3_firstFault (by decide +kernel) rfl ?_
      refine V_iload_n hC dX3_firstFault_17 rfl rfl ?_
      refine V_cald hC dX3_firstFault_18 (by omega) h2 (ix_nI (j := pre.length) (by omega) (by decide)) ?_
      refine V_eqt (c) ec ?_
      refine V_csI (n := 2) hC (c_X3_dueBehind g (eL E) hd c) dX3_firstFault_19 gX3_firstFault_X3_dueBehind rfl rfl rfl ⟨rfl, rfl⟩ (by decide +kernel) (by decide +kernel) (Nat.le_of_ble_eq_true rfl) (by decide) (fun x19 u19 h19 => ?_)
      obtain ⟨rfl, he⟩ := h19
      obtain rfl := he.symm
      refine V_istore_n1 hC dX3_firstFault_22 rfl (by rw [hnl]; decide) rfl ?_
      refine V_iload_n hC dX3_firstFault_23 rfl rfl ?_
      refine V_bipush hC 6 dX3_firstFault_24 (by decide) ?_
      refine V_icmp_ne hC 31 dX3_firstFault_26 (by decide) (fun c26 => ?_) (fun c26 => ?_)
      · have h6 : ¬ duF d c = 6 := fun q => c26 (by rw [q]; rfl)
        refine V_iinc2 hC (nI (pre ++ [c]).length) dX3_firstFault_31 len_s (by rw [hnl]; decide) rfl ?_
        refine V_goto hC 4 dX3_firstFault_34 (by decide) ?_
        refine ih (pre ++ [c]) _ (by have := duF_le d c; omega) (by rw [List.append_assoc]; exact hp) ?_
        rw [← ha, autoF, if_neg h6, List.length_append]
        rfl
      · have h6 : duF d c = 6 := (nI_eq (b := 6) (by have := duF_le d c; omega) (by decide)).mp c26
        refine V_iload_n hC dX3_firstFault_29 rfl rfl ?_
        refine V_iret hC hR dX3_firstFault_30 ⟨rfl, rfl, _, rfl, ?_⟩
        exact ⟨by rw [← ha, autoF, if_pos h6], rfl⟩
  refine V_iconst hC 0 dX3_firstFault_0 (by decide) ?_
  refine V_istore_n1 hC dX3_firstFault_1 rfl (by rw [hnl]; decide) rfl ?_
  refine V_iconst hC 0 dX3_firstFault_2 (by decide) ?_
  refine V_istore_n2 hC dX3_firstFault_3 rfl (by rw [hnl]; decide) rfl ?_
  exact loop p [] 0 (by decide) rfl rfl
theorem inX3_X3_empty : ∀ w ∈ wsX30, w ∈ wsX3_empty := by decide +kernel
abbrev rmX3_empty : Room := { frames := 0, cells := 0, slots := 0, locals := 0 }
set_option maxHeartbeats 4000000 in
set_option maxRecDepth 100000 in
theorem c_X3_empty (g : GE) (lau : Launch) {N : Nat} {ad : Nat → Nat} {f : Nat → va_E} {z : Nat} (hN : z + 2 ≤ N) {p : List Int32} (hP : PAt g ad z p f) : Ct g lau yX3_empty wsX3_empty rmX3_empty N ad [.ref (ad z)] f (pI N ad (fun x u => x = nI p.length ∧ PAt g ad z [] u ∧ ∀ q, (q < z ∨ z + 2 ≤ q) → u q = f q)) 0 0 := by
  refine Ct.of (maxL := 2) rfl (by decide +kernel) [some (.ref (ad z)), none] (Nat.le_of_ble_eq_true rfl) (by simp [lvo, lv_args, Value.category]) (fun E hnl _ hC hR => ?_)
  obtain ⟨sg, h1, h2, h3⟩ := id hP
  refine V_aload_n hC dX3_empty_0 rfl rfl ?_
  refine V_get hC 1 dX3_empty_1 (by omega) h1 rfl (by decide) inX3_X3_empty (by decide +kernel) rfl ?_
  refine V_istore_n1 hC dX3_empty_4 rfl (by rw [hnl]; decide) rfl ?_
  refine V_aload_n hC dX3_empty_5 rfl rfl ?_
  refine V_iconst hC 0 dX3_empty_6 (by decide) ?_
  refine V_put hC (ty := .int) 1 dX3_empty_7 (by omega) h1 rfl (by decide) inX3_X3_empty (by decide +kernel) tyX3_ok nmX3 rfl rfl rfl rfl (by simp) ?_
  refine V_iload_n hC dX3_empty_10 rfl rfl ?_
  refine V_iret hC hR dX3_empty_11 ⟨rfl, rfl, _, rfl, ?_⟩
  refine ⟨rfl, ⟨sg, va_up_self _ _ _, (va_up_ne _ _ (by omega)).trans h2, rfl, Nat.zero_le _, fun j x hj => by simp at hj⟩, fun q hq => va_up_ne _ _ (by omega)⟩
theorem inX3_X3_signAt : ∀ w ∈ wsX30, w ∈ wsX3_signAt := by decide +kernel
abbrev rmX3_signAt : Room := { frames := 0, cells := 0, slots := 0, locals := 0 }
set_option maxHeartbeats 4000000 in
set_option maxRecDepth 100000 in
theorem c_X3_signAt (g : GE) (lau : Launch) {N : Nat} {ad : Nat → Nat} {f : Nat → va_E} {z : Nat} (hN : z + 2 ≤ N) {p : List Int32} (hP : PAt g ad z p f) (hpo : padOK p) {i : Nat} (hi : i < 200) : Ct g lau yX3_signAt wsX3_signAt rmX3_signAt N ad [.ref (ad z), .int (nI i)] f (pI N ad (fun x u => x = sgn p i ∧ u = f)) 0 0 := by
  refine Ct.of (maxL := 2) rfl (by decide +kernel) [some (.ref (ad z)), some (.int (nI i))] (Nat.le_of_ble_eq_true rfl) (by simp [lvo, lv_args, Value.category]) (fun E hnl _ hC hR => ?_)
  obtain ⟨sg, h1, h2, h3⟩ := id hP
  have h60 := h3.2.1
  refine V_iload_n hC dX3_signAt_0 rfl rfl ?_
  refine V_if_lt_f (tgt := 21) hC dX3_signAt_1 (by decide) (nI_pos (by omega)) ?_
  refine V_iload_n hC dX3_signAt_4 rfl rfl ?_
  refine V_aload_n hC dX3_signAt_5 rfl rfl ?_
  refine V_get hC 1 dX3_signAt_6 (by omega) h1 rfl (by decide) inX3_X3_signAt (by decide +kernel) rfl ?_
  refine V_icmp_ge hC 21 dX3_signAt_9 (by decide) (fun c9 => ?_) (fun c9 => ?_)
  · have hs : sgn p i = 59 := by have : p.length ≤ i := (nI_leI (by omega) (by omega)).mp c9; unfold sgn; rw [List.getD_eq_getElem?_getD, List.getElem?_eq_none this]; rfl
    refine V_bipush hC 59 dX3_signAt_21 (by decide) ?_
    refine V_eqt (sgn p i) hs.symm ?_
    refine V_zret hC hR (by first | exact hn | (rw [hs]; rfl)) dX3_signAt_23 ⟨rfl, rfl, _, rfl, ?_⟩
    exact ⟨rfl, rfl⟩
  · have hl : i < p.length := by rcases Nat.lt_or_ge i p.length with q | q; exact q; exact absurd (nI_le q (by omega)) c9
    have hs : sgn p i = p[i] := by unfold sgn; rw [List.getD_eq_getElem?_getD, List.getElem?_eq_getElem hl]; rfl
    have es : sg i = sgn p i := by rw [hs]; exact h3.2.2 _ _ (List.getElem?_eq_getElem hl)
    have hn : narrow .char (.int (sgn p i)) = .int (sgn p i) := nar_c (by rw [hs]; exact hpo _ (List.getElem_mem hl))
    refine V_aload_n hC dX3_signAt_12 rfl rfl ?_
    refine V_get hC 0 dX3_signAt_13 (by omega) h1 rfl (by decide) inX3_X3_signAt (by decide +kernel) rfl ?_
    refine V_iload_n hC dX3_signAt_16 rfl rfl ?_
    refine V_cald hC dX3_signAt_17 (by omega) h2 (ix_nI (j := i) (by omega) (by decide)) ?_
    refine V_eqt (sgn p i) es ?_
    refine V_goto hC 23 dX3_signAt_18 (by decide) ?_
    refine V_zret hC hR (by first | exact hn | (rw [hs]; rfl)) dX3_signAt_23 ⟨rfl, rfl, _, rfl, ?_⟩
    exact ⟨rfl, rfl⟩
theorem inX3_X3_isOrder : ∀ w ∈ wsX30, w ∈ wsX3_isOrder := by decide +kernel
abbrev rmX3_isOrder : Room := { frames := 1, cells := 0, slots := 0, locals := 21 }
set_option maxHeartbeats 4000000 in
set_option maxRecDepth 100000 in
theorem c_X3_isOrder (g : GE) (lau : Launch) {N : Nat} {ad : Nat → Nat} {f : Nat → va_E} {z : Nat} (hN : z + 2 ≤ N) {p : List Int32} (hP : PAt g ad z p f) (hpo : padOK p) {i : Nat} (hi : i < 200) : Ct g lau yX3_isOrder wsX3_isOrder rmX3_isOrder N ad [.ref (ad z), .int (nI i)] f (pI N ad (fun x u => (x = 1 ∧ (i = 0 ∨ sgn p (i - 1) = 59) ∧ u = f) ∨ (x = 0 ∧ ¬ (i = 0 ∨ sgn p (i - 1) = 59) ∧ u = f))) 0 0 := by
  refine Ct.of (maxL := 2) rfl (by decide +kernel) [some (.ref (ad z)), some (.int (nI i))] (Nat.le_of_ble_eq_true rfl) (by simp [lvo, lv_args, Value.category]) (fun E hnl _ hC hR => ?_)
  obtain ⟨sg, h1, h2, h3⟩ := id hP
  refine V_iload_n hC dX3_isOrder_0 rfl rfl ?_
  refine V_if_eq hC 16 dX3_isOrder_1 (by decide) (fun c1 => ?_) (fun c1 => ?_)
  · have e : i = 0 := (nI_eq (b := 0) (by omega) (by decide)).mp c1
    refine V_iconst hC 1 dX3_isOrder_16 (by decide) ?_
    refine V_goto hC 21 dX3_isOrder_17 (by decide) ?_
    refine V_zret hC hR rfl dX3_isOrder_21 ⟨rfl, rfl, _, rfl, ?_⟩
    first | exact Or.inl ⟨rfl, Or.inl e, rfl⟩ | exact Or.inl ⟨rfl, Or.inr c13, rfl⟩ | exact Or.inr ⟨rfl, fun q => by rcases q with q | q; omega; exact c13 q, rfl⟩
  · have h0 : 0 < i := by rcases Nat.eq_zero_or_pos i with q | q; exact absurd (by rw [q]; rfl) c1; exact q
    refine V_aload_n hC dX3_isOrder_4 rfl rfl ?_
    refine V_iload_n hC dX3_isOrder_5 rfl rfl ?_
    refine V_iconst hC 1 dX3_isOrder_6 (by decide) ?_
    refine V_isub hC dX3_isOrder_7 ?_
    refine V_eqt (nI (i - 1)) (by rw [show (1 : Int32) = nI 1 from rfl, pk_sub (by omega)]) ?_
    refine V_cvI (n := 1) hC (c_X3_signAt g (eL E) hN hP hpo (i := i - 1) (by omega)) dX3_isOrder_8 gX3_isOrder_X3_signAt rfl rfl rfl ⟨rfl, rfl⟩ (by decide +kernel) (by decide +kernel) (by omega) h1 rfl (Nat.le_of_ble_eq_true rfl) (by decide) (fun x8 u8 h8 => ?_)
    obtain ⟨rfl, he⟩ := h8
    obtain rfl := he.symm
    refine V_bipush hC 59 dX3_isOrder_11 (by decide) ?_
    refine V_icmp_ne hC 20 dX3_isOrder_13 (by decide) (fun c13 => ?_) (fun c13 => ?_)
    · refine V_iconst hC 0 dX3_isOrder_20 (by decide) ?_
      refine V_zret hC hR rfl dX3_isOrder_21 ⟨rfl, rfl, _, rfl, ?_⟩
      first | exact Or.inl ⟨rfl, Or.inl e, rfl⟩ | exact Or.inl ⟨rfl, Or.inr c13, rfl⟩ | exact Or.inr ⟨rfl, fun q => by rcases q with q | q; omega; exact c13 q, rfl⟩
    · refine V_iconst hC 1 dX3_isOrder_16 (by decide) ?_
      refine V_goto hC 21 dX3_isOrder_17 (by decide) ?_
      refine V_zret hC hR rfl dX3_isOrder_21 ⟨rfl, rfl, _, rfl, ?_⟩
      first | exact Or.inl ⟨rfl, Or.inl e, rfl⟩ | exact Or.inl ⟨rfl, Or.inr c13, rfl⟩ | exact Or.inr ⟨rfl, fun q => by rcases q with q | q; omega; exact c13 q, rfl⟩
theorem inX3_X3_numberAt : ∀ w ∈ wsX30, w ∈ wsX3_numberAt := by decide +kernel
abbrev rmX3_numberAt : Room := { frames := 1, cells := 0, slots := 0, locals := 21 }
set_option maxHeartbeats 4000000 in
set_option maxRecDepth 100000 in
theorem c_X3_numberAt (g : GE) (lau : Launch) {N : Nat} {ad : Nat → Nat} {f : Nat → va_E} {z : Nat} (hN : z + 2 ≤ N) {p : List Int32} (hP : PAt g ad z p f) (hpo : padOK p) {i : Nat} (hi : i < 100) : Ct g lau yX3_numberAt wsX3_numberAt rmX3_numberAt N ad [.ref (ad z), .int (nI i)] f (pI N ad (fun x u => x = numL 0 (p.drop i) ∧ u = f)) 0 0 := by
  refine Ct.of (maxL := 4) rfl (by decide +kernel) [some (.ref (ad z)), some (.int (nI i)), none, none] (Nat.le_of_ble_eq_true rfl) (by simp [lvo, lv_args, Value.category]) (fun E hnl _ hC hR => ?_)
  obtain ⟨sg, h1, h2, h3⟩ := id hP
  have h60 := h3.2.1
  have loop : ∀ (l : List Int32) (k : Nat) (acc : Int32), k < 200 → p.drop k = l → numL acc l = numL 0 (p.drop i) → V E g N ad 0 0 f 4 [some (.ref (ad z)), some (.int (nI i)), some (.int (acc)), some (.int (nI k))] [] := by
    intro l
    induction l with
    | nil =>
      intro k acc hk hd ha
      have hl : p.length ≤ k := List.drop_eq_nil_iff.mp hd
      refine V_iload_n hC dX3_numberAt_4 rfl rfl ?_
      refine V_aload_n hC dX3_numberAt_5 rfl rfl ?_
      refine V_get hC 1 dX3_numberAt_6 (by omega) h1 rfl (by decide) inX3_X3_numberAt (by decide +kernel) rfl ?_
      refine V_icmp_ge_t hC 43 dX3_numberAt_9 (by decide) (nI_le hl (by omega)) ?_
      refine V_iload_n hC dX3_numberAt_43 rfl rfl ?_
      refine V_iret hC hR dX3_numberAt_44 ⟨rfl, rfl, _, rfl, ?_⟩
      exact ⟨ha, rfl⟩
    | cons c t ih =>
      intro k acc hk hd ha
      have hl : k < p.length := by rcases Nat.lt_or_ge k p.length with q | q; exact q; rw [List.drop_eq_nil_of_le q] at hd; cases hd
      have hdk := List.drop_eq_getElem_cons hl
      rw [hd] at hdk
      have ec : c = p[k] := (List.cons.inj hdk).1
      have et : t = p.drop (k + 1) := (List.cons.inj hdk).2
      have hs : sgn p k = c := by unfold sgn; rw [List.getD_eq_getElem?_getD, List.getElem?_eq_getElem hl, ec]; rfl
      refine V_iload_n hC dX3_numberAt_4 rfl rfl ?_
      refine V_aload_n hC dX3_numberAt_5 rfl rfl ?_
      refine V_get hC 1 dX3_numberAt_6 (by omega) h1 rfl (by decide) inX3_X3_numberAt (by decide +kernel) rfl ?_
      refine V_icmp_ge_f (tgt := 43) hC dX3_numberAt_9 (by decide) (nI_ge hl (by omega)) ?_
      refine V_aload_n hC dX3_numberAt_12 rfl rfl ?_
      refine V_iload_n hC dX3_numberAt_13 rfl rfl ?_
      refine V_cvI (n := 1) hC (c_X3_signAt g (eL E) hN hP hpo (i := k) hk) dX3_numberAt_14 gX3_numberAt_X3_signAt rfl rfl rfl ⟨rfl, rfl⟩ (by decide +kernel) (by decide +kernel) (by omega) h1 rfl (Nat.le_of_ble_eq_true rfl) (by decide) (fun x14 u14 h14 => ?_)
      obtain ⟨rfl, he⟩ := h14
      obtain rfl := he.symm
      refine V_eqt c hs ?_
      refine V_csI (n := 1) hC (c_X3_isDigit g (eL E) c) dX3_numberAt_17 gX3_numberAt_X3_isDigit rfl rfl rfl ⟨rfl, rfl⟩ (by decide +kernel) (by decide +kernel) (Nat.le_of_ble_eq_true rfl) (by decide) (fun x17 u17 h17 => ?_)
      rcases h17 with ⟨rfl, hj, he⟩ | ⟨rfl, hj, he⟩
      · obtain rfl := he.symm
        refine V_if_eq_f (tgt := 43) hC dX3_numberAt_20 (by decide) (by decide) ?_
        refine V_bipush hC 10 dX3_numberAt_23 (by decide) ?_
        refine V_iload_n hC dX3_numberAt_25 rfl rfl ?_
        refine V_imul hC dX3_numberAt_26 ?_
        refine V_aload_n hC dX3_numberAt_27 rfl rfl ?_
        refine V_iload_n hC dX3_numberAt_28 rfl rfl ?_
        refine V_cvI (n := 1) hC (c_X3_signAt g (eL E) hN hP hpo (i := k) hk) dX3_numberAt_29 gX3_numberAt_X3_signAt rfl rfl rfl ⟨rfl, rfl⟩ (by decide +kernel) (by decide +kernel) (by omega) h1 rfl (Nat.le_of_ble_eq_true rfl) (by decide) (fun x29 u29 h29 => ?_)
        obtain ⟨rfl, he⟩ := h29
        obtain rfl := he.symm
        refine V_eqt c hs ?_
        refine V_bipush hC 48 dX3_numberAt_32 (by decide) ?_
        refine V_isub hC dX3_numberAt_34 ?_
        refine V_iadd hC dX3_numberAt_35 ?_
        refine V_istore_n2 hC dX3_numberAt_36 rfl (by rw [hnl]; decide) rfl ?_
        refine V_iinc3 hC (nI (k + 1)) dX3_numberAt_37 (nI_1 k) (by rw [hnl]; decide) rfl ?_
        refine V_goto hC 4 dX3_numberAt_40 (by decide) ?_
        exact ih (k + 1) _ (by omega) et.symm (by rw [← ha, numL, if_pos hj])
      · obtain rfl := he.symm
        refine V_if_eq_t hC 43 dX3_numberAt_20 (by decide) rfl ?_
        refine V_iload_n hC dX3_numberAt_43 rfl rfl ?_
        refine V_iret hC hR dX3_numberAt_44 ⟨rfl, rfl, _, rfl, ?_⟩
        exact ⟨by rw [← ha, numL, hj]; rfl, rfl⟩
  refine V_iconst hC 0 dX3_numberAt_0 (by decide) ?_
  refine V_istore_n2 hC dX3_numberAt_1 rfl (by rw [hnl]; decide) rfl ?_
  refine V_iload_n hC dX3_numberAt_2 rfl rfl ?_
  refine V_istore_n3 hC dX3_numberAt_3 rfl (by rw [hnl]; decide) rfl ?_
  exact loop (p.drop i) i 0 (by omega) rfl rfl
