theorem nI_and {n : Nat} : nI n &&& 255 = nI (n % 256) := by
  apply Int32.toBitVec_inj.mp
  have e : ∀ k : Nat, (nI k).toBitVec = BitVec.ofNat 32 k := fun k => rfl
  rw [Int32.toBitVec_and, e, e, show (255 : Int32).toBitVec = BitVec.ofNat 32 255 from rfl]
  apply BitVec.eq_of_toNat_eq
  rw [BitVec.toNat_and, BitVec.toNat_ofNat, BitVec.toNat_ofNat, BitVec.toNat_ofNat, show 255 % 2 ^ 32 = 2 ^ 8 - 1 from rfl, Nat.and_two_pow_sub_one_eq_mod]
  omega
/-- the character that stands k places before the last one -/
def byC (C k : Nat) : Nat := C / 256 ^ k % 256
theorem byC_lt (C k : Nat) : byC C k < 256 := Nat.mod_lt _ (by decide)
theorem byt_c {C k : Nat} (h : C < 2 ^ 64) (hk : k < 8) : ((((lN C).toUInt64 >>> (((8 : Int32) * nI k).toInt64.toUInt64 &&& Int64.toUInt64 63)).toInt64)).toInt32 &&& 255 = nI (byC C k) := by
  rw [show (8 : Int32) = nI 8 from rfl, pk_mul, wb_shr h (by omega), lN_i, nI_and, Nat.pow_mul]
  rfl
theorem i2c_p : ∀ b : Fin 256, ((nI b.val).toUInt32 % 65536).toInt32 = nI b.val := by decide +kernel
theorem nar_p (b : Nat) (h : b < 256) : vp_nar .char (nI b) = nI b := by
  unfold vp_nar
  rw [nar_cn (by omega)]
theorem byC_0 {C k : Nat} (h : byC C k = 0) (h2 : C / 256 ^ (k + 1) = 0) : C / 256 ^ k = 0 := by
  unfold byC at h
  rw [Nat.pow_succ, ← Nat.div_div_eq_div_mul] at h2
  omega
theorem byC_n {C k i : Nat} (hk : k ≤ i) (h : C / 256 ^ k = 0) : byC C i = 0 := by
  unfold byC
  have h1 : C / 256 ^ i ≤ C / 256 ^ k := Nat.div_le_div_left (Nat.pow_le_pow_right (by decide) hk) (Nat.pow_pos (by decide))
  rw [h] at h1
  rw [Nat.le_zero.mp h1]
/-- how many characters; 0 if they can't be put -/
def hmB (C : Nat) : Nat := if C / 256 ^ cntB 8 C ≠ 0 ∨ okB 8 C = false then 0 else cntB 8 C
theorem hmB_0 (C : Nat) : hmB C = 0 ↔ (cntB 8 C = 0 ∨ C / 256 ^ cntB 8 C ≠ 0 ∨ okB 8 C = false) := by
  unfold hmB
  split
  · rename_i h
    exact ⟨fun _ => Or.inr h, fun _ => rfl⟩
  · rename_i h
    exact ⟨fun q => Or.inl q, fun q => by rcases q with q | q; exact q; exact absurd q h⟩
theorem hmB_n {C : Nat} (h : hmB C ≠ 0) : hmB C = cntB 8 C := by
  unfold hmB at h ⊢
  split
  · rename_i q
    rw [if_pos q] at h
    exact absurd rfl h
  · rfl
abbrev rmX3_codeAt : Room := { frames := 0, cells := 0, slots := 0, locals := 0 }
set_option maxHeartbeats 4000000 in
set_option maxRecDepth 100000 in
theorem c_X3_codeAt (g : GE) (lau : Launch) {N : Nat} {ad : Nat → Nat} {f : Nat → va_E} {C k : Nat} (hC64 : C < 2 ^ 64) (hk : k < 8) : Ct g lau yX3_codeAt wsX3_codeAt rmX3_codeAt N ad [.long (lN C), .int (nI k)] f (pI N ad (fun x u => x = nI (byC C k) ∧ u = f)) 0 0 := by
  refine Ct.of (maxL := 3) rfl (by decide +kernel) [some (.long (lN C)), none, some (.int (nI k))] (Nat.le_of_ble_eq_true rfl) (by simp [lvo, lv_args, Value.category]) (fun E hnl _ hC hR => ?_)
  refine V_lload_n hC dX3_codeAt_0 rfl rfl ?_
  refine V_bipush hC 8 dX3_codeAt_1 (by decide) ?_
  refine V_iload_n hC dX3_codeAt_3 rfl rfl ?_
  refine V_imul hC dX3_codeAt_4 ?_
  refine V_lushr hC dX3_codeAt_5 ?_
  refine V_l2i hC dX3_codeAt_6 ?_
  refine V_sipush hC 255 dX3_codeAt_7 (by decide) ?_
  refine V_iand hC dX3_codeAt_10 ?_
  refine V_eqt (nI (byC C k)) (byt_c hC64 hk) ?_
  refine V_iret hC hR dX3_codeAt_11 ⟨rfl, rfl, _, rfl, ?_⟩
  exact ⟨rfl, rfl⟩
abbrev rmX3_howMany : Room := { frames := 1, cells := 0, slots := 0, locals := 22 }
set_option maxHeartbeats 4000000 in
set_option maxRecDepth 100000 in
theorem c_X3_howMany (g : GE) (lau : Launch) {N : Nat} {ad : Nat → Nat} {f : Nat → va_E} {C : Nat} (hC64 : C < 2 ^ 64) : Ct g lau yX3_howMany wsX3_howMany rmX3_howMany N ad [.long (lN C)] f (pI N ad (fun x u => x = nI (hmB C) ∧ u = f)) 0 0 := by
  refine Ct.of (maxL := 4) rfl (by decide +kernel) [some (.long (lN C)), none, none, none] (Nat.le_of_ble_eq_true rfl) (by simp [lvo, lv_args, Value.category]) (fun E hnl _ hC hR => ?_)
  have hb0 : ∀ k, nI (byC C k) = 0 ↔ byC C k = 0 := fun k => nI_eq (b := 0) (by have := byC_lt C k; omega) (by decide)
  have loop2 : okB 8 C = true → ∀ (j i : Nat), i + j = 8 → cntB 8 C ≤ i → (C / 256 ^ i = 0 → C / 256 ^ cntB 8 C = 0) → V E g N ad 0 0 f 44 [some (.long (lN C)), none, some (.int (nI (cntB 8 C))), some (.int (nI i))] [] := by
    intro hok j
    induction j with
    | zero =>
      intro i hi hc hz
      have hi : i = 8 := by omega
      subst hi
      refine V_iload_n hC dX3_howMany_44 rfl rfl ?_
      refine V_bipush hC 8 dX3_howMany_45 (by decide) ?_
      refine V_icmp_ge_t hC 66 dX3_howMany_47 (by decide) (by decide) ?_
      refine V_iload_n hC dX3_howMany_66 rfl rfl ?_
      refine V_iret hC hR dX3_howMany_67 ⟨rfl, rfl, _, rfl, ?_⟩
      have hz0 := hz (Nat.div_eq_of_lt (by rw [show (256 : Nat) ^ 8 = 2 ^ 64 from by decide]; exact hC64))
      have e : hmB C = cntB 8 C := by unfold hmB; rw [if_neg (fun q => by rcases q with q | q; exact q hz0; rw [hok] at q; cases q)]
      exact ⟨by rw [e], rfl⟩
    | succ j ih =>
      intro i hi hc hz
      refine V_iload_n hC dX3_howMany_44 rfl rfl ?_
      refine V_bipush hC 8 dX3_howMany_45 (by decide) ?_
      refine V_icmp_ge_f (tgt := 66) hC dX3_howMany_47 (by decide) (nI_ge (b := 8) (by omega) (by decide)) ?_
      refine V_lload_n hC dX3_howMany_50 rfl rfl ?_
      refine V_iload_n hC dX3_howMany_51 rfl rfl ?_
      refine V_csI (n := 2) hC (c_X3_codeAt g (eL E) (C := C) (k := i) hC64 (by omega)) dX3_howMany_52 gX3_howMany_X3_codeAt rfl rfl rfl ⟨rfl, rfl⟩ (by decide +kernel) (by decide +kernel) (Nat.le_of_ble_eq_true rfl) (by decide) (fun x52 u52 h52 => ?_)
      obtain ⟨rfl, he⟩ := h52
      obtain rfl := he.symm
      refine V_if_eq hC 60 dX3_howMany_55 (by decide) (fun c55 => ?_) (fun c55 => ?_)
      · have h0 := (hb0 i).mp c55
        refine V_iinc3 hC (nI (i + 1)) dX3_howMany_60 (nI_1 i) (by rw [hnl]; decide) rfl ?_
        refine V_goto hC 44 dX3_howMany_63 (by decide) ?_
        exact ih (i + 1) (by omega) (by omega) (fun q => hz (byC_0 h0 q))
      · have h0 : ¬ byC C i = 0 := fun q => c55 ((hb0 i).mpr q)
        refine V_iconst hC 0 dX3_howMany_58 (by decide) ?_
        refine V_iret hC hR dX3_howMany_59 ⟨rfl, rfl, _, rfl, ?_⟩
        have e : hmB C = 0 := by unfold hmB; rw [if_pos (Or.inl (fun q => h0 (byC_n hc q)))]
        exact ⟨by rw [e]; rfl, rfl⟩
  have ex : okB 8 C = true → ∀ w3 : Option Value, V E g N ad 0 0 f 42 [some (.long (lN C)), none, some (.int (nI (cntB 8 C))), w3] [] := by
    intro hok w3
    refine V_iload_n hC dX3_howMany_42 rfl rfl ?_
    refine V_istore_n3 hC dX3_howMany_43 rfl (by rw [hnl]; decide) rfl ?_
    exact loop2 hok (8 - cntB 8 C) (cntB 8 C) (by have := cntB_le 8 C; omega) (Nat.le_refl _) (fun q => q)
  have loop : ∀ (f2 k : Nat) (w3 : Option Value), k + f2 = 8 → k + cntB f2 (C / 256 ^ k) = cntB 8 C → okB f2 (C / 256 ^ k) = okB 8 C → V E g N ad 0 0 f 2 [some (.long (lN C)), none, some (.int (nI k)), w3] [] := by
    intro f2
    induction f2 with
    | zero =>
      intro k w3 hk e1 e2
      have hk : k = 8 := by omega
      subst hk
      have e1 : 8 = cntB 8 C := e1
      refine V_iload_n hC dX3_howMany_2 rfl rfl ?_
      refine V_bipush hC 8 dX3_howMany_3 (by decide) ?_
      refine V_icmp_ge_t hC 42 dX3_howMany_5 (by decide) (by decide) ?_
      rw [show nI 8 = nI (cntB 8 C) by rw [← e1]]
      exact ex e2.symm _
    | succ f2 ih =>
      intro k w3 hk e1 e2
      refine V_iload_n hC dX3_howMany_2 rfl rfl ?_
      refine V_bipush hC 8 dX3_howMany_3 (by decide) ?_
      refine V_icmp_ge_f (tgt := 42) hC dX3_howMany_5 (by decide) (nI_ge (b := 8) (by omega) (by decide)) ?_
      refine V_lload_n hC dX3_howMany_8 rfl rfl ?_
      refine V_iload_n hC dX3_howMany_9 rfl rfl ?_
      refine V_csI (n := 2) hC (c_X3_codeAt g (eL E) (C := C) (k := k) hC64 (by omega)) dX3_howMany_10 gX3_howMany_X3_codeAt rfl rfl rfl ⟨rfl, rfl⟩ (by decide +kernel) (by decide +kernel) (Nat.le_of_ble_eq_true rfl) (by decide) (fun x10 u10 h10 => ?_)
      obtain ⟨rfl, he⟩ := h10
      obtain rfl := he.symm
      refine V_if_eq hC 42 dX3_howMany_13 (by decide) (fun c13 => ?_) (fun c13 => ?_)
      · have h0 : C / 256 ^ k % 256 = 0 := (hb0 k).mp c13
        rw [cntB, if_pos h0, Nat.add_zero] at e1
        rw [okB, if_pos h0] at e2
        rw [e1]
        exact ex e2.symm _
      · have h0 : ¬ C / 256 ^ k % 256 = 0 := fun q => c13 ((hb0 k).mpr q)
        have hpw : C / 256 ^ k / 256 = C / 256 ^ (k + 1) := by rw [Nat.pow_succ, Nat.div_div_eq_div_mul]
        refine V_lload_n hC dX3_howMany_16 rfl rfl ?_
        refine V_iload_n hC dX3_howMany_17 rfl rfl ?_
        refine V_csI (n := 2) hC (c_X3_codeAt g (eL E) (C := C) (k := k) hC64 (by omega)) dX3_howMany_18 gX3_howMany_X3_codeAt rfl rfl rfl ⟨rfl, rfl⟩ (by decide +kernel) (by decide +kernel) (Nat.le_of_ble_eq_true rfl) (by decide) (fun x18 u18 h18 => ?_)
        obtain ⟨rfl, he⟩ := h18
        obtain rfl := he.symm
        refine V_istore_n3 hC dX3_howMany_21 rfl (by rw [hnl]; decide) rfl ?_
        refine V_iload_n hC dX3_howMany_22 rfl rfl ?_
        refine V_bipush hC 33 dX3_howMany_23 (by decide) ?_
        refine V_icmp_lt hC 34 dX3_howMany_25 (by decide) (fun c25 => ?_) (fun c25 => ?_)
        · have hlo : ¬ 33 ≤ C / 256 ^ k % 256 := by have e := Int32.lt_iff_toInt_lt.mp c25; have e3 : (33 : Int32).toInt = 33 := rfl; rw [nI_toInt (by have := byC_lt C k; omega), e3] at e; intro q; unfold byC at e; omega
          refine V_iconst hC 0 dX3_howMany_34 (by decide) ?_
          refine V_iret hC hR dX3_howMany_35 ⟨rfl, rfl, _, rfl, ?_⟩
          have e : hmB C = 0 := by
            unfold hmB
            rw [if_pos (Or.inr ?_)]
            rw [← e2, okB, if_neg h0]
            first | (rw [decide_eq_false (show ¬ 33 ≤ C / 256 ^ k % 256 from fun q => hlo q)]; rfl) | (rw [decide_eq_false (p := C / 256 ^ k % 256 ≤ 126) (fun q => hhi q), Bool.and_false]; rfl)
          exact ⟨by rw [e]; rfl, rfl⟩
        · have hlo : 33 ≤ C / 256 ^ k % 256 := by have e := Int32.le_iff_toInt_le.mp (Int32.not_lt.mp c25); have e3 : (33 : Int32).toInt = 33 := rfl; rw [nI_toInt (by have := byC_lt C k; omega), e3] at e; unfold byC at e; omega
          refine V_iload_n hC dX3_howMany_28 rfl rfl ?_
          refine V_bipush hC 126 dX3_howMany_29 (by decide) ?_
          refine V_icmp_le hC 36 dX3_howMany_31 (by decide) (fun c31 => ?_) (fun c31 => ?_)
          · have hhi : C / 256 ^ k % 256 ≤ 126 := by have e := Int32.le_iff_toInt_le.mp c31; have e3 : (126 : Int32).toInt = 126 := rfl; rw [nI_toInt (by have := byC_lt C k; omega), e3] at e; unfold byC at e; omega
            refine V_iinc2 hC (nI (k + 1)) dX3_howMany_36 (nI_1 k) (by rw [hnl]; decide) rfl ?_
            refine V_goto hC 2 dX3_howMany_39 (by decide) ?_
            refine ih (k + 1) _ (by omega) ?_ ?_
            · rw [← e1, cntB, if_neg h0, hpw]; omega
            · rw [← e2, okB, if_neg h0, hpw, decide_eq_true hlo, decide_eq_true hhi]; rfl
          · have hhi : ¬ C / 256 ^ k % 256 ≤ 126 := by have e := Int32.lt_iff_toInt_lt.mp (Int32.not_le.mp c31); have e3 : (126 : Int32).toInt = 126 := rfl; rw [nI_toInt (by have := byC_lt C k; omega), e3] at e; intro q; unfold byC at e; omega
            refine V_iconst hC 0 dX3_howMany_34 (by decide) ?_
            refine V_iret hC hR dX3_howMany_35 ⟨rfl, rfl, _, rfl, ?_⟩
            have e : hmB C = 0 := by
              unfold hmB
              rw [if_pos (Or.inr ?_)]
              rw [← e2, okB, if_neg h0]
              first | (rw [decide_eq_false (show ¬ 33 ≤ C / 256 ^ k % 256 from fun q => hlo q)]; rfl) | (rw [decide_eq_false (p := C / 256 ^ k % 256 ≤ 126) (fun q => hhi q), Bool.and_false]; rfl)
            exact ⟨by rw [e]; rfl, rfl⟩
  refine V_iconst hC 0 dX3_howMany_0 (by decide) ?_
  refine V_istore_n2 hC dX3_howMany_1 rfl (by rw [hnl]; decide) rfl ?_
  exact loop 8 0 _ rfl (by rw [Nat.pow_zero, Nat.div_one, Nat.zero_add]) (by rw [Nat.pow_zero, Nat.div_one])
theorem inX3_X3_append : ∀ w ∈ wsX30, w ∈ wsX3_append := by decide +kernel
abbrev rmX3_append : Room := { frames := 2, cells := 0, slots := 0, locals := 45 }
set_option maxHeartbeats 4000000 in
set_option maxRecDepth 100000 in
theorem c_X3_append (g : GE) (lau : Launch) {N : Nat} {ad : Nat → Nat} {f : Nat → va_E} {z : Nat} (hN : z + 2 ≤ N) {p : List Int32} (hP : PAt g ad z p f) {C : Nat} (hC64 : C < 2 ^ 64) : Ct g lau yX3_append wsX3_append rmX3_append N ad [.ref (ad z), .long (lN C)] f (pI N ad (fun x u => x = (if hmB C = 0 then -2 else if 60 < p.length + cntB 8 C then -4 else nI (p.length + cntB 8 C)) ∧ PAt g ad z (if hmB C = 0 then p else if 60 < p.length + cntB 8 C then p else p ++ bts C (cntB 8 C)) u ∧ ∀ q, (q < z ∨ z + 2 ≤ q) → u q = f q)) 0 0 := by
  refine Ct.of (maxL := 5) rfl (by decide +kernel) [some (.ref (ad z)), some (.long (lN C)), none, none, none] (Nat.le_of_ble_eq_true rfl) (by simp [lvo, lv_args, Value.category]) (fun E hnl _ hC hR => ?_)
  obtain ⟨f0, hf0⟩ : ∃ w, w = f := ⟨_, rfl⟩
  obtain ⟨sg, h1, h2, h3⟩ := id hP
  have h60 := h3.2.1
  have loop : ¬ hmB C = 0 → p.length + cntB 8 C ≤ 60 → ∀ (n : Nat) (p2 : List Int32) (f : Nat → va_E), n ≤ 8 → PAt g ad z p2 f → (∀ q, (q < z ∨ z + 2 ≤ q) → f q = f0 q) → p2 ++ bts C n = p ++ bts C (cntB 8 C) → V E g N ad 0 0 f 31 [some (.ref (ad z)), some (.long (lN C)), none, some (.int (nI (hmB C))), some (.int (nI n - 1))] [] := by
    intro hh hle n
    induction n with
    | zero =>
      intro p2 f hn hP he2 hp
      obtain ⟨sg, h1, h2, h3⟩ := id hP
      rw [bts, List.append_nil] at hp
      refine V_iload hC dX3_append_31 rfl ?_
      refine V_if_lt_t hC 68 dX3_append_33 (by decide) (by decide) ?_
      refine V_aload_n hC dX3_append_68 rfl rfl ?_
      refine V_get hC 1 dX3_append_69 (by omega) h1 rfl (by decide) inX3_X3_append (by decide +kernel) rfl ?_
      refine V_iret hC hR dX3_append_72 ⟨rfl, rfl, _, rfl, ?_⟩
      rw [if_neg hh, if_neg (by omega), if_neg hh, if_neg (by omega), ← hp]
      exact ⟨by rw [hp, List.length_append, bts_len], hP, hf0 ▸ he2⟩
    | succ n ih =>
      intro p2 f hn hP he2 hp
      obtain ⟨sg, h1, h2, h3⟩ := id hP
      have e1 : nI (n + 1) - 1 = nI n := nI_pred n
      have hpl : p2.length + 1 + n ≤ 60 := by have := congrArg List.length hp; simp only [List.length_append, bts_len] at this; omega
      rw [e1]
      refine V_iload hC dX3_append_31 rfl ?_
      refine V_if_lt_f (tgt := 68) hC dX3_append_33 (by decide) (nI_pos (by omega)) ?_
      refine V_aload_n hC dX3_append_36 rfl rfl ?_
      refine V_get hC 0 dX3_append_37 (by omega) h1 rfl (by decide) inX3_X3_append (by decide +kernel) rfl ?_
      refine V_aload_n hC dX3_append_40 rfl rfl ?_
      refine V_get hC 1 dX3_append_41 (by omega) h1 rfl (by decide) inX3_X3_append (by decide +kernel) rfl ?_
      refine V_lload_n hC dX3_append_44 rfl rfl ?_
      refine V_iload hC dX3_append_45 rfl ?_
      refine V_csI (n := 2) hC (c_X3_codeAt g (eL E) (C := C) (k := n) hC64 (by omega)) dX3_append_47 gX3_append_X3_codeAt rfl rfl rfl ⟨rfl, rfl⟩ (by decide +kernel) (by decide +kernel) (Nat.le_of_ble_eq_true rfl) (by decide) (fun x47 u47 h47 => ?_)
      obtain ⟨rfl, he⟩ := h47
      obtain rfl := he.symm
      refine V_i2c hC dX3_append_50 ?_
      refine V_eqt (nI (byC C n)) (i2c_p ⟨byC C n, byC_lt C n⟩) ?_
      refine V_cast hC dX3_append_51 (by omega) h2 (ix_nI (j := p2.length) (by omega) (by decide)) ?_
      have g1 : (va_up f (z + 1) (.inl (g.2.1 1, 60, .inl (upd sg p2.length (vp_nar .char (nI (byC C n))))))) z = _ := (va_up_ne _ _ (by omega)).trans h1
      refine V_aload_n hC dX3_append_52 rfl rfl ?_
      refine V_dup hC dX3_append_53 rfl ?_
      refine V_get hC 1 dX3_append_54 (by omega) g1 rfl (by decide) inX3_X3_append (by decide +kernel) rfl ?_
      refine V_iconst hC 1 dX3_append_57 (by decide) ?_
      refine V_iadd hC dX3_append_58 ?_
      refine V_eqt (nI (p2.length + 1)) (nI_1 _) ?_
      refine V_put hC (ty := .int) 1 dX3_append_59 (by omega) g1 rfl (by decide) inX3_X3_append (by decide +kernel) tyX3_ok nmX3 rfl rfl rfl rfl (by simp) ?_
      refine V_iinc4 hC (nI n - 1) dX3_append_62 (im1 _) (by rw [hnl]; decide) rfl ?_
      refine V_goto hC 31 dX3_append_65 (by decide) ?_
      refine ih (p2 ++ [nI (byC C n)]) _ (by omega) ⟨_, ?_, (va_up_ne _ _ (by omega)).trans (va_up_self _ _ _), ?_⟩ (fun q hq => ((va_up_ne _ _ (by omega)).trans (va_up_ne _ _ (by omega))).trans (he2 q hq)) (by rw [List.append_assoc]; exact hp)
      · rw [va_up_self, List.length_append]; rfl
      · refine ⟨rfl, by rw [List.length_append]; simp; omega, fun j x hj => ?_⟩
        have hjl : j < p2.length + 1 := by simpa using (List.getElem?_eq_some_iff.mp hj).1
        by_cases hjp : j < p2.length
        · rw [pk_un (by omega)]
          exact h3.2.2 j x ((cut_s hjp).mp hj)
        · have : j = p2.length := by omega
          subst this
          rw [cut_m] at hj
          cases hj
          rw [pk_us, nar_p _ (byC_lt C n)]
  refine V_lload_n hC dX3_append_0 rfl rfl ?_
  refine V_csI (n := 1) hC (c_X3_howMany g (eL E) (C := C) hC64) dX3_append_1 gX3_append_X3_howMany rfl rfl rfl ⟨rfl, rfl⟩ (by decide +kernel) (by decide +kernel) (Nat.le_of_ble_eq_true rfl) (by decide) (fun x1 u1 h1 => ?_)
  obtain ⟨rfl, he⟩ := h1
  obtain rfl := he.symm
  have hhl : hmB C ≤ 8 := by unfold hmB; have := cntB_le 8 C; split <;> omega
  refine V_istore_n3 hC dX3_append_4 rfl (by rw [hnl]; decide) rfl ?_
  refine V_iload_n hC dX3_append_5 rfl rfl ?_
  refine V_if_ne hC 12 dX3_append_6 (by decide) (fun c6 => ?_) (fun c6 => ?_)
  · have hh : ¬ hmB C = 0 := fun q => c6 (by rw [q]; rfl)
    have hn := hmB_n hh
    refine V_aload_n hC dX3_append_12 rfl rfl ?_
    refine V_get hC 1 dX3_append_13 (by omega) h1 rfl (by decide) inX3_X3_append (by decide +kernel) rfl ?_
    refine V_iload_n hC dX3_append_16 rfl rfl ?_
    refine V_iadd hC dX3_append_17 ?_
    refine V_eqt (nI (p.length + hmB C)) (nI_add _ _) ?_
    refine V_bipush hC 60 dX3_append_18 (by decide) ?_
    refine V_icmp_le hC 26 dX3_append_20 (by decide) (fun c20 => ?_) (fun c20 => ?_)
    · have hle : p.length + cntB 8 C ≤ 60 := by rw [← hn]; exact (nI_leI (b := 60) (by omega) (by decide)).mp c20
      refine V_iload_n hC dX3_append_26 rfl rfl ?_
      refine V_iconst hC 1 dX3_append_27 (by decide) ?_
      refine V_isub hC dX3_append_28 ?_
      refine V_istore4 hC dX3_append_29 (by rw [hnl]; decide) rfl ?_
      have q := loop hh hle (cntB 8 C) p f (cntB_le 8 C) hP (fun q _ => (congrFun hf0 q).symm) rfl
      rw [← hn] at q
      exact q
    · have hgt : 60 < p.length + cntB 8 C := by rw [← hn]; rcases Nat.lt_or_ge 60 (p.length + hmB C) with q | q; exact q; exact absurd (nI_le (b := 60) q (by decide)) c20
      refine V_bipush hC (-4) dX3_append_23 (by decide) ?_
      refine V_iret hC hR dX3_append_25 ⟨rfl, rfl, _, rfl, ?_⟩
      rw [if_neg hh, if_pos hgt, if_neg hh, if_pos hgt]
      exact ⟨rfl, hP, fun q hq => rfl⟩
  · have hh : hmB C = 0 := (nI_eq (b := 0) (by omega) (by decide)).mp c6
    refine V_bipush hC (-2) dX3_append_9 (by decide) ?_
    refine V_iret hC hR dX3_append_11 ⟨rfl, rfl, _, rfl, ?_⟩
    rw [if_pos hh, if_pos hh]
    exact ⟨rfl, hP, fun q hq => rfl⟩
