theorem ordN_le (f2 : Nat) : ∀ (l : List Int32) (m : MT), (ordN f2 l m).1 ≤ f2 := by
  induction f2 with
  | zero => intro l m; exact Nat.le_refl _
  | succ f2 ih =>
    intro l m
    unfold ordN
    split
    · split
      · exact Nat.zero_le _
      · split
        · simp
        · split
          · exact Nat.succ_le_succ (ih _ _)
          · simp
    · exact Nat.zero_le _
theorem rdOrder_o {l : List Int32} (h : (rdOrder l).1 = true) : (rdOrder l).2.2.1 = 98 ∨ (rdOrder l).2.2.1 = 119 ∨ (rdOrder l).2.2.1 = 115 ∨ (rdOrder l).2.2.1 = 116 := by
  revert h
  unfold rdOrder
  split
  · intro h; cases h
  · split
    · rename_i hc
      split
      · intro h; cases h
      · split
        · split
          · intro h; cases h
          · split
            · intro _; exact Or.inr (Or.inr (Or.inr hc))
            · intro h; cases h
        · intro h; cases h
    · split
      · rename_i hc
        intro _
        rcases hc with h | h | h
        · exact Or.inl h
        · exact Or.inr (Or.inl h)
        · exact Or.inr (Or.inr (Or.inl h))
      · intro h; cases h
theorem doOrd_q {l : List Int32} {wb2 : Int32} {m : MT} (h : (rdOrder l).1 = true) (hw : (rdOrder l).2.2.1 = 116 → wb2 = (rdOrder l).2.2.2.1) : doOrd (rdOrder l).2.2.1 wb2 (rdOrder l).2.2.2.2 m = ordQ l m := by
  unfold ordQ doOrd
  rcases rdOrder_o h with e | e | e | e
  · rw [if_pos e, if_pos e]
  · rw [if_neg (by rw [e]; decide), if_pos e, if_neg (by rw [e]; decide), if_pos e]
  · rw [if_neg (by rw [e]; decide), if_neg (by rw [e]; decide), if_pos e, if_neg (by rw [e]; decide), if_neg (by rw [e]; decide), if_pos e]
  · rw [hw e]
theorem inX5_X5_carryOut : ∀ w ∈ wsX50, w ∈ wsX5_carryOut := by decide +kernel
abbrev rmX5_carryOut : Room := { frames := 9, cells := 0, slots := 0, locals := 194 }
set_option maxHeartbeats 4000000 in
set_option maxRecDepth 100000 in
theorem c_X5_carryOut (g : GE) (lau : Launch) {N : Nat} {ad : Nat → Nat} {f : Nat → va_E} {o : Nat} {a0 kp hs : Nat → Int32} {hl : Int32} {so sv pd : Nat → Int32} {pn sp od wb nb : Int32} (hN : o + 7 ≤ N) {S : ST} (hS : RepM a0 hs hl so sv pd pn S) (hok : ordOK (S.2.2.2.length + 1) S.2.2.2 S.1) : Ct g lau yX5_carryOut wsX5_carryOut rmX5_carryOut N ad [.ref (ad o)] (zM g ad f o a0 kp hs hl so sv pd pn sp od wb nb) (pI N ad (fun x u => x = (sCarry S).1 ∧ MIs g ad f o (sCarry S).2 u)) 0 0 := by
  refine Ct.of (maxL := 3) rfl (by decide +kernel) [some (.ref (ad o)), none, none] (Nat.le_of_ble_eq_true rfl) (by simp [lvo, lv_args, Value.category]) (fun E hnl _ hC hR => ?_)
  obtain ⟨hm0, hh2, hs2, hp2⟩ := hS
  obtain ⟨M2, hM2⟩ : ∃ z, z = (ordN (S.2.2.2.length + 1) S.2.2.2 S.1).2 := ⟨_, rfl⟩
  obtain ⟨TOT, hTOT⟩ : ∃ z, z = (ordN (S.2.2.2.length + 1) S.2.2.2 S.1).1 := ⟨_, rfl⟩
  have hT61 : TOT ≤ 61 := by rw [hTOT]; exact Nat.le_trans (ordN_le _ _ _) (Nat.succ_le_succ hp2.2.1)
  have Ex : sFault S.2.2.2 = -6 → ∀ (a : Nat → Int32) (m : MT) (cnt : Nat) (sp od wb nb v2 : Int32), RepR a m → m = M2 → cnt = TOT → V E g N ad 0 0 (zM g ad f o a (cpN a0 kp 160) hs hl so sv pd pn sp od wb nb) 83 [some (.ref (ad o)), some (.int (nI cnt)), some (.int (v2))] [] := by
    intro h6 a m cnt sp od wb nb v2 hm e1 e2
    subst e1
    subst e2
    refine V_aload_n hC dX5_carryOut_83 rfl rfl ?_
    refine V_iconst hC 0 dX5_carryOut_84 (by decide) ?_
    refine V_zM_put_padLong hC hN dX5_carryOut_85 inX5_X5_carryOut (by decide +kernel) ?_
    refine V_aload_n hC dX5_carryOut_88 rfl rfl ?_
    refine V_iload_n hC dX5_carryOut_89 rfl rfl ?_
    refine V_cvI (n := 1) hC (c_X5_changed g (eL E) hN hh2 (hm0.eq (b := cpN a0 kp 160) fun i hi => by simp [cpN, hi]) _) dX5_carryOut_90 gX5_carryOut_X5_changed rfl rfl rfl ⟨rfl, rfl⟩ (by decide +kernel) (by decide +kernel) (by omega) zM_0 rfl (Nat.le_of_ble_eq_true rfl) (by decide) (fun x90 u90 h90 => ?_)
    obtain ⟨rfl, hs3, hl3, rfl, hh3⟩ := h90
    refine V_iret hC hR dX5_carryOut_93 ⟨rfl, rfl, _, rfl, ?_⟩
    rw [if_neg (nI_pos (by omega))] at hh3
    rw [sCarry, if_pos h6, ← hTOT, ← hM2]
    exact ⟨rfl, MIs.mk ⟨hm, hh3, hs2, rfl, Nat.zero_le _, fun j y hj => by simp at hj⟩⟩
  have loop : sFault S.2.2.2 = -6 → ∀ (f2 : Nat) (pre l : List Int32) (a : Nat → Int32) (m : MT) (cnt : Nat) (od wb nb : Int32), l.length < f2 → RepR a m → rPad pd pn (pre ++ l) → ordOK f2 l m → (ordN f2 l m).2 = M2 → cnt + (ordN f2 l m).1 = TOT → V E g N ad 0 0 (zM g ad f o a (cpN a0 kp 160) hs hl so sv pd pn (nI pre.length) od wb nb) 25 [some (.ref (ad o)), some (.int (nI cnt)), some (.int (1))] [] := by
    intro h6 f2
    induction f2 with
    | zero =>
      intro pre l a m cnt od wb nb hl
      exact absurd hl (Nat.not_lt_zero _)
    | succ f2 ih =>
      intro pre l a m cnt od wb nb hl hm hq hok he1 he2
      refine V_iload_n hC dX5_carryOut_25 rfl rfl ?_
      refine V_if_eq_f (tgt := 83) hC dX5_carryOut_26 (by decide) (by decide) ?_
      refine V_aload_n hC dX5_carryOut_29 rfl rfl ?_
      refine V_cvI (n := 0) hC (c_X5_readsOrder g (eL E) hN hq) dX5_carryOut_30 gX5_carryOut_X5_readsOrder rfl rfl rfl ⟨rfl, rfl⟩ (by decide +kernel) (by decide +kernel) (by omega) zM_0 rfl (Nat.le_of_ble_eq_true rfl) (by decide) (fun x30 u30 h30 => ?_)
      rcases h30 with ⟨rfl, hj, wb2, rfl, hwb⟩ | ⟨rfl, hj, od2, wb2, rfl⟩
      · have el := lenT (pre := pre) (rdOrder_le l)
        rw [← el]
        refine V_if_eq_f (tgt := 83) hC dX5_carryOut_33 (by decide) (by decide) ?_
        refine V_aload_n hC dX5_carryOut_36 rfl rfl ?_
        refine V_cvI (n := 0) hC (c_X5_doOrder g (eL E) hN hm hok.1) dX5_carryOut_37 gX5_carryOut_X5_doOrder rfl rfl rfl ⟨rfl, rfl⟩ (by decide +kernel) (by decide +kernel) (by omega) zM_0 rfl (Nat.le_of_ble_eq_true rfl) (by decide) (fun x37 u37 h37 => ?_)
        obtain ⟨rfl, a2, rfl, hm2⟩ := h37
        rw [doOrd_q hj hwb] at hm2 ⊢
        refine V_if_lt hC 47 dX5_carryOut_40 (by decide) (fun c40 => ?_) (fun c40 => ?_)
        · refine V_iconst hC 0 dX5_carryOut_47 (by decide) ?_
          refine V_istore_n2 hC dX5_carryOut_48 rfl (by rw [hnl]; decide) rfl ?_
          refine V_iload_n hC dX5_carryOut_49 rfl rfl ?_
          refine V_iload_n hC dX5_carryOut_50 rfl rfl ?_
          refine V_if_eq_t hC 58 dX5_carryOut_51 (by decide) rfl ?_
          refine V_iconst hC 0 dX5_carryOut_58 (by decide) ?_
          refine V_iadd hC dX5_carryOut_59 ?_
          refine V_eqt (nI cnt) (Int32.add_zero _) ?_
          refine V_istore_n1 hC dX5_carryOut_60 rfl (by rw [hnl]; decide) rfl ?_
          refine V_iload_n hC dX5_carryOut_61 rfl rfl ?_
          refine V_if_eq_t hC 78 dX5_carryOut_62 (by decide) rfl ?_
          refine V_iconst hC 0 dX5_carryOut_78 (by decide) ?_
          refine V_istore_n2 hC dX5_carryOut_79 rfl (by rw [hnl]; decide) rfl ?_
          refine V_goto hC 25 dX5_carryOut_80 (by decide) ?_
          --go
          refine V_iload_n hC dX5_carryOut_25 rfl rfl ?_
          refine V_if_eq_t hC 83 dX5_carryOut_26 (by decide) rfl ?_
          refine Ex h6 _ _ _ _ _ _ _ _ hm2 ?_ ?_
          · rw [← he1, ordN, hj, if_pos rfl, if_pos c40]
          · rw [← he2, ordN, hj, if_pos rfl, if_pos c40, Nat.add_zero]
        · refine V_iconst hC 1 dX5_carryOut_43 (by decide) ?_
          refine V_goto hC 48 dX5_carryOut_44 (by decide) ?_
          refine V_istore_n2 hC dX5_carryOut_48 rfl (by rw [hnl]; decide) rfl ?_
          refine V_iload_n hC dX5_carryOut_49 rfl rfl ?_
          refine V_iload_n hC dX5_carryOut_50 rfl rfl ?_
          refine V_if_eq_f (tgt := 58) hC dX5_carryOut_51 (by decide) (by decide) ?_
          refine V_iconst hC 1 dX5_carryOut_54 (by decide) ?_
          refine V_goto hC 59 dX5_carryOut_55 (by decide) ?_
          refine V_iadd hC dX5_carryOut_59 ?_
          refine V_eqt (nI (cnt + 1)) (nI_1 _) ?_
          refine V_istore_n1 hC dX5_carryOut_60 rfl (by rw [hnl]; decide) rfl ?_
          refine V_iload_n hC dX5_carryOut_61 rfl rfl ?_
          refine V_if_eq_f (tgt := 78) hC dX5_carryOut_62 (by decide) (by decide) ?_
          refine V_aload_n hC dX5_carryOut_65 rfl rfl ?_
          refine V_bipush hC 59 dX5_carryOut_66 (by decide) ?_
          refine V_cvI (n := 1) hC (c_X5_takes g (eL E) hN (hq.drop (rdOrder l).2.1) 59) dX5_carryOut_68 gX5_carryOut_X5_takes rfl rfl rfl ⟨rfl, rfl⟩ (by decide +kernel) (by decide +kernel) (by omega) zM_0 rfl (Nat.le_of_ble_eq_true rfl) (by decide) (fun x68 u68 h68 => ?_)
          rcases h68 with ⟨rfl, ⟨t, ht⟩, rfl⟩ | ⟨rfl, hk, rfl⟩
          · refine V_if_eq_f (tgt := 78) hC dX5_carryOut_71 (by decide) (by decide) ?_
            refine V_iconst hC 1 dX5_carryOut_74 (by decide) ?_
            refine V_goto hC 79 dX5_carryOut_75 (by decide) ?_
            refine V_istore_n2 hC dX5_carryOut_79 rfl (by rw [hnl]; decide) rfl ?_
            refine V_goto hC 25 dX5_carryOut_80 (by decide) ?_
            have hz : l.drop (rdOrder l).2.1 = 59 :: t := ht
            have hl2 : t.length < f2 := by have h7 := congrArg List.length hz; rw [List.length_drop, List.length_cons] at h7; have := rdOrder_pos hj; omega
            have hN2 : ordN (f2 + 1) l m = ((ordN f2 t (ordQ l m).2).1 + 1, (ordN f2 t (ordQ l m).2).2) := by rw [ordN, hj, if_pos rfl, if_neg c40, hz]; simp only [if_true]
            rw [hN2] at he1 he2
            have e3 : (pre ++ l.take (rdOrder l).2.1 ++ [59]).length = (pre ++ l.take (rdOrder l).2.1).length + 1 := List.length_append
            have := ih (pre ++ l.take (rdOrder l).2.1 ++ [59]) t a2 (ordQ l m).2 (cnt + 1) (rdOrder l).2.2.1 wb2 (rdOrder l).2.2.2.2 hl2 hm2 (by have := hq.drop (rdOrder l).2.1; rw [hz] at this; exact this.step) (hok.2 hj c40 t hz) he1 (by rw [← he2]; omega)
            rw [e3] at this
            exact this
          · refine V_if_eq_t hC 78 dX5_carryOut_71 (by decide) rfl ?_
            refine V_iconst hC 0 dX5_carryOut_78 (by decide) ?_
            refine V_istore_n2 hC dX5_carryOut_79 rfl (by rw [hnl]; decide) rfl ?_
            refine V_goto hC 25 dX5_carryOut_80 (by decide) ?_
            --go
            refine V_iload_n hC dX5_carryOut_25 rfl rfl ?_
            refine V_if_eq_t hC 83 dX5_carryOut_26 (by decide) rfl ?_
            have hN2 : ordN (f2 + 1) l m = (1, (ordQ l m).2) := by
              rw [ordN, hj, if_pos rfl, if_neg c40]
              cases hd : l.drop (rdOrder l).2.1 with
              | nil => rfl
              | cons c t => simp only; rw [if_neg (fun q => by rw [hd, q] at hk; simp [hereB] at hk)]
            rw [hN2] at he1 he2
            exact Ex h6 _ _ _ _ _ _ _ _ hm2 he1 he2
      · refine V_if_eq_t hC 83 dX5_carryOut_33 (by decide) rfl ?_
        refine Ex h6 _ _ _ _ _ _ _ _ hm ?_ ?_
        · rw [← he1, ordN, hj, if_neg (by decide)]
        · rw [← he2, ordN, hj, if_neg (by decide), Nat.add_zero]
  refine V_aload_n hC dX5_carryOut_0 rfl rfl ?_
  refine V_cvI (n := 0) hC (c_X5_fault g (eL E) hN hp2) dX5_carryOut_1 gX5_carryOut_X5_fault rfl rfl rfl ⟨rfl, rfl⟩ (by decide +kernel) (by decide +kernel) (by omega) zM_0 rfl (Nat.le_of_ble_eq_true rfl) (by decide) (fun x1 u1 h1 => ?_)
  obtain ⟨rfl, sp2, od2, wb2, nb2, rfl⟩ := h1
  refine V_bipush hC (-6) dX5_carryOut_4 (by decide) ?_
  refine V_icmp_eq hC 12 dX5_carryOut_6 (by decide) (fun c6 => ?_) (fun c6 => ?_)
  · refine V_aload_n hC dX5_carryOut_12 rfl rfl ?_
    refine V_cvV (n := 0) hC (c_X5_keep g (eL E) hN) dX5_carryOut_13 gX5_carryOut_X5_keep rfl rfl rfl ⟨rfl, rfl⟩ (by decide +kernel) (by decide +kernel) (by omega) zM_0 rfl (Nat.le_of_ble_eq_true rfl) (by decide) (fun u13 h13 => ?_)
    obtain rfl := h13
    refine V_aload_n hC dX5_carryOut_16 rfl rfl ?_
    refine V_iconst hC 0 dX5_carryOut_17 (by decide) ?_
    refine V_zM_put_spot hC hN dX5_carryOut_18 inX5_X5_carryOut (by decide +kernel) ?_
    refine V_iconst hC 0 dX5_carryOut_21 (by decide) ?_
    refine V_istore_n1 hC dX5_carryOut_22 rfl (by rw [hnl]; decide) rfl ?_
    refine V_iconst hC 1 dX5_carryOut_23 (by decide) ?_
    refine V_istore_n2 hC dX5_carryOut_24 rfl (by rw [hnl]; decide) rfl ?_
    exact loop c6 (S.2.2.2.length + 1) [] S.2.2.2 a0 S.1 0 od2 wb2 nb2 (Nat.lt_succ_self _) hm0 hp2 hok hM2.symm (by rw [hTOT, Nat.zero_add])
  · refine V_bipush hC (-3) dX5_carryOut_9 (by decide) ?_
    refine V_iret hC hR dX5_carryOut_11 ⟨rfl, rfl, _, rfl, ?_⟩
    rw [sCarry, if_neg c6]
    exact ⟨rfl, MIs.mk ⟨hm0, hh2, hs2, hp2⟩⟩
theorem wb_tb (n : Nat) : (lN n).toBitVec = BitVec.ofNat 64 n := rfl
theorem wb_inj {a b : Int64} (h : a.toBitVec = b.toBitVec) : a = b := Int64.toBitVec_inj.mp h
theorem wb_tn {n : Nat} (h : n < 2 ^ 64) : (lN n).toBitVec.toNat = n := by rw [wb_tb, BitVec.toNat_ofNat, Nat.mod_eq_of_lt h]
theorem wb_of (x : Int64) : ∃ n, n < 2 ^ 64 ∧ x = lN n := ⟨x.toBitVec.toNat, x.toBitVec.isLt, wb_inj (by rw [wb_tb]; simp)⟩
theorem wb_of32 (x : Int32) : ∃ n, n < 2 ^ 32 ∧ x = nI n := ⟨x.toBitVec.toNat, x.toBitVec.isLt, Int32.toBitVec_inj.mp (by show _ = BitVec.ofNat 32 _; simp)⟩
theorem wb_c : ∀ k, k < 64 → ((nI k).toInt64 &&& 63) = lN k := by decide +kernel
theorem wb_cu : ∀ k, k < 64 → ((nI k).toInt64.toUInt64 &&& Int64.toUInt64 63) = UInt64.ofNat k := by decide +kernel
theorem wb_sm : ∀ k, k < 64 → (BitVec.ofNat 64 k).smod 64 = BitVec.ofNat 64 k := by decide +kernel
theorem wb_pw {a b : Nat} (h : a ≤ b) : 2 ^ b = 2 ^ a * 2 ^ (b - a) := by rw [← Nat.pow_add]; congr 1; omega
theorem wb_lt2 {a b : Nat} (h : a < b) : 2 ^ a < 2 ^ b := Nat.pow_lt_pow_right (by decide) h
theorem wb_mod (n : Nat) : lN n = lN (n % 2 ^ 64) := wb_inj (by rw [wb_tb, wb_tb]; apply BitVec.eq_of_toNat_eq; rw [BitVec.toNat_ofNat, BitVec.toNat_ofNat, Nat.mod_mod])
theorem wb_shr {n k : Nat} (hn : n < 2 ^ 64) (hk : k < 64) : ((lN n).toUInt64 >>> ((nI k).toInt64.toUInt64 &&& Int64.toUInt64 63)).toInt64 = lN (n / 2 ^ k) := by
  rw [wb_cu k hk]
  apply wb_inj
  apply BitVec.eq_of_toNat_eq
  show ((lN n).toUInt64 >>> UInt64.ofNat k).toNat = (BitVec.ofNat 64 _).toNat
  have h1 : (UInt64.ofNat k).toNat = k := by
    show (BitVec.ofNat 64 k).toNat = k
    rw [BitVec.toNat_ofNat, Nat.mod_eq_of_lt (by omega)]
  have h2 : (lN n).toUInt64.toNat = n := wb_tn hn
  rw [UInt64.toNat_shiftRight, h1, h2, Nat.mod_eq_of_lt hk, Nat.shiftRight_eq_div_pow, BitVec.toNat_ofNat, Nat.mod_eq_of_lt (Nat.lt_of_le_of_lt (Nat.div_le_self _ _) hn)]
theorem wb_shl (n : Nat) {k : Nat} (hk : k < 64) : lN n <<< ((nI k).toInt64 &&& 63) = lN (n * 2 ^ k) := by
  rw [wb_c k hk]
  apply wb_inj
  rw [Int64.toBitVec_shiftLeft, wb_tb, wb_tb, wb_tb, wb_sm k hk]
  apply BitVec.eq_of_toNat_eq
  rw [BitVec.shiftLeft_eq', BitVec.toNat_shiftLeft, BitVec.toNat_ofNat, BitVec.toNat_ofNat, BitVec.toNat_ofNat, Nat.mod_eq_of_lt (show k < 2 ^ 64 by omega), Nat.shiftLeft_eq, Nat.mul_mod, Nat.mod_mod, ← Nat.mul_mod]
theorem wb_and {a b : Nat} (ha : a < 2 ^ 64) (hb : b < 2 ^ 64) : lN a &&& lN b = lN (a &&& b) := by
  apply wb_inj
  rw [Int64.toBitVec_and, wb_tb, wb_tb, wb_tb]
  apply BitVec.eq_of_toNat_eq
  rw [BitVec.toNat_and, BitVec.toNat_ofNat, BitVec.toNat_ofNat, BitVec.toNat_ofNat, Nat.mod_eq_of_lt ha, Nat.mod_eq_of_lt hb, Nat.mod_eq_of_lt (Nat.and_lt_two_pow _ hb)]
theorem wb_or {a b : Nat} (ha : a < 2 ^ 64) (hb : b < 2 ^ 64) : lN a ||| lN b = lN (a ||| b) := by
  apply wb_inj
  rw [Int64.toBitVec_or, wb_tb, wb_tb, wb_tb]
  apply BitVec.eq_of_toNat_eq
  rw [BitVec.toNat_or, BitVec.toNat_ofNat, BitVec.toNat_ofNat, BitVec.toNat_ofNat, Nat.mod_eq_of_lt ha, Nat.mod_eq_of_lt hb, Nat.mod_eq_of_lt (Nat.or_lt_two_pow ha hb)]
theorem wb_mask {n k : Nat} (hn : n < 2 ^ 64) (hk : k < 64) : lN n &&& lN (2 ^ k - 1) = lN (n % 2 ^ k) := by
  rw [wb_and hn (by have := wb_lt2 hk; omega), Nat.and_two_pow_sub_one_eq_mod]
def cntB : Nat → Nat → Nat
  | 0, _ => 0
  | f + 1, c => if c % 256 = 0 then 0 else cntB f (c / 256) + 1
def okB : Nat → Nat → Bool
  | 0, _ => true
  | f + 1, c => if c % 256 = 0 then true else (decide (33 ≤ c % 256) && decide (c % 256 ≤ 126)) && okB f (c / 256)
/-- the last n characters of a number, the first one first -/
def bts (c : Nat) : Nat → List Int32
  | 0 => []
  | n + 1 => nI (c / 256 ^ n % 256) :: bts c n
theorem bts_len (c n : Nat) : (bts c n).length = n := by
  induction n with
  | zero => rfl
  | succ n ih => simp [bts, ih]
def sPut (c : Nat) (S : ST) : Int32 × ST :=
  if cntB 8 c = 0 ∨ c / 256 ^ cntB 8 c ≠ 0 ∨ okB 8 c = false then (-2, S)
  else if 60 < S.2.2.2.length + cntB 8 c then (-4, S)
  else (nI (S.2.2.2.length + cntB 8 c), (S.1, S.2.1, S.2.2.1, S.2.2.2 ++ bts c (cntB 8 c)))
theorem cntB_le (f2 c : Nat) : cntB f2 c ≤ f2 := by
  induction f2 generalizing c with
  | zero => exact Nat.le_refl _
  | succ f2 ih =>
    unfold cntB
    split
    · exact Nat.zero_le _
    · exact Nat.succ_le_succ (ih _)
def b2 (p : Bool) : Int32 := if p = true then 1 else 0
theorem lN_z {n : Nat} (h : n < 2 ^ 63) : lN n = 0 ↔ n = 0 := by
  rw [show (0 : Int64) = lN 0 from rfl, pk_lEQ h (by decide)]
theorem lN_z2 {n : Nat} (h : n < 2 ^ 64) : lN n = 0 ↔ n = 0 := by
  constructor
  · intro e
    have := congrArg (fun z => z.toBitVec.toNat) e
    simp only [wb_tn h] at this
    exact this
  · rintro rfl; rfl
theorem V_lstore5 {E : EV} {g : GE} {N : Nat} {ad : Nat → Nat} {ce sl : Nat} {f : Nat → va_E} {pc : Nat} {st : List Value} {cc : ByteArray} {Ts : List Cond} {own : String} {rm : Room} (hC : CX E g cc Ts own rm) {x : Int64} {v0 v1 v2 v3 v4 v5 v6 : Option Value} {t : List (Option Value)} (hd : decode cc pc = .ok (.lstore 5, 2)) (hn : 6 < eN E) (hc : c1 v4 = true) (kk : V E g N ad ce sl f (pc + 2) (v0 :: v1 :: v2 :: v3 :: v4 :: some (.long x) :: none :: t) st) : V E g N ad ce sl f pc (v0 :: v1 :: v2 :: v3 :: v4 :: v5 :: v6 :: t) (.long x :: st) := by
  intro H locs ls hP hD hS hl
  refine lv_lstore hC.1 hC.2.1 hd hl hn rfl (fun ls hl2 => kk H locs ls hP hD hS (lvo_sub hl2 ?_))
  rintro ⟨j, w⟩ hq
  obtain ⟨j', h1, h2⟩ := (lvo_mem _ _ _ _).mp hq
  have hj : j' = j := by omega
  subst hj
  by_cases h5 : j' = 5
  · subst h5
    simp at h2
    rw [← h2]
    exact List.mem_cons_self
  · by_cases h6 : j' = 6
    · subst h6
      simp at h2
    · refine List.mem_cons_of_mem _ (List.mem_filter.mpr ⟨(lvo_mem _ _ _ _).mpr ⟨j', h1, ?_⟩, ?_⟩)
      · match j', h5, h6, h2 with
        | 0, _, _, h2 => exact h2
        | 1, _, _, h2 => exact h2
        | 2, _, _, h2 => exact h2
        | 3, _, _, h2 => exact h2
        | 4, _, _, h2 => exact h2
        | 5, h5, _, _ => exact absurd rfl h5
        | 6, _, h6, _ => exact absurd rfl h6
        | j + 7, _, _, h2 => exact h2
      · have e5 : (j' == 5) = false := by simp; omega
        have e6 : (j' == 6) = false := by simp; omega
        simp only [e5, e6, Bool.not_false, Bool.true_and]
        by_cases h4 : j' + 1 = 5
        · have h4' : j' = 4 := by omega
          subst h4'
          have : v4 = some w := by simpa using h2
          subst this
          simp [c1] at hc
          simp [hc]
        · have e4 : (j' + 1 == 5) = false := by simp; omega
          simp only [e4, Bool.false_and, Bool.not_false]
theorem im1 (x : Int32) : x + Int32.ofInt (-1) = x - 1 := by rw [Int32.sub_eq_add_neg, show Int32.ofInt (-1) = -1 from by decide]
theorem lnz {r : Nat} (h : r < 2 ^ 64) : lg_cmp (lN r &&& 255) 0 = 0 ↔ r % 256 = 0 := by
  rw [lg_cmp_eq, show (255 : Int64) = lN (2 ^ 8 - 1) from rfl, wb_mask h (by decide), lN_z2 (by omega)]
theorem byt_in {r : Nat} (h : r < 2 ^ 64) : inJ (lN r &&& 255) 33 126 ↔ 33 ≤ r % 256 ∧ r % 256 ≤ 126 := by
  rw [show (255 : Int64) = lN (2 ^ 8 - 1) from rfl, wb_mask h (by decide)]
  unfold inJ
  rw [pk_lT (by omega), show (33 : Int64).toInt = 33 from rfl, show (126 : Int64).toInt = 126 from rfl]
  omega
theorem shr8 {r : Nat} (h : r < 2 ^ 64) : ((lN r).toUInt64 >>> ((8 : Int32).toInt64.toUInt64 &&& Int64.toUInt64 63)).toInt64 = lN (r / 256) := by
  rw [show (8 : Int32) = nI 8 from rfl, wb_shr h (by decide)]
theorem byt_at {c k : Nat} (h : c < 2 ^ 64) (hk : k < 8) : ((((lN c).toUInt64 >>> (((8 : Int32) * nI k).toInt64.toUInt64 &&& Int64.toUInt64 63)).toInt64) &&& 255).toInt32 = nI (c / 256 ^ k % 256) := by
  rw [show (8 : Int32) = nI 8 from rfl, pk_mul, wb_shr h (by omega), show (255 : Int64) = lN (2 ^ 8 - 1) from rfl, wb_mask (Nat.lt_of_le_of_lt (Nat.div_le_self _ _) h) (by decide), lN_i, Nat.pow_mul]
theorem inX5_X5_put_ : ∀ w ∈ wsX50, w ∈ wsX5_put_ := by decide +kernel
abbrev rmX5_put_ : Room := { frames := 1, cells := 0, slots := 0, locals := 25 }
set_option maxHeartbeats 4000000 in
set_option maxRecDepth 100000 in
theorem c_X5_put_ (g : GE) (lau : Launch) {N : Nat} {ad : Nat → Nat} {f : Nat → va_E} {o : Nat} {a kp hs : Nat → Int32} {hl : Int32} {so sv pd : Nat → Int32} {pn sp od wb nb : Int32} (hN : o + 7 ≤ N) {S : ST} (hS : RepM a hs hl so sv pd pn S) {C : Nat} (hC64 : C < 2 ^ 64) : Ct g lau yX5_put_ wsX5_put_ rmX5_put_ N ad [.ref (ad o), .long (lN C)] (zM g ad f o a kp hs hl so sv pd pn sp od wb nb) (pI N ad (fun x u => x = (sPut C S).1 ∧ MIs g ad f o (sPut C S).2 u)) 0 0 := by
  refine Ct.of (maxL := 8) rfl (by decide +kernel) [some (.ref (ad o)), some (.long (lN C)), none, none, none, none, none, none] (Nat.le_of_ble_eq_true rfl) (by simp [lvo, lv_args, Value.category]) (fun E hnl _ hC hR => ?_)
  obtain ⟨hm, hh2, hs2, hp2⟩ := hS
  have loop2 : ∀ (TG : List Int32), TG = S.2.2.2 ++ bts C (cntB 8 C) → TG.length ≤ 60 → ¬ (cntB 8 C = 0 ∨ C / 256 ^ cntB 8 C ≠ 0 ∨ okB 8 C = false) → ∀ (n : Nat) (p : List Int32) (pd : Nat → Int32) (pn : Int32) (gd r : Option Value) (v3 : Int32), n ≤ 8 → c1 gd = true → rPad pd pn p → p ++ bts C n = TG → V E g N ad 0 0 (zM g ad f o a kp hs hl so sv pd pn sp od wb nb) 106 [some (.ref (ad o)), some (.long (lN C)), none, some (.int v3), gd, r, none, some (.int (nI n - 1))] [] := by
    intro TG hTG hT60 hcn n
    induction n with
    | zero =>
      intro p pd pn gd r v3 hn8 hgd hp he
      refine V_iload hC dX5_put__106 rfl ?_
      refine V_if_lt_t hC 148 dX5_put__108 (by decide) (by decide) ?_
      refine V_aload_n hC dX5_put__148 rfl rfl ?_
      refine V_zM_padLong hC hN dX5_put__149 inX5_X5_put_ (by decide +kernel) ?_
      refine V_iret hC hR dX5_put__152 ⟨rfl, rfl, _, rfl, ?_⟩
      rw [bts, List.append_nil] at he
      subst he
      have hle : p.length = S.2.2.2.length + cntB 8 C := by rw [hTG, List.length_append, bts_len]
      rw [sPut, if_neg hcn, if_neg (by omega)]
      exact ⟨by rw [hp.1, hle], MIs.mk ⟨hm, hh2, hs2, by show rPad pd pn (S.2.2.2 ++ bts C (cntB 8 C)); rw [← hTG]; exact hp⟩⟩
    | succ n ih =>
      intro p pd pn gd r v3 hn8 hgd hp he
      have e1 : nI (n + 1) - 1 = nI n := nI_pred n
      have hpl : p.length + 1 + n ≤ 60 := by rw [← he, List.length_append, bts_len] at hT60; omega
      refine V_lo (lo2 := [some (.ref (ad o)), some (.long (lN C)), none, some (.int v3), gd, r, none, some (.int (nI n))]) (by rw [e1]; exact fun q hq => hq) ?_
      refine V_iload hC dX5_put__106 rfl ?_
      refine V_if_lt_f (tgt := 148) hC dX5_put__108 (by decide) (nI_pos (by omega)) ?_
      refine V_aload_n hC dX5_put__111 rfl rfl ?_
      refine V_zM_pad hC hN dX5_put__112 inX5_X5_put_ (by decide +kernel) ?_
      refine V_aload_n hC dX5_put__115 rfl rfl ?_
      refine V_zM_padLong hC hN dX5_put__116 inX5_X5_put_ (by decide +kernel) ?_
      refine V_lload_n hC dX5_put__119 rfl rfl ?_
      refine V_bipush hC 8 dX5_put__120 (by decide) ?_
      refine V_iload hC dX5_put__122 rfl ?_
      refine V_imul hC dX5_put__124 ?_
      refine V_lushr hC dX5_put__125 ?_
      refine V_ldc2 (v := 255) hC dX5_put__126 (by decide +kernel) ?_
      refine V_land hC dX5_put__129 ?_
      refine V_l2i hC dX5_put__130 ?_
      refine V_eqt (nI (C / 256 ^ n % 256)) (byt_at hC64 (by omega)) ?_
      refine V_zM_st6 hC hN dX5_put__131 (ix_of (j := p.length) hp.1 (by omega) (by decide)) ?_
      refine V_aload_n hC dX5_put__132 rfl rfl ?_
      refine V_dup hC dX5_put__133 rfl ?_
      refine V_zM_padLong hC hN dX5_put__134 inX5_X5_put_ (by decide +kernel) ?_
      refine V_iconst hC 1 dX5_put__137 (by decide) ?_
      refine V_iadd hC dX5_put__138 ?_
      refine V_zM_put_padLong hC hN dX5_put__139 inX5_X5_put_ (by decide +kernel) ?_
      refine V_iinc7 hC (nI n - 1) dX5_put__142 (im1 _) (by rw [hnl]; decide) rfl ?_
      refine V_goto hC 106 dX5_put__145 (by decide) ?_
      refine ih (p ++ [nI (C / 256 ^ n % 256)]) _ _ gd r v3 (by omega) hgd ?_ (by rw [List.append_assoc]; exact he)
      refine ⟨by rw [hp.1, List.length_append]; exact nI_1 _, by rw [List.length_append]; simp; omega, fun j x hj => ?_⟩
      have hjl : j < p.length + 1 := by simpa using (List.getElem?_eq_some_iff.mp hj).1
      by_cases hjp : j < p.length
      · rw [pk_un (by omega)]
        exact hp.2.2 j x ((cut_s hjp).mp hj)
      · have : j = p.length := by omega
        subst this
        rw [cut_m] at hj
        cases hj
        exact pk_us
  have Ex : V E g N ad 0 0 (zM g ad f o a kp hs hl so sv pd pn sp od wb nb) 68 [some (.ref (ad o)), some (.long (lN C)), none, some (.int (nI (cntB 8 C))), some (.int (b2 (okB 8 C))), some (.long (lN (C / 256 ^ cntB 8 C))), none, none] [] := by
    have hc8 := cntB_le 8 C
    have hr64 : C / 256 ^ cntB 8 C < 2 ^ 64 := Nat.lt_of_le_of_lt (Nat.div_le_self _ _) hC64
    refine V_iload_n hC dX5_put__68 rfl rfl ?_
    refine V_if_eq hC 84 dX5_put__69 (by decide) (fun c69 => ?_) (fun c69 => ?_)
    · have hcn : cntB 8 C = 0 ∨ C / 256 ^ cntB 8 C ≠ 0 ∨ okB 8 C = false := Or.inl ((nI_eq (b := 0) (by omega) (by decide)).mp c69)
      refine V_bipush hC (-2) dX5_put__84 (by decide) ?_
      refine V_iret hC hR dX5_put__86 ⟨rfl, rfl, _, rfl, ?_⟩
      rw [sPut, if_pos hcn]
      exact ⟨rfl, MIs.mk ⟨hm, hh2, hs2, hp2⟩⟩
    · have h0 : ¬ cntB 8 C = 0 := fun q => c69 (by rw [q]; rfl)
      refine V_lload hC dX5_put__72 rfl ?_
      refine V_lconst hC 0 dX5_put__74 (by decide) ?_
      refine V_lcmp hC dX5_put__75 ?_
      refine V_if_ne hC 84 dX5_put__76 (by decide) (fun c76 => ?_) (fun c76 => ?_)
      · have hcn : cntB 8 C = 0 ∨ C / 256 ^ cntB 8 C ≠ 0 ∨ okB 8 C = false := Or.inr (Or.inl (fun q => c76 (by rw [q]; rfl)))
        refine V_bipush hC (-2) dX5_put__84 (by decide) ?_
        refine V_iret hC hR dX5_put__86 ⟨rfl, rfl, _, rfl, ?_⟩
        rw [sPut, if_pos hcn]
        exact ⟨rfl, MIs.mk ⟨hm, hh2, hs2, hp2⟩⟩
      · have h1 : C / 256 ^ cntB 8 C = 0 := by rw [lg_cmp_eq] at c76; exact (lN_z2 hr64).mp c76
        refine V_iload hC dX5_put__79 rfl ?_
        refine V_if_ne hC 87 dX5_put__81 (by decide) (fun c81 => ?_) (fun c81 => ?_)
        · have hcn : ¬ (cntB 8 C = 0 ∨ C / 256 ^ cntB 8 C ≠ 0 ∨ okB 8 C = false) := by rintro (q | q | q); exact h0 q; exact q h1; rw [q] at c81; exact c81 rfl
          refine V_aload_n hC dX5_put__87 rfl rfl ?_
          refine V_zM_padLong hC hN dX5_put__88 inX5_X5_put_ (by decide +kernel) ?_
          refine V_iload_n hC dX5_put__91 rfl rfl ?_
          refine V_iadd hC dX5_put__92 ?_
          refine V_eqt (nI (S.2.2.2.length + cntB 8 C)) (by rw [hp2.1, nI_add]) ?_
          refine V_bipush hC 60 dX5_put__93 (by decide) ?_
          refine V_icmp_le hC 101 dX5_put__95 (by decide) (fun c95 => ?_) (fun c95 => ?_)
          · have h60 : S.2.2.2.length + cntB 8 C ≤ 60 := (nI_leI (b := 60) (by have := hp2.2.1; omega) (by decide)).mp c95
            refine V_iload_n hC dX5_put__101 rfl rfl ?_
            refine V_iconst hC 1 dX5_put__102 (by decide) ?_
            refine V_isub hC dX5_put__103 ?_
            refine V_istore7 hC dX5_put__104 (by rw [hnl]; decide) rfl ?_
            exact loop2 _ rfl (by rw [List.length_append, bts_len]; exact h60) hcn (cntB 8 C) S.2.2.2 pd pn _ _ _ hc8 rfl hp2 rfl
          · have h60 : 60 < S.2.2.2.length + cntB 8 C := by rcases Nat.lt_or_ge 60 (S.2.2.2.length + cntB 8 C) with q | q; exact q; exact absurd (nI_le (b := 60) q (by decide)) c95
            refine V_bipush hC (-4) dX5_put__98 (by decide) ?_
            refine V_iret hC hR dX5_put__100 ⟨rfl, rfl, _, rfl, ?_⟩
            rw [sPut, if_neg hcn, if_pos h60]
            exact ⟨rfl, MIs.mk ⟨hm, hh2, hs2, hp2⟩⟩
        · have hcn : cntB 8 C = 0 ∨ C / 256 ^ cntB 8 C ≠ 0 ∨ okB 8 C = false := Or.inr (Or.inr (by cases hok : okB 8 C with | false => rfl | true => rw [hok] at c81; exact absurd c81 (by decide)))
          refine V_bipush hC (-2) dX5_put__84 (by decide) ?_
          refine V_iret hC hR dX5_put__86 ⟨rfl, rfl, _, rfl, ?_⟩
          rw [sPut, if_pos hcn]
          exact ⟨rfl, MIs.mk ⟨hm, hh2, hs2, hp2⟩⟩
  have loop : ∀ (f2 k r : Nat) (gd : Bool), k + f2 = 8 → r < 2 ^ 64 → k + cntB f2 r = cntB 8 C → r / 256 ^ cntB f2 r = C / 256 ^ cntB 8 C → (gd && okB f2 r) = okB 8 C → V E g N ad 0 0 (zM g ad f o a kp hs hl so sv pd pn sp od wb nb) 8 [some (.ref (ad o)), some (.long (lN C)), none, some (.int (nI k)), some (.int (b2 gd)), some (.long (lN r)), none, none] [] := by
    intro f2
    induction f2 with
    | zero =>
      intro k r gd hk hr e1 e2 e3
      have hk8 : k = 8 := by omega
      subst hk8
      rw [cntB, Nat.add_zero] at e1
      rw [cntB, Nat.pow_zero, Nat.div_one] at e2
      rw [okB, Bool.and_true] at e3
      refine V_iload_n hC dX5_put__8 rfl rfl ?_
      refine V_bipush hC 8 dX5_put__9 (by decide) ?_
      refine V_icmp_ge_t hC 68 dX5_put__11 (by decide) (by decide) ?_
      rw [show (8 : Nat) = cntB 8 C from e1, e2, e3]
      exact Ex
    | succ f2 ih =>
      intro k r gd hk hr e1 e2 e3
      have hr2 : r / 256 < 2 ^ 64 := Nat.lt_of_le_of_lt (Nat.div_le_self _ _) hr
      refine V_iload_n hC dX5_put__8 rfl rfl ?_
      refine V_bipush hC 8 dX5_put__9 (by decide) ?_
      refine V_icmp_ge_f (tgt := 68) hC dX5_put__11 (by decide) (nI_ge (a := k) (b := 8) (by omega) (by decide)) ?_
      refine V_lload hC dX5_put__14 rfl ?_
      refine V_ldc2 (v := 255) hC dX5_put__16 (by decide +kernel) ?_
      refine V_land hC dX5_put__19 ?_
      refine V_lconst hC 0 dX5_put__20 (by decide) ?_
      refine V_lcmp hC dX5_put__21 ?_
      refine V_if_eq hC 68 dX5_put__22 (by decide) (fun c22 => ?_) (fun c22 => ?_)
      · have hz : r % 256 = 0 := (lnz hr).mp c22
        rw [cntB, if_pos hz, Nat.add_zero] at e1
        rw [cntB, if_pos hz, Nat.pow_zero, Nat.div_one] at e2
        rw [okB, if_pos hz, Bool.and_true] at e3
        rw [e1, e2, e3]
        exact Ex
      · have hz : ¬ r % 256 = 0 := fun q => c22 ((lnz hr).mpr q)
        rw [cntB, if_neg hz] at e1 e2
        rw [okB, if_neg hz] at e3
        rw [Nat.pow_succ, Nat.mul_comm, ← Nat.div_div_eq_div_mul] at e2
        refine V_iload hC dX5_put__25 rfl ?_
        refine V_if_eq hC 52 dX5_put__27 (by decide) (fun c27 => ?_) (fun c27 => ?_)
        · have hg : gd = false := by cases gd with | false => rfl | true => exact absurd c27 (by decide)
          refine V_iconst hC 0 dX5_put__52 (by decide) ?_
          refine V_istore4 hC dX5_put__53 (by rw [hnl]; decide) rfl ?_
          refine V_lload hC dX5_put__55 rfl ?_
          refine V_bipush hC 8 dX5_put__57 (by decide) ?_
          refine V_lushr hC dX5_put__59 ?_
          refine V_lstore5 hC dX5_put__60 (by rw [hnl]; decide) rfl ?_
          refine V_iinc3 hC (nI (k + 1)) dX5_put__62 (nI_1 k) (by rw [hnl]; decide) rfl ?_
          refine V_goto hC 8 dX5_put__65 (by decide) ?_
          have := ih (k + 1) (r / 256) false (by omega) hr2 (by omega) e2 (by rw [← e3, hg]; rfl)
          rw [shr8 hr]
          exact this
        · have hg : gd = true := by cases gd with | true => rfl | false => exact absurd rfl c27
          refine V_lload hC dX5_put__30 rfl ?_
          refine V_ldc2 (v := 255) hC dX5_put__32 (by decide +kernel) ?_
          refine V_land hC dX5_put__35 ?_
          refine V_ldc2 (v := 33) hC dX5_put__36 (by decide +kernel) ?_
          refine V_ldc2 (v := 126) hC dX5_put__39 (by decide +kernel) ?_
          refine V_csI (n := 3) hC (c_X5_in g (eL E) _ _ _) dX5_put__42 gX5_put__X5_in rfl rfl rfl ⟨rfl, rfl⟩ (by decide +kernel) (by decide +kernel) (Nat.le_of_ble_eq_true rfl) (by decide) (fun x42 u42 h42 => ?_)
          rcases h42 with ⟨rfl, hj, rfl⟩ | ⟨rfl, hj, rfl⟩
          · rw [byt_in hr] at hj
            refine V_if_eq_f (tgt := 52) hC dX5_put__45 (by decide) (by decide) ?_
            refine V_iconst hC 1 dX5_put__48 (by decide) ?_
            refine V_goto hC 53 dX5_put__49 (by decide) ?_
            refine V_istore4 hC dX5_put__53 (by rw [hnl]; decide) rfl ?_
            refine V_lload hC dX5_put__55 rfl ?_
            refine V_bipush hC 8 dX5_put__57 (by decide) ?_
            refine V_lushr hC dX5_put__59 ?_
            refine V_lstore5 hC dX5_put__60 (by rw [hnl]; decide) rfl ?_
            refine V_iinc3 hC (nI (k + 1)) dX5_put__62 (nI_1 k) (by rw [hnl]; decide) rfl ?_
            refine V_goto hC 8 dX5_put__65 (by decide) ?_
            have := ih (k + 1) (r / 256) true (by omega) hr2 (by omega) e2 (by rw [← e3, hg]; simp only [hj, decide_true, Bool.and_self, Bool.true_and])
            rw [shr8 hr]
            exact this
          · rw [byt_in hr] at hj
            refine V_if_eq_t hC 52 dX5_put__45 (by decide) rfl ?_
            refine V_iconst hC 0 dX5_put__52 (by decide) ?_
            refine V_istore4 hC dX5_put__53 (by rw [hnl]; decide) rfl ?_
            refine V_lload hC dX5_put__55 rfl ?_
            refine V_bipush hC 8 dX5_put__57 (by decide) ?_
            refine V_lushr hC dX5_put__59 ?_
            refine V_lstore5 hC dX5_put__60 (by rw [hnl]; decide) rfl ?_
            refine V_iinc3 hC (nI (k + 1)) dX5_put__62 (nI_1 k) (by rw [hnl]; decide) rfl ?_
            refine V_goto hC 8 dX5_put__65 (by decide) ?_
            have := ih (k + 1) (r / 256) false (by omega) hr2 (by omega) e2 (by rw [← e3, hg, ← Bool.decide_and, decide_eq_false hj]; rfl)
            rw [shr8 hr]
            exact this
  refine V_iconst hC 0 dX5_put__0 (by decide) ?_
  refine V_istore_n3 hC dX5_put__1 rfl (by rw [hnl]; decide) rfl ?_
  refine V_iconst hC 1 dX5_put__2 (by decide) ?_
  refine V_istore4 hC dX5_put__3 (by rw [hnl]; decide) rfl ?_
  refine V_lload_n hC dX5_put__5 rfl rfl ?_
  refine V_lstore5 hC dX5_put__6 (by rw [hnl]; decide) rfl ?_
  exact loop 8 0 C true rfl hC64 (Nat.zero_add _) rfl (Bool.true_and _)
