theorem lp_end {α : Type} {d : List α} {z : Int32} (h : z = nI (d ++ []).length) (hb : (d ++ []).length ≤ 1000) : z ≤ nI d.length := by
  rw [h]
  simp only [List.append_nil] at hb ⊢
  exact nI_le (Nat.le_refl _) (by omega)
theorem lp_go {α : Type} {d r : List α} {x : α} {z : Int32} (h : z = nI (d ++ x :: r).length) (hb : (d ++ x :: r).length ≤ 1000) : ¬ z ≤ nI d.length := by
  rw [h]
  simp only [List.length_append, List.length_cons] at hb ⊢
  exact nI_ge (by omega) (by omega)
theorem len_s {α : Type} {d : List α} {y : α} : nI d.length + Int32.ofInt 1 = nI (d ++ [y]).length := by
  rw [List.length_append]
  exact nI_1 _
theorem xSee_no {x : Nat → Int32} (h : unseen x = false) : xSee x = x := by simp [xSee, h]
theorem xSee_yes {x : Nat → Int32} (h : unseen x = true) : xSee x = upd x 2 1 := by simp [xSee, h]
theorem inX5_X5_keep : ∀ w ∈ wsX50, w ∈ wsX5_keep := by decide +kernel
abbrev rmX5_keep : Room := { frames := 0, cells := 0, slots := 0, locals := 0 }
set_option maxHeartbeats 4000000 in
set_option maxRecDepth 100000 in
theorem c_X5_keep (g : GE) (lau : Launch) {N : Nat} {ad : Nat → Nat} {f : Nat → va_E} {o : Nat} {a kp hs : Nat → Int32} {hl : Int32} {so sv pd : Nat → Int32} {pn sp od wb nb : Int32} (hN : o + 7 ≤ N) : Ct g lau yX5_keep wsX5_keep rmX5_keep N ad [.ref (ad o)] (zM g ad f o a kp hs hl so sv pd pn sp od wb nb) (pV N ad (fun u => u = (zM g ad f o a (cpN a kp 160) hs hl so sv pd pn sp od wb nb))) 0 0 := by
  refine Ct.of (maxL := 2) rfl (by decide +kernel) [some (.ref (ad o)), none] (Nat.le_of_ble_eq_true rfl) (by simp [lvo, lv_args, Value.category]) (fun E hnl _ hC hR => ?_)
  have loop : ∀ (n k : Nat), k + n = 160 → V E g N ad 0 0 (zM g ad f o a (cpN a kp k) hs hl so sv pd pn sp od wb nb) 2 [some (.ref (ad o)), some (.int (nI k))] [] := by
    intro n
    induction n with
    | zero =>
      intro k hk
      have hk : k = 160 := by omega
      subst hk
      refine V_iload_n hC dX5_keep_2 rfl rfl ?_
      refine V_sipush hC 160 dX5_keep_3 (by decide) ?_
      refine V_icmp_ge_t hC 27 dX5_keep_6 (by decide) (by decide) ?_
      refine V_vret hC hR dX5_keep_27 ⟨rfl, rfl, rfl, ?_⟩
      exact rfl
    | succ n ih =>
      intro k hk
      refine V_iload_n hC dX5_keep_2 rfl rfl ?_
      refine V_sipush hC 160 dX5_keep_3 (by decide) ?_
      refine V_icmp_ge_f (tgt := 27) hC dX5_keep_6 (by decide) (nI_ge (a := k) (b := 160) (by omega) (by decide)) ?_
      refine V_aload_n hC dX5_keep_9 rfl rfl ?_
      refine V_zM_kept hC hN dX5_keep_10 inX5_X5_keep (by decide +kernel) ?_
      refine V_iload_n hC dX5_keep_13 rfl rfl ?_
      refine V_aload_n hC dX5_keep_14 rfl rfl ?_
      refine V_zM_all hC hN dX5_keep_15 inX5_X5_keep (by decide +kernel) ?_
      refine V_iload_n hC dX5_keep_18 rfl rfl ?_
      refine V_zM_ld1 hC hN dX5_keep_19 (ix_nI (j := k) (by omega) (by decide)) ?_
      refine V_zM_st2 hC hN dX5_keep_20 (ix_nI (j := k) (by omega) (by decide)) ?_
      refine V_iinc1 hC (nI (k + 1)) dX5_keep_21 (nI_1 k) (by rw [hnl]; decide) rfl ?_
      refine V_goto hC 2 dX5_keep_24 (by decide) ?_
      refine V_f ?_ (ih (k + 1) (by omega))
      rw [← cpN_s]
  refine V_iconst hC 0 dX5_keep_0 (by decide) ?_
  refine V_istore_n1 hC dX5_keep_1 rfl (by rw [hnl]; decide) rfl ?_
  have := loop 160 0 rfl
  rw [cpN_0] at this
  exact this
theorem inX5_X5_giveBack : ∀ w ∈ wsX50, w ∈ wsX5_giveBack := by decide +kernel
abbrev rmX5_giveBack : Room := { frames := 0, cells := 0, slots := 0, locals := 0 }
set_option maxHeartbeats 4000000 in
set_option maxRecDepth 100000 in
theorem c_X5_giveBack (g : GE) (lau : Launch) {N : Nat} {ad : Nat → Nat} {f : Nat → va_E} {o : Nat} {a kp hs : Nat → Int32} {hl : Int32} {so sv pd : Nat → Int32} {pn sp od wb nb : Int32} (hN : o + 7 ≤ N) : Ct g lau yX5_giveBack wsX5_giveBack rmX5_giveBack N ad [.ref (ad o)] (zM g ad f o a kp hs hl so sv pd pn sp od wb nb) (pV N ad (fun u => u = (zM g ad f o (cpN kp a 160) kp hs hl so sv pd pn sp od wb nb))) 0 0 := by
  refine Ct.of (maxL := 2) rfl (by decide +kernel) [some (.ref (ad o)), none] (Nat.le_of_ble_eq_true rfl) (by simp [lvo, lv_args, Value.category]) (fun E hnl _ hC hR => ?_)
  have loop : ∀ (n k : Nat), k + n = 160 → V E g N ad 0 0 (zM g ad f o (cpN kp a k) kp hs hl so sv pd pn sp od wb nb) 2 [some (.ref (ad o)), some (.int (nI k))] [] := by
    intro n
    induction n with
    | zero =>
      intro k hk
      have hk : k = 160 := by omega
      subst hk
      refine V_iload_n hC dX5_giveBack_2 rfl rfl ?_
      refine V_sipush hC 160 dX5_giveBack_3 (by decide) ?_
      refine V_icmp_ge_t hC 27 dX5_giveBack_6 (by decide) (by decide) ?_
      refine V_vret hC hR dX5_giveBack_27 ⟨rfl, rfl, rfl, ?_⟩
      exact rfl
    | succ n ih =>
      intro k hk
      refine V_iload_n hC dX5_giveBack_2 rfl rfl ?_
      refine V_sipush hC 160 dX5_giveBack_3 (by decide) ?_
      refine V_icmp_ge_f (tgt := 27) hC dX5_giveBack_6 (by decide) (nI_ge (a := k) (b := 160) (by omega) (by decide)) ?_
      refine V_aload_n hC dX5_giveBack_9 rfl rfl ?_
      refine V_zM_all hC hN dX5_giveBack_10 inX5_X5_giveBack (by decide +kernel) ?_
      refine V_iload_n hC dX5_giveBack_13 rfl rfl ?_
      refine V_aload_n hC dX5_giveBack_14 rfl rfl ?_
      refine V_zM_kept hC hN dX5_giveBack_15 inX5_X5_giveBack (by decide +kernel) ?_
      refine V_iload_n hC dX5_giveBack_18 rfl rfl ?_
      refine V_zM_ld2 hC hN dX5_giveBack_19 (ix_nI (j := k) (by omega) (by decide)) ?_
      refine V_zM_st1 hC hN dX5_giveBack_20 (ix_nI (j := k) (by omega) (by decide)) ?_
      refine V_iinc1 hC (nI (k + 1)) dX5_giveBack_21 (nI_1 k) (by rw [hnl]; decide) rfl ?_
      refine V_goto hC 2 dX5_giveBack_24 (by decide) ?_
      refine V_f ?_ (ih (k + 1) (by omega))
      rw [← cpN_s]
  refine V_iconst hC 0 dX5_giveBack_0 (by decide) ?_
  refine V_istore_n1 hC dX5_giveBack_1 rfl (by rw [hnl]; decide) rfl ?_
  have := loop 160 0 rfl
  rw [cpN_0] at this
  exact this
theorem inX5_X5_takesOut : ∀ w ∈ wsX50, w ∈ wsX5_takesOut := by decide +kernel
abbrev rmX5_takesOut : Room := { frames := 0, cells := 0, slots := 0, locals := 0 }
set_option maxHeartbeats 4000000 in
set_option maxRecDepth 100000 in
theorem c_X5_takesOut (g : GE) (lau : Launch) {N : Nat} {ad : Nat → Nat} {f : Nat → va_E} {o : Nat} {a kp hs : Nat → Int32} {hl : Int32} {so sv pd : Nat → Int32} {pn sp od wb nb : Int32} (hN : o + 7 ≤ N) {fr ea mn pl : Nat} (he : 0 < ea) (hpm : ea * pl ≤ ea * (mn - 1)) (hm : 0 < mn) (hlim : fr + ea * (mn - 1) + ea ≤ 160) : Ct g lau yX5_takesOut wsX5_takesOut rmX5_takesOut N ad [.ref (ad o), .int (nI fr), .int (nI ea), .int (nI mn), .int (nI pl)] (zM g ad f o a kp hs hl so sv pd pn sp od wb nb) (pV N ad (fun u => u = (zM g ad f o (tko a (fr + ea * pl) (fr + ea * (mn - 1)) ea) kp hs hl so sv pd pn sp od wb nb))) 0 0 := by
  refine Ct.of (maxL := 6) rfl (by decide +kernel) [some (.ref (ad o)), some (.int (nI fr)), some (.int (nI ea)), some (.int (nI mn)), some (.int (nI pl)), none] (Nat.le_of_ble_eq_true rfl) (by simp [lvo, lv_args, Value.category]) (fun E hnl _ hC hR => ?_)
  have e1 : nI ea * (nI mn - 1) = nI (ea * (mn - 1)) := by rw [show (1 : Int32) = nI 1 from rfl, pk_sub (by omega), pk_mul]
  have loop : ∀ (n k : Nat), k + n = ea * (mn - 1) → ea * pl ≤ k → V E g N ad 0 0 (zM g ad f o (tko a (fr + ea * pl) (fr + k) ea) kp hs hl so sv pd pn sp od wb nb) 6 [some (.ref (ad o)), some (.int (nI fr)), some (.int (nI ea)), some (.int (nI mn)), some (.int (nI pl)), some (.int (nI k))] [] := by
    intro n
    induction n with
    | zero =>
      intro k hk hk2
      have hk : k = ea * (mn - 1) := by omega
      subst hk
      refine V_iload hC dX5_takesOut_6 rfl ?_
      refine V_iload_n hC dX5_takesOut_8 rfl rfl ?_
      refine V_iload_n hC dX5_takesOut_9 rfl rfl ?_
      refine V_iconst hC 1 dX5_takesOut_10 (by decide) ?_
      refine V_isub hC dX5_takesOut_11 ?_
      refine V_imul hC dX5_takesOut_12 ?_
      refine V_icmp_ge_t hC 42 dX5_takesOut_13 (by decide) (by rw [e1]; exact nI_le (Nat.le_refl _) (by omega)) ?_
      refine V_vret hC hR dX5_takesOut_42 ⟨rfl, rfl, rfl, ?_⟩
      exact rfl
    | succ n ih =>
      intro k hk hk2
      refine V_iload hC dX5_takesOut_6 rfl ?_
      refine V_iload_n hC dX5_takesOut_8 rfl rfl ?_
      refine V_iload_n hC dX5_takesOut_9 rfl rfl ?_
      refine V_iconst hC 1 dX5_takesOut_10 (by decide) ?_
      refine V_isub hC dX5_takesOut_11 ?_
      refine V_imul hC dX5_takesOut_12 ?_
      refine V_icmp_ge_f (tgt := 42) hC dX5_takesOut_13 (by decide) (by rw [e1]; exact nI_ge (by omega) (by omega)) ?_
      refine V_aload_n hC dX5_takesOut_16 rfl rfl ?_
      refine V_zM_all hC hN dX5_takesOut_17 inX5_X5_takesOut (by decide +kernel) ?_
      refine V_iload_n hC dX5_takesOut_20 rfl rfl ?_
      refine V_iload hC dX5_takesOut_21 rfl ?_
      refine V_iadd hC dX5_takesOut_23 ?_
      refine V_aload_n hC dX5_takesOut_24 rfl rfl ?_
      refine V_zM_all hC hN dX5_takesOut_25 inX5_X5_takesOut (by decide +kernel) ?_
      refine V_iload_n hC dX5_takesOut_28 rfl rfl ?_
      refine V_iload hC dX5_takesOut_29 rfl ?_
      refine V_iadd hC dX5_takesOut_31 ?_
      refine V_iload_n hC dX5_takesOut_32 rfl rfl ?_
      refine V_iadd hC dX5_takesOut_33 ?_
      refine V_zM_ld1 hC hN dX5_takesOut_34 (ix_of (j := fr + k + ea) (by rw [nI_add, nI_add]) (by omega) (by decide)) ?_
      refine V_zM_st1 hC hN dX5_takesOut_35 (ix_of (j := fr + k) (by rw [nI_add]) (by omega) (by decide)) ?_
      refine V_iinc5 hC (nI (k + 1)) dX5_takesOut_36 (nI_1 k) (by rw [hnl]; decide) rfl ?_
      refine V_goto hC 6 dX5_takesOut_39 (by decide) ?_
      refine V_f ?_ (ih (k + 1) (by omega) (by omega))
      rw [tko_s (by omega) (by omega)]
      rfl
  refine V_iload_n hC dX5_takesOut_0 rfl rfl ?_
  refine V_iload hC dX5_takesOut_1 rfl ?_
  refine V_imul hC dX5_takesOut_3 ?_
  refine V_eqt (nI (ea * pl)) (pk_mul ea pl) ?_
  refine V_istore5 hC dX5_takesOut_4 (by rw [hnl]; decide) rfl ?_
  have := loop (ea * (mn - 1) - ea * pl) (ea * pl) (by omega) (Nat.le_refl _)
  rw [tko_0 _ _ _ _ (Nat.le_refl _)] at this
  exact this
theorem inX5_X5_moves : ∀ w ∈ wsX50, w ∈ wsX5_moves := by decide +kernel
abbrev rmX5_moves : Room := { frames := 1, cells := 0, slots := 0, locals := 23 }
set_option maxHeartbeats 4000000 in
set_option maxRecDepth 100000 in
theorem c_X5_moves (g : GE) (lau : Launch) {N : Nat} {ad : Nat → Nat} {f : Nat → va_E} {o : Nat} {a kp hs : Nat → Int32} {hl : Int32} {so sv pd : Nat → Int32} {pn sp od wb nb : Int32} (hN : o + 7 ≤ N) {h : Nat → Int32} {bs : List (Nat → Int32)} {rs : List (Int32 × Int32)} {ps : List Int32} (hh : rH a h) (hb : rB a bs) (hr : rR a rs) (hp : rP a ps) : Ct g lau yX5_moves wsX5_moves rmX5_moves N ad [.ref (ad o)] (zM g ad f o a kp hs hl so sv pd pn sp od wb nb) (pV N ad (fun u => ∃ a2, u = (zM g ad f o a2 kp hs hl so sv pd pn sp od wb nb) ∧ RepR a2 (mMove (h, bs, rs, ps)))) 0 0 := by
  refine Ct.of (maxL := 2) rfl (by decide +kernel) [some (.ref (ad o)), none] (Nat.le_of_ble_eq_true rfl) (by simp [lvo, lv_args, Value.category]) (fun E hnl _ hC hR => ?_)
  have loop : ∀ (r d : List (Nat → Int32)) (a : Nat → Int32), d ++ r.map (xMove (h 0)) = bs.map (xMove (h 0)) → rH a h → rB a (d ++ r) → rR a rs → rP a ps → V E g N ad 0 0 (zM g ad f o a kp hs hl so sv pd pn sp od wb nb) 2 [some (.ref (ad o)), some (.int (nI d.length))] [] := by
    intro r
    induction r with
    | nil =>
      intro d a ht hh hb hr hp
      refine V_iload_n hC dX5_moves_2 rfl rfl ?_
      refine V_aload_n hC dX5_moves_3 rfl rfl ?_
      refine V_zM_all hC hN dX5_moves_4 inX5_X5_moves (by decide +kernel) ?_
      refine V_bipush hC 9 dX5_moves_7 (by decide) ?_
      refine V_zM_ld1 hC hN (k := 9) dX5_moves_9 (ix_c (by decide)) ?_
      refine V_icmp_ge_t hC 38 dX5_moves_10 (by decide) (lp_end hb.1 (Nat.le_trans hb.2.1 (by decide))) ?_
      refine V_iconst hC 4 dX5_moves_38 (by decide) ?_
      refine V_istore_n1 hC dX5_moves_39 rfl (by rw [hnl]; decide) rfl ?_
      refine V_iload_n hC dX5_moves_40 rfl rfl ?_
      refine V_if_le_f (tgt := 70) hC dX5_moves_41 (by decide) (by decide) ?_
      refine V_aload_n hC dX5_moves_44 rfl rfl ?_
      refine V_zM_all hC hN dX5_moves_45 inX5_X5_moves (by decide +kernel) ?_
      refine V_bipush hC 22 dX5_moves_48 (by decide) ?_
      refine V_iload_n hC dX5_moves_50 rfl rfl ?_
      refine V_iadd hC dX5_moves_51 ?_
      refine V_aload_n hC dX5_moves_52 rfl rfl ?_
      refine V_zM_all hC hN dX5_moves_53 inX5_X5_moves (by decide +kernel) ?_
      refine V_bipush hC 22 dX5_moves_56 (by decide) ?_
      refine V_iload_n hC dX5_moves_58 rfl rfl ?_
      refine V_iadd hC dX5_moves_59 ?_
      refine V_iconst hC 1 dX5_moves_60 (by decide) ?_
      refine V_isub hC dX5_moves_61 ?_
      refine V_zM_ld1 hC hN dX5_moves_62 (show ix _ 25 160 from ix_c (by decide)) ?_
      refine V_zM_st1 hC hN dX5_moves_63 (show ix _ 26 160 from ix_c (by decide)) ?_
      refine V_iinc1 hC 3 dX5_moves_64 (by decide) (by rw [hnl]; decide) rfl ?_
      refine V_goto hC 40 dX5_moves_67 (by decide) ?_
      refine V_iload_n hC dX5_moves_40 rfl rfl ?_
      refine V_if_le_f (tgt := 70) hC dX5_moves_41 (by decide) (by decide) ?_
      refine V_aload_n hC dX5_moves_44 rfl rfl ?_
      refine V_zM_all hC hN dX5_moves_45 inX5_X5_moves (by decide +kernel) ?_
      refine V_bipush hC 22 dX5_moves_48 (by decide) ?_
      refine V_iload_n hC dX5_moves_50 rfl rfl ?_
      refine V_iadd hC dX5_moves_51 ?_
      refine V_aload_n hC dX5_moves_52 rfl rfl ?_
      refine V_zM_all hC hN dX5_moves_53 inX5_X5_moves (by decide +kernel) ?_
      refine V_bipush hC 22 dX5_moves_56 (by decide) ?_
      refine V_iload_n hC dX5_moves_58 rfl rfl ?_
      refine V_iadd hC dX5_moves_59 ?_
      refine V_iconst hC 1 dX5_moves_60 (by decide) ?_
      refine V_isub hC dX5_moves_61 ?_
      refine V_zM_ld1 hC hN dX5_moves_62 (show ix _ 24 160 from ix_c (by decide)) ?_
      refine V_zM_st1 hC hN dX5_moves_63 (show ix _ 25 160 from ix_c (by decide)) ?_
      refine V_iinc1 hC 2 dX5_moves_64 (by decide) (by rw [hnl]; decide) rfl ?_
      refine V_goto hC 40 dX5_moves_67 (by decide) ?_
      refine V_iload_n hC dX5_moves_40 rfl rfl ?_
      refine V_if_le_f (tgt := 70) hC dX5_moves_41 (by decide) (by decide) ?_
      refine V_aload_n hC dX5_moves_44 rfl rfl ?_
      refine V_zM_all hC hN dX5_moves_45 inX5_X5_moves (by decide +kernel) ?_
      refine V_bipush hC 22 dX5_moves_48 (by decide) ?_
      refine V_iload_n hC dX5_moves_50 rfl rfl ?_
      refine V_iadd hC dX5_moves_51 ?_
      refine V_aload_n hC dX5_moves_52 rfl rfl ?_
      refine V_zM_all hC hN dX5_moves_53 inX5_X5_moves (by decide +kernel) ?_
      refine V_bipush hC 22 dX5_moves_56 (by decide) ?_
      refine V_iload_n hC dX5_moves_58 rfl rfl ?_
      refine V_iadd hC dX5_moves_59 ?_
      refine V_iconst hC 1 dX5_moves_60 (by decide) ?_
      refine V_isub hC dX5_moves_61 ?_
      refine V_zM_ld1 hC hN dX5_moves_62 (show ix _ 23 160 from ix_c (by decide)) ?_
      refine V_zM_st1 hC hN dX5_moves_63 (show ix _ 24 160 from ix_c (by decide)) ?_
      refine V_iinc1 hC 1 dX5_moves_64 (by decide) (by rw [hnl]; decide) rfl ?_
      refine V_goto hC 40 dX5_moves_67 (by decide) ?_
      refine V_iload_n hC dX5_moves_40 rfl rfl ?_
      refine V_if_le_f (tgt := 70) hC dX5_moves_41 (by decide) (by decide) ?_
      refine V_aload_n hC dX5_moves_44 rfl rfl ?_
      refine V_zM_all hC hN dX5_moves_45 inX5_X5_moves (by decide +kernel) ?_
      refine V_bipush hC 22 dX5_moves_48 (by decide) ?_
      refine V_iload_n hC dX5_moves_50 rfl rfl ?_
      refine V_iadd hC dX5_moves_51 ?_
      refine V_aload_n hC dX5_moves_52 rfl rfl ?_
      refine V_zM_all hC hN dX5_moves_53 inX5_X5_moves (by decide +kernel) ?_
      refine V_bipush hC 22 dX5_moves_56 (by decide) ?_
      refine V_iload_n hC dX5_moves_58 rfl rfl ?_
      refine V_iadd hC dX5_moves_59 ?_
      refine V_iconst hC 1 dX5_moves_60 (by decide) ?_
      refine V_isub hC dX5_moves_61 ?_
      refine V_zM_ld1 hC hN dX5_moves_62 (show ix _ 22 160 from ix_c (by decide)) ?_
      refine V_zM_st1 hC hN dX5_moves_63 (show ix _ 23 160 from ix_c (by decide)) ?_
      refine V_iinc1 hC 0 dX5_moves_64 (by decide) (by rw [hnl]; decide) rfl ?_
      refine V_goto hC 40 dX5_moves_67 (by decide) ?_
      refine V_iload_n hC dX5_moves_40 rfl rfl ?_
      refine V_if_le_t hC 70 dX5_moves_41 (by decide) (by decide) ?_
      refine V_aload_n hC dX5_moves_70 rfl rfl ?_
      refine V_zM_all hC hN dX5_moves_71 inX5_X5_moves (by decide +kernel) ?_
      refine V_bipush hC 22 dX5_moves_74 (by decide) ?_
      refine V_aload_n hC dX5_moves_76 rfl rfl ?_
      refine V_zM_all hC hN dX5_moves_77 inX5_X5_moves (by decide +kernel) ?_
      refine V_iconst hC 0 dX5_moves_80 (by decide) ?_
      refine V_zM_ld1 hC hN (k := 0) dX5_moves_81 (ix_c (by decide)) ?_
      refine V_zM_st1 (k := 22) hC hN dX5_moves_82 (ix_c (by decide)) ?_
      refine V_aload_n hC dX5_moves_83 rfl rfl ?_
      refine V_zM_all hC hN dX5_moves_84 inX5_X5_moves (by decide +kernel) ?_
      refine V_bipush hC 21 dX5_moves_87 (by decide) ?_
      refine V_dup2 hC dX5_moves_89 rfl rfl ?_
      refine V_zM_ld1 hC hN (k := 21) dX5_moves_90 (ix_c (by decide)) ?_
      refine V_aload_n hC dX5_moves_91 rfl rfl ?_
      refine V_zM_all hC hN dX5_moves_92 inX5_X5_moves (by decide +kernel) ?_
      refine V_iconst hC 0 dX5_moves_95 (by decide) ?_
      refine V_zM_ld1 hC hN (k := 0) dX5_moves_96 (ix_c (by decide)) ?_
      refine V_iadd hC dX5_moves_97 ?_
      refine V_zM_st1 (k := 21) hC hN dX5_moves_98 (ix_c (by decide)) ?_
      refine V_vret hC hR dX5_moves_99 ⟨rfl, rfl, rfl, ?_⟩
      rw [List.append_nil] at hb
      rw [List.map_nil, List.append_nil] at ht
      subst ht
      refine ⟨_, rfl, ?_, ((((((hb).off (by decide) (by decide)).off (by decide) (by decide)).off (by decide) (by decide)).off (by decide) (by decide)).off (by decide) (by decide)).off (by decide) (by decide), ((((((hr).off (by decide) (by decide)).off (by decide) (by decide)).off (by decide) (by decide)).off (by decide) (by decide)).off (by decide) (by decide)).off (by decide) (by decide), ((((((hp).off (by decide) (by decide)).off (by decide) (by decide)).off (by decide) (by decide)).off (by decide) (by decide)).off (by decide) (by decide)).off (by decide) (by decide)⟩
      intro i h1 h2 h3 h4
      have e0 := hh 0 (by decide) (by decide) (by decide) (by decide)
      have e21 := hh 21 (by decide) (by decide) (by decide) (by decide)
      have e22 := hh 22 (by decide) (by decide) (by decide) (by decide)
      have e23 := hh 23 (by decide) (by decide) (by decide) (by decide)
      have e24 := hh 24 (by decide) (by decide) (by decide) (by decide)
      have e25 := hh 25 (by decide) (by decide) (by decide) (by decide)
      rcases (show i = 21 ∨ i = 22 ∨ i = 23 ∨ i = 24 ∨ i = 25 ∨ i = 26 ∨ i < 21 by omega) with rfl | rfl | rfl | rfl | rfl | rfl | hi
      all_goals try simp [upd, mMove, hMove, e0, e21, e22, e23, e24, e25]; done
      have n1 : i ≠ 21 := by omega
      have n2 : i ≠ 22 := by omega
      have n3 : i ≠ 23 := by omega
      have n4 : i ≠ 24 := by omega
      have n5 : i ≠ 25 := by omega
      have n6 : i ≠ 26 := by omega
      have n7 : ¬ 23 ≤ i := by omega
      simp [upd, mMove, hMove, n1, n2, n3, n4, n5, n6, n7]
      exact hh i h1 h2 h3 h4
    | cons x r ih =>
      intro d a ht hh hb hr hp
      have e0 := hh 0 (by decide) (by decide) (by decide) (by decide)
      refine V_iload_n hC dX5_moves_2 rfl rfl ?_
      refine V_aload_n hC dX5_moves_3 rfl rfl ?_
      refine V_zM_all hC hN dX5_moves_4 inX5_X5_moves (by decide +kernel) ?_
      refine V_bipush hC 9 dX5_moves_7 (by decide) ?_
      refine V_zM_ld1 hC hN (k := 9) dX5_moves_9 (ix_c (by decide)) ?_
      refine V_icmp_ge_f (tgt := 38) hC dX5_moves_10 (by decide) (lp_go hb.1 (Nat.le_trans hb.2.1 (by decide))) ?_
      refine V_aload_n hC dX5_moves_13 rfl rfl ?_
      refine V_iload_n hC dX5_moves_14 rfl rfl ?_
      refine V_iconst hC 0 dX5_moves_15 (by decide) ?_
      refine V_aload_n hC dX5_moves_16 rfl rfl ?_
      refine V_iload_n hC dX5_moves_17 rfl rfl ?_
      refine V_iconst hC 0 dX5_moves_18 (by decide) ?_
      refine V_cvI (n := 2) hC (c_X5_get g (eL E) hN (b := d.length) (w := 0) hb.lt (by decide)) dX5_moves_19 gX5_moves_X5_get rfl rfl rfl ⟨rfl, rfl⟩ (by decide +kernel) (by decide +kernel) (by omega) zM_0 rfl (Nat.le_of_ble_eq_true rfl) (by decide) (fun x19 u19 h19 => ?_)
      obtain ⟨rfl, rfl⟩ := h19
      refine V_aload_n hC dX5_moves_22 rfl rfl ?_
      refine V_zM_all hC hN dX5_moves_23 inX5_X5_moves (by decide +kernel) ?_
      refine V_iconst hC 0 dX5_moves_26 (by decide) ?_
      refine V_zM_ld1 hC hN (k := 0) dX5_moves_27 (ix_c (by decide)) ?_
      refine V_iadd hC dX5_moves_28 ?_
      refine V_cvV (n := 3) hC (c_X5_put g (eL E) hN (b := d.length) (w := 0) (z := _) hb.lt (by decide)) dX5_moves_29 gX5_moves_X5_put rfl rfl rfl ⟨rfl, rfl⟩ (by decide +kernel) (by decide +kernel) (by omega) zM_0 rfl (Nat.le_of_ble_eq_true rfl) (by decide) (fun u29 h29 => ?_)
      obtain rfl := h29
      refine V_iinc1 hC (nI (d ++ [xMove (h 0) x]).length) dX5_moves_32 len_s (by rw [hnl]; decide) rfl ?_
      refine V_goto hC 2 dX5_moves_35 (by decide) ?_
      have hlt := hb.lt
      refine ih (d ++ [xMove (h 0) x]) _ (by rw [List.append_assoc]; exact ht) (hh.off (by omega)) ?_ (hr.off (by omega) (by omega)) (hp.off (by omega) (by omega))
      rw [List.append_assoc]
      show rB _ (d ++ xMove (h 0) x :: r)
      rw [hb.get (w := 0) (by decide), e0]
      exact hb.set (by decide)
  refine V_iconst hC 0 dX5_moves_0 (by decide) ?_
  refine V_istore_n1 hC dX5_moves_1 rfl (by rw [hnl]; decide) rfl ?_
  exact loop bs [] a rfl hh hb hr hp
