theorem inJ_i {x a b : Int32} : inJ x.toInt64 a.toInt64 b.toInt64 ↔ a ≤ x ∧ x ≤ b := by
  unfold inJ
  rw [Int32.toInt_toInt64, Int32.toInt_toInt64, Int32.toInt_toInt64, Int32.le_iff_toInt_le, Int32.le_iff_toInt_le]
theorem fate_lt (h x : Nat → Int32) : fate h x = 11 ∨ fate h x = 12 ∨ fate h x = 13 := by
  unfold fate
  split
  · simp
  · split <;> simp
theorem inX5_X5_judges : ∀ w ∈ wsX50, w ∈ wsX5_judges := by decide +kernel
abbrev rmX5_judges : Room := { frames := 1, cells := 0, slots := 0, locals := 25 }
set_option maxHeartbeats 4000000 in
set_option maxRecDepth 100000 in
theorem c_X5_judges (g : GE) (lau : Launch) {N : Nat} {ad : Nat → Nat} {f : Nat → va_E} {o : Nat} {a kp hs : Nat → Int32} {hl : Int32} {so sv pd : Nat → Int32} {pn sp od wb nb : Int32} (hN : o + 7 ≤ N) {h : Nat → Int32} {d r : List (Nat → Int32)} {x : Nat → Int32} {rs : List (Int32 × Int32)} {ps : List Int32} (hh : rH a h) (hb : rB a (d ++ x :: r)) (hr : rR a rs) (hp : rP a ps) : Ct g lau yX5_judges wsX5_judges rmX5_judges N ad [.ref (ad o), .int (nI d.length)] (zM g ad f o a kp hs hl so sv pd pn sp od wb nb) (pV N ad (fun u => ∃ a2, u = (zM g ad f o a2 kp hs hl so sv pd pn sp od wb nb) ∧ rH a2 (upd h (fate h x) (h (fate h x) + 1)) ∧ rB a2 (d ++ x :: r) ∧ rR a2 rs ∧ rP a2 ps)) 0 0 := by
  refine Ct.of (maxL := 4) rfl (by decide +kernel) [some (.ref (ad o)), some (.int (nI d.length)), none, none] (Nat.le_of_ble_eq_true rfl) (by simp [lvo, lv_args, Value.category]) (fun E hnl _ hC hR => ?_)
  have e3 := hh 3 (by decide) (by decide) (by decide) (by decide)
  have e7 := hh 7 (by decide) (by decide) (by decide) (by decide)
  have hlt := hb.lt
  have k3 := hb.get (w := 3) (by decide)
  have k4 := hb.get (w := 4) (by decide)
  refine V_aload_n hC dX5_judges_0 rfl rfl ?_
  refine V_iload_n hC dX5_judges_1 rfl rfl ?_
  refine V_iconst hC 3 dX5_judges_2 (by decide) ?_
  refine V_cvI (n := 2) hC (c_X5_get g (eL E) hN (b := d.length) (w := 3) hlt (by decide)) dX5_judges_3 gX5_judges_X5_get rfl rfl rfl ⟨rfl, rfl⟩ (by decide +kernel) (by decide +kernel) (by omega) zM_0 rfl (Nat.le_of_ble_eq_true rfl) (by decide) (fun x3 u3 h3 => ?_)
  obtain ⟨rfl, rfl⟩ := h3
  refine V_aload_n hC dX5_judges_6 rfl rfl ?_
  refine V_zM_all hC hN dX5_judges_7 inX5_X5_judges (by decide +kernel) ?_
  refine V_iconst hC 3 dX5_judges_10 (by decide) ?_
  refine V_zM_ld1 hC hN (k := 3) dX5_judges_11 (ix_c (by decide)) ?_
  refine V_isub hC dX5_judges_12 ?_
  refine V_istore_n2 hC dX5_judges_13 rfl (by rw [hnl]; decide) rfl ?_
  refine V_aload_n hC dX5_judges_14 rfl rfl ?_
  refine V_iload_n hC dX5_judges_15 rfl rfl ?_
  refine V_iconst hC 3 dX5_judges_16 (by decide) ?_
  refine V_cvI (n := 2) hC (c_X5_get g (eL E) hN (b := d.length) (w := 3) hlt (by decide)) dX5_judges_17 gX5_judges_X5_get rfl rfl rfl ⟨rfl, rfl⟩ (by decide +kernel) (by decide +kernel) (by omega) zM_0 rfl (Nat.le_of_ble_eq_true rfl) (by decide) (fun x17 u17 h17 => ?_)
  obtain ⟨rfl, rfl⟩ := h17
  refine V_bipush hC (-6) dX5_judges_20 (by decide) ?_
  refine V_icmp_ne hC 30 dX5_judges_22 (by decide) (fun c22 => ?_) (fun c22 => ?_)
  · refine V_aload_n hC dX5_judges_30 rfl rfl ?_
    refine V_iload_n hC dX5_judges_31 rfl rfl ?_
    refine V_iconst hC 4 dX5_judges_32 (by decide) ?_
    refine V_cvI (n := 2) hC (c_X5_get g (eL E) hN (b := d.length) (w := 4) hlt (by decide)) dX5_judges_33 gX5_judges_X5_get rfl rfl rfl ⟨rfl, rfl⟩ (by decide +kernel) (by decide +kernel) (by omega) zM_0 rfl (Nat.le_of_ble_eq_true rfl) (by decide) (fun x33 u33 h33 => ?_)
    obtain ⟨rfl, rfl⟩ := h33
    refine V_if_ne hC 69 dX5_judges_36 (by decide) (fun c36 => ?_) (fun c36 => ?_)
    · refine V_bipush hC 12 dX5_judges_69 (by decide) ?_
      refine V_istore_n3 hC dX5_judges_71 rfl (by rw [hnl]; decide) rfl ?_
      refine V_aload_n hC dX5_judges_72 rfl rfl ?_
      refine V_zM_all hC hN dX5_judges_73 inX5_X5_judges (by decide +kernel) ?_
      refine V_iload_n hC dX5_judges_76 rfl rfl ?_
      refine V_dup2 hC dX5_judges_77 rfl rfl ?_
      refine V_zM_ld1 hC hN (k := 12) dX5_judges_78 (ix_c (by decide)) ?_
      refine V_iconst hC 1 dX5_judges_79 (by decide) ?_
      refine V_iadd hC dX5_judges_80 ?_
      refine V_zM_st1 (k := 12) hC hN dX5_judges_81 (ix_c (by decide)) ?_
      refine V_vret hC hR dX5_judges_82 ⟨rfl, rfl, rfl, ?_⟩
      have hf : fate h x = 12 := by rw [k3] at c22; rw [k4] at c36; simp [fate, c22, c36]
      have ek := hh 12 (by decide) (by decide) (by decide) (by decide)
      refine ⟨_, rfl, ?_, hb.off (by decide) (by decide), hr.off (by decide) (by decide), hp.off (by decide) (by decide)⟩
      rw [hf, ek]
      exact hh.at
    · refine V_iload_n hC dX5_judges_39 rfl rfl ?_
      refine V_i2l hC dX5_judges_40 ?_
      refine V_aload_n hC dX5_judges_41 rfl rfl ?_
      refine V_zM_all hC hN dX5_judges_42 inX5_X5_judges (by decide +kernel) ?_
      refine V_bipush hC 7 dX5_judges_45 (by decide) ?_
      refine V_zM_ld1 hC hN (k := 7) dX5_judges_47 (ix_c (by decide)) ?_
      refine V_ineg hC dX5_judges_48 ?_
      refine V_i2l hC dX5_judges_49 ?_
      refine V_aload_n hC dX5_judges_50 rfl rfl ?_
      refine V_zM_all hC hN dX5_judges_51 inX5_X5_judges (by decide +kernel) ?_
      refine V_bipush hC 7 dX5_judges_54 (by decide) ?_
      refine V_zM_ld1 hC hN (k := 7) dX5_judges_56 (ix_c (by decide)) ?_
      refine V_i2l hC dX5_judges_57 ?_
      refine V_csI (n := 3) hC (c_X5_in g (eL E) _ _ _) dX5_judges_58 gX5_judges_X5_in rfl rfl rfl ⟨rfl, rfl⟩ (by decide +kernel) (by decide +kernel) (Nat.le_of_ble_eq_true rfl) (by decide) (fun x58 u58 h58 => ?_)
      rcases h58 with ⟨rfl, hj, rfl⟩ | ⟨rfl, hj, rfl⟩
      · refine V_if_eq_f (tgt := 69) hC dX5_judges_61 (by decide) (by decide) ?_
        refine V_bipush hC 11 dX5_judges_64 (by decide) ?_
        refine V_goto hC 71 dX5_judges_66 (by decide) ?_
        refine V_istore_n3 hC dX5_judges_71 rfl (by rw [hnl]; decide) rfl ?_
        refine V_aload_n hC dX5_judges_72 rfl rfl ?_
        refine V_zM_all hC hN dX5_judges_73 inX5_X5_judges (by decide +kernel) ?_
        refine V_iload_n hC dX5_judges_76 rfl rfl ?_
        refine V_dup2 hC dX5_judges_77 rfl rfl ?_
        refine V_zM_ld1 hC hN (k := 11) dX5_judges_78 (ix_c (by decide)) ?_
        refine V_iconst hC 1 dX5_judges_79 (by decide) ?_
        refine V_iadd hC dX5_judges_80 ?_
        refine V_zM_st1 (k := 11) hC hN dX5_judges_81 (ix_c (by decide)) ?_
        refine V_vret hC hR dX5_judges_82 ⟨rfl, rfl, rfl, ?_⟩
        have hf : fate h x = 11 := by rw [k3] at c22; rw [k4] at c36; rw [inJ_i, k3, e3, e7] at hj; simp [fate, c22, c36, hj]
        have ek := hh 11 (by decide) (by decide) (by decide) (by decide)
        refine ⟨_, rfl, ?_, hb.off (by decide) (by decide), hr.off (by decide) (by decide), hp.off (by decide) (by decide)⟩
        rw [hf, ek]
        exact hh.at
      · refine V_if_eq_t hC 69 dX5_judges_61 (by decide) rfl ?_
        refine V_bipush hC 12 dX5_judges_69 (by decide) ?_
        refine V_istore_n3 hC dX5_judges_71 rfl (by rw [hnl]; decide) rfl ?_
        refine V_aload_n hC dX5_judges_72 rfl rfl ?_
        refine V_zM_all hC hN dX5_judges_73 inX5_X5_judges (by decide +kernel) ?_
        refine V_iload_n hC dX5_judges_76 rfl rfl ?_
        refine V_dup2 hC dX5_judges_77 rfl rfl ?_
        refine V_zM_ld1 hC hN (k := 12) dX5_judges_78 (ix_c (by decide)) ?_
        refine V_iconst hC 1 dX5_judges_79 (by decide) ?_
        refine V_iadd hC dX5_judges_80 ?_
        refine V_zM_st1 (k := 12) hC hN dX5_judges_81 (ix_c (by decide)) ?_
        refine V_vret hC hR dX5_judges_82 ⟨rfl, rfl, rfl, ?_⟩
        have hf : fate h x = 12 := by rw [k3] at c22; rw [k4] at c36; rw [inJ_i, k3, e3, e7] at hj; simp only [fate, c22, c36, if_false, true_and, hj]
        have ek := hh 12 (by decide) (by decide) (by decide) (by decide)
        refine ⟨_, rfl, ?_, hb.off (by decide) (by decide), hr.off (by decide) (by decide), hp.off (by decide) (by decide)⟩
        rw [hf, ek]
        exact hh.at
  · refine V_bipush hC 13 dX5_judges_25 (by decide) ?_
    refine V_goto hC 71 dX5_judges_27 (by decide) ?_
    refine V_istore_n3 hC dX5_judges_71 rfl (by rw [hnl]; decide) rfl ?_
    refine V_aload_n hC dX5_judges_72 rfl rfl ?_
    refine V_zM_all hC hN dX5_judges_73 inX5_X5_judges (by decide +kernel) ?_
    refine V_iload_n hC dX5_judges_76 rfl rfl ?_
    refine V_dup2 hC dX5_judges_77 rfl rfl ?_
    refine V_zM_ld1 hC hN (k := 13) dX5_judges_78 (ix_c (by decide)) ?_
    refine V_iconst hC 1 dX5_judges_79 (by decide) ?_
    refine V_iadd hC dX5_judges_80 ?_
    refine V_zM_st1 (k := 13) hC hN dX5_judges_81 (ix_c (by decide)) ?_
    refine V_vret hC hR dX5_judges_82 ⟨rfl, rfl, rfl, ?_⟩
    have hf : fate h x = 13 := by rw [k3] at c22; simp [fate, c22]
    have ek := hh 13 (by decide) (by decide) (by decide) (by decide)
    refine ⟨_, rfl, ?_, hb.off (by decide) (by decide), hr.off (by decide) (by decide), hp.off (by decide) (by decide)⟩
    rw [hf, ek]
    exact hh.at
theorem i32_rc (a b c : Int32) : a + b + c = a + c + b := by rw [Int32.add_assoc, Int32.add_comm b c, ← Int32.add_assoc]
theorem outOne_left (h x : Nat → Int32) (hx : isOut x = true) : sLeft (outOne h x) = sLeft h + 1 := by
  unfold outOne sLeft
  rw [if_pos hx]
  rcases fate_lt h x with e | e | e <;> rw [e] <;> simp only [upd] <;> simp
  · rw [i32_rc (h 11) 1 (h 12), i32_rc (h 11 + h 12) 1 (h 13)]
  · rw [← Int32.add_assoc, i32_rc (h 11 + h 12) 1 (h 13)]
  · rw [Int32.add_assoc (h 11 + h 12)]
theorem hMove_left (h : Nat → Int32) : sLeft (hMove h) = sLeft h := by simp [sLeft, hMove]
theorem mMark_left (q : (Nat → Int32) × List (Nat → Int32)) : sLeft (mMark q).1 = sLeft q.1 := by
  unfold mMark
  split
  · simp [sLeft, upd]
  · split
    · simp [sLeft, upd, hTaken]
    · simp only [sLeft, hMarked, hTaken]
      split <;> simp [upd]
theorem doOne_left (ps : List Int32) : ∀ q : (Nat → Int32) × List (Nat → Int32), sLeft (ps.foldl doOne q).1 = sLeft q.1 := by
  induction ps with
  | nil => intro q; rfl
  | cons p ps ih =>
    intro q
    rw [List.foldl_cons, ih]
    unfold doOne
    split
    · exact mMark_left q
    · rfl
theorem doOne_under (ps : List Int32) : ∀ q : (Nat → Int32) × List (Nat → Int32), (ps.foldl doOne q).2.map isUnder = q.2.map isUnder := by
  induction ps with
  | nil => intro q; rfl
  | cons p ps ih =>
    intro q
    rw [List.foldl_cons, ih]
    unfold doOne
    split
    · exact mMark_under q.1 q.2
    · rfl
theorem xSee_under (x : Nat → Int32) : isUnder (xSee x) = isUnder x := by
  unfold xSee isUnder
  split <;> simp [upd]
theorem mSee_under (m : MT) : (mSee m).2.1.map isUnder = m.2.1.map isUnder := by
  simp [mSee, xSee_under]
theorem inX5_X5_ticksOn : ∀ w ∈ wsX50, w ∈ wsX5_ticksOn := by decide +kernel
abbrev rmX5_ticksOn : Room := { frames := 5, cells := 0, slots := 0, locals := 107 }
set_option maxHeartbeats 4000000 in
set_option maxRecDepth 100000 in
theorem c_X5_ticksOn (g : GE) (lau : Launch) {N : Nat} {ad : Nat → Nat} {f : Nat → va_E} {o : Nat} {a kp hs : Nat → Int32} {hl : Int32} {so sv pd : Nat → Int32} {pn sp od wb nb : Int32} (hN : o + 7 ≤ N) {h0 : Nat → Int32} {bs : List (Nat → Int32)} {rs : List (Int32 × Int32)} {ps : List Int32} (hh : rH a h0) (hb : rB a bs) (hr : rR a rs) (hp : rP a ps) (hok : TickOK (h0, bs, rs, ps)) : Ct g lau yX5_ticksOn wsX5_ticksOn rmX5_ticksOn N ad [.ref (ad o)] (zM g ad f o a kp hs hl so sv pd pn sp od wb nb) (pI N ad (fun x u => x = sLeft (mTick (h0, bs, rs, ps)).1 - sLeft h0 ∧ ∃ a2, u = (zM g ad f o a2 kp hs hl so sv pd pn sp od wb nb) ∧ RepR a2 (mTick (h0, bs, rs, ps)))) 0 0 := by
  refine Ct.of (maxL := 4) rfl (by decide +kernel) [some (.ref (ad o)), none, none, none] (Nat.le_of_ble_eq_true rfl) (by simp [lvo, lv_args, Value.category]) (fun E hnl _ hC hR => ?_)
  obtain ⟨hc1, ⟨G, hG, hg⟩, hU⟩ := hok
  have hc1 : rs.length + ((mMove (h0, bs, rs, ps)).2.1.filter unseen).length + ps.length ≤ 28 := hc1
  obtain ⟨m4, hm4⟩ : ∃ z, z = mFeed (mDo (mTake (mCount (mSee (mMove (h0, bs, rs, ps)))))) := ⟨_, rfl⟩
  have hleft : sLeft m4.1 = sLeft h0 := by
    rw [hm4]
    show sLeft (hFeed (((mTake (mCount (mSee (mMove (h0, bs, rs, ps))))).2.2.2).foldl doOne (hMove h0, (mSee (mMove (h0, bs, rs, ps))).2.1)).1) = sLeft h0
    rw [show ∀ q : Nat → Int32, sLeft (hFeed q) = sLeft q from fun q => by simp [sLeft, hFeed, upd], doOne_left, hMove_left]
  have loop : ∀ (r d : List (Nat → Int32)) (a h : Nat → Int32) (lf : Nat) (w1 : Int32), d ++ r.filter (fun x => !isOut x) = m4.2.1.filter (fun x => !isOut x) → r.foldl outOne h = m4.2.1.foldl outOne m4.1 → sLeft h = sLeft m4.1 + nI lf → rH a h → rB a (d ++ r) → rR a m4.2.2.1 → rP a m4.2.2.2 → V E g N ad 0 0 (zM g ad f o a kp hs hl so sv pd pn sp od wb nb) 63 [some (.ref (ad o)), some (.int (w1)), some (.int (nI lf)), some (.int (nI d.length))] [] := by
    intro r
    induction r with
    | nil =>
      intro d a h lf w1 ht hq hs hh hb hr hp
      refine V_iload_n hC dX5_ticksOn_63 rfl rfl ?_
      refine V_aload_n hC dX5_ticksOn_64 rfl rfl ?_
      refine V_zM_all hC hN dX5_ticksOn_65 inX5_X5_ticksOn (by decide +kernel) ?_
      refine V_bipush hC 9 dX5_ticksOn_68 (by decide) ?_
      refine V_zM_ld1 hC hN (k := 9) dX5_ticksOn_70 (ix_c (by decide)) ?_
      refine V_icmp_ge_t hC 128 dX5_ticksOn_71 (by decide) (lp_end hb.1 (Nat.le_trans hb.2.1 (by decide))) ?_
      refine V_aload_n hC dX5_ticksOn_128 rfl rfl ?_
      refine V_zM_all hC hN dX5_ticksOn_129 inX5_X5_ticksOn (by decide +kernel) ?_
      refine V_bipush hC 8 dX5_ticksOn_132 (by decide) ?_
      refine V_dup2 hC dX5_ticksOn_134 rfl rfl ?_
      refine V_zM_ld1 hC hN (k := 8) dX5_ticksOn_135 (ix_c (by decide)) ?_
      refine V_iconst hC 1 dX5_ticksOn_136 (by decide) ?_
      refine V_iadd hC dX5_ticksOn_137 ?_
      refine V_zM_st1 (k := 8) hC hN dX5_ticksOn_138 (ix_c (by decide)) ?_
      refine V_iload_n hC dX5_ticksOn_139 rfl rfl ?_
      refine V_iret hC hR dX5_ticksOn_140 ⟨rfl, rfl, _, rfl, ?_⟩
      rw [List.append_nil] at hb
      simp only [List.filter_nil, List.append_nil] at ht
      rw [List.foldl_nil] at hq
      have e8 := hh 8 (by decide) (by decide) (by decide) (by decide)
      have q1 : (mTick (h0, bs, rs, ps)).1 = upd h 8 (h 8 + 1) := by show upd (mLeave (mFeed (mDo (mTake (mCount (mSee (mMove (h0, bs, rs, ps)))))))).1 8 ((mLeave (mFeed (mDo (mTake (mCount (mSee (mMove (h0, bs, rs, ps)))))))).1 8 + 1) = _; rw [← hm4]; show upd (m4.2.1.foldl outOne m4.1) 8 ((m4.2.1.foldl outOne m4.1) 8 + 1) = _; rw [← hq]
      have q2 : (mTick (h0, bs, rs, ps)).2.1 = d := by show (mLeave (mFeed (mDo (mTake (mCount (mSee (mMove (h0, bs, rs, ps)))))))).2.1 = d; rw [← hm4]; exact ht.symm
      have q3 : (mTick (h0, bs, rs, ps)).2.2 = m4.2.2 := by show (mLeave (mFeed (mDo (mTake (mCount (mSee (mMove (h0, bs, rs, ps)))))))).2.2 = _; rw [← hm4]; rfl
      refine ⟨?_, _, rfl, ?_, ?_, ?_, ?_⟩
      · rw [q1, show sLeft (upd h 8 (h 8 + 1)) = sLeft h by simp [sLeft, upd], hs, hleft, Int32.add_comm, Int32.add_sub_cancel]
      · rw [q1, e8]
        exact hh.at
      · rw [q2]
        exact hb.off (by decide) (by decide)
      · rw [q3]
        exact hr.off (by decide) (by decide)
      · rw [q3]
        exact hp.off (by decide) (by decide)
    | cons x r ih =>
      intro d a h lf w1 ht hq hs hh hb hr hp
      have hlt := hb.lt
      have k0 := hb.get (w := 0) (by decide)
      have k1 := hb.get (w := 1) (by decide)
      rw [List.foldl_cons] at hq
      refine V_iload_n hC dX5_ticksOn_63 rfl rfl ?_
      refine V_aload_n hC dX5_ticksOn_64 rfl rfl ?_
      refine V_zM_all hC hN dX5_ticksOn_65 inX5_X5_ticksOn (by decide +kernel) ?_
      refine V_bipush hC 9 dX5_ticksOn_68 (by decide) ?_
      refine V_zM_ld1 hC hN (k := 9) dX5_ticksOn_70 (ix_c (by decide)) ?_
      refine V_icmp_ge_f (tgt := 128) hC dX5_ticksOn_71 (by decide) (lp_go hb.1 (Nat.le_trans hb.2.1 (by decide))) ?_
      refine V_aload_n hC dX5_ticksOn_74 rfl rfl ?_
      refine V_iload_n hC dX5_ticksOn_75 rfl rfl ?_
      refine V_cvI (n := 1) hC (c_X5_back g (eL E) hN (b := d.length) hlt) dX5_ticksOn_76 gX5_ticksOn_X5_back rfl rfl rfl ⟨rfl, rfl⟩ (by decide +kernel) (by decide +kernel) (by omega) zM_0 rfl (Nat.le_of_ble_eq_true rfl) (by decide) (fun x76 u76 h76 => ?_)
      obtain ⟨rfl, rfl⟩ := h76
      refine V_bipush hC 100 dX5_ticksOn_79 (by decide) ?_
      refine V_icmp_lt hC 122 dX5_ticksOn_81 (by decide) (fun c81 => ?_) (fun c81 => ?_)
      · have hu : isOut x = false := by rw [k0, k1] at c81; simp [isOut]; exact c81
        refine V_iinc3 hC (nI (d ++ [x]).length) dX5_ticksOn_122 len_s (by rw [hnl]; decide) rfl ?_
        refine V_goto hC 63 dX5_ticksOn_125 (by decide) ?_
        simp only [List.filter_cons, hu, Bool.not_false, if_true] at ht
        simp only [outOne, hu, Bool.false_eq_true, if_false] at hq
        exact ih (d ++ [x]) a h lf w1 (by rw [List.append_assoc]; exact ht) hq hs hh (by rw [List.append_assoc]; exact hb) hr hp
      · have hu : isOut x = true := by rw [k0, k1] at c81; simp [isOut]; exact Int32.not_lt.mp c81
        refine V_aload_n hC dX5_ticksOn_84 rfl rfl ?_
        refine V_iload_n hC dX5_ticksOn_85 rfl rfl ?_
        refine V_cvV (n := 1) hC (c_X5_judges g (eL E) hN hh hb hr hp) dX5_ticksOn_86 gX5_ticksOn_X5_judges rfl rfl rfl ⟨rfl, rfl⟩ (by decide +kernel) (by decide +kernel) (by omega) zM_0 rfl (Nat.le_of_ble_eq_true rfl) (by decide) (fun u86 h86 => ?_)
        obtain ⟨a2, rfl, hh2, hb2, hr2, hp2⟩ := h86
        refine V_aload_n hC dX5_ticksOn_89 rfl rfl ?_
        refine V_bipush hC 27 dX5_ticksOn_90 (by decide) ?_
        refine V_bipush hC 6 dX5_ticksOn_92 (by decide) ?_
        refine V_aload_n hC dX5_ticksOn_94 rfl rfl ?_
        refine V_zM_all hC hN dX5_ticksOn_95 inX5_X5_ticksOn (by decide +kernel) ?_
        refine V_bipush hC 9 dX5_ticksOn_98 (by decide) ?_
        refine V_zM_ld1 hC hN (k := 9) dX5_ticksOn_100 (ix_c (by decide)) ?_
        refine V_eqt (nI (d ++ x :: r).length) hb2.1 ?_
        refine V_iload_n hC dX5_ticksOn_101 rfl rfl ?_
        refine V_cvV (n := 4) hC (c_X5_takesOut g (eL E) hN (fr := 27) (ea := 6) (mn := (d ++ x :: r).length) (pl := d.length) (by decide) (by simp only [List.length_append, List.length_cons]; omega) (by simp only [List.length_append, List.length_cons]; omega) (by have := hb.2.1; simp only [List.length_append, List.length_cons] at this ⊢; omega)) dX5_ticksOn_102 gX5_ticksOn_X5_takesOut rfl rfl rfl ⟨rfl, rfl⟩ (by decide +kernel) (by decide +kernel) (by omega) zM_0 rfl (Nat.le_of_ble_eq_true rfl) (by decide) (fun u102 h102 => ?_)
        obtain rfl := h102
        refine V_aload_n hC dX5_ticksOn_105 rfl rfl ?_
        refine V_zM_all hC hN dX5_ticksOn_106 inX5_X5_ticksOn (by decide +kernel) ?_
        refine V_bipush hC 9 dX5_ticksOn_109 (by decide) ?_
        refine V_dup2 hC dX5_ticksOn_111 rfl rfl ?_
        refine V_zM_ld1 hC hN (k := 9) dX5_ticksOn_112 (ix_c (by decide)) ?_
        refine V_iconst hC 1 dX5_ticksOn_113 (by decide) ?_
        refine V_isub hC dX5_ticksOn_114 ?_
        refine V_zM_st1 (k := 9) hC hN dX5_ticksOn_115 (ix_c (by decide)) ?_
        refine V_iinc2 hC (nI (lf + 1)) dX5_ticksOn_116 (nI_1 lf) (by rw [hnl]; decide) rfl ?_
        refine V_goto hC 63 dX5_ticksOn_119 (by decide) ?_
        simp only [List.filter_cons, hu, Bool.not_true, Bool.false_eq_true, if_false] at ht
        have hls := outOne_left h x hu
        simp only [outOne, hu, if_true] at hq hls
        refine ih d _ _ (lf + 1) w1 ht hq (by rw [hls, hs, Int32.add_assoc, nI_1]) ((hh2.tko (by omega)).off (by omega)) (hb2.cut (by rw [tko_out (by omega), hb2.1]; exact len_p)) ((hr2.tko (by have := hb.2.1; simp only [List.length_append, List.length_cons] at this ⊢; omega)).off (by decide) (by omega)) ((hp2.tko (by have := hb.2.1; simp only [List.length_append, List.length_cons] at this ⊢; omega)).off (by decide) (by omega))
  refine V_aload_n hC dX5_ticksOn_0 rfl rfl ?_
  refine V_cvV (n := 0) hC (c_X5_moves g (eL E) hN hh hb hr hp) dX5_ticksOn_1 gX5_ticksOn_X5_moves rfl rfl rfl ⟨rfl, rfl⟩ (by decide +kernel) (by decide +kernel) (by omega) zM_0 rfl (Nat.le_of_ble_eq_true rfl) (by decide) (fun u1 h1 => ?_)
  obtain ⟨a1, rfl, g1, g2, g3, g4⟩ := h1
  refine V_aload_n hC dX5_ticksOn_4 rfl rfl ?_
  refine V_cvV (n := 0) hC (c_X5_sees g (eL E) hN g1 g2 g3 g4 (by show rs.length + ((mMove (h0, bs, rs, ps)).2.1.filter unseen).length ≤ 28; omega)) dX5_ticksOn_5 gX5_ticksOn_X5_sees rfl rfl rfl ⟨rfl, rfl⟩ (by decide +kernel) (by decide +kernel) (by omega) zM_0 rfl (Nat.le_of_ble_eq_true rfl) (by decide) (fun u5 h5 => ?_)
  obtain ⟨a2, rfl, i1, i2, i3, i4⟩ := h5
  refine V_aload_n hC dX5_ticksOn_8 rfl rfl ?_
  refine V_cvV (n := 0) hC (c_X5_plans g (eL E) hN i1 i2 i3 i4 (G := G) hG (by show hMove h0 2 = nI G; rw [← hg]; rfl) (by show (rs ++ List.map _ _).length + ps.length ≤ 28; rw [List.length_append, List.length_map]; omega)) dX5_ticksOn_9 gX5_ticksOn_X5_plans rfl rfl rfl ⟨rfl, rfl⟩ (by decide +kernel) (by decide +kernel) (by omega) zM_0 rfl (Nat.le_of_ble_eq_true rfl) (by decide) (fun u9 h9 => ?_)
  obtain ⟨a3, rfl, j1, j2, j3, j4⟩ := h9
  have hU4 : oneU (mTake (mCount (mSee (mMove (h0, bs, rs, ps))))).2.1 := by show List.Pairwise _ ((mSee (mMove (h0, bs, rs, ps))).2.1.map isUnder); rw [mSee_under]; exact hU
  refine V_aload_n hC dX5_ticksOn_12 rfl rfl ?_
  refine V_cvV (n := 0) hC (c_X5_doesPlans g (eL E) hN j1 j2 j3 j4 hU4) dX5_ticksOn_13 gX5_ticksOn_X5_doesPlans rfl rfl rfl ⟨rfl, rfl⟩ (by decide +kernel) (by decide +kernel) (by omega) zM_0 rfl (Nat.le_of_ble_eq_true rfl) (by decide) (fun u13 h13 => ?_)
  obtain ⟨a4, rfl, k1, k2, k3, k4⟩ := h13
  have f18 := k1 18 (by decide) (by decide) (by decide) (by decide)
  have f6 := k1 6 (by decide) (by decide) (by decide) (by decide)
  have f5 := k1 5 (by decide) (by decide) (by decide) (by decide)
  refine V_aload_n hC dX5_ticksOn_16 rfl rfl ?_
  refine V_zM_all hC hN dX5_ticksOn_17 inX5_X5_ticksOn (by decide +kernel) ?_
  refine V_bipush hC 18 dX5_ticksOn_20 (by decide) ?_
  refine V_zM_ld1 hC hN (k := 18) dX5_ticksOn_22 (ix_c (by decide)) ?_
  refine V_aload_n hC dX5_ticksOn_23 rfl rfl ?_
  refine V_zM_all hC hN dX5_ticksOn_24 inX5_X5_ticksOn (by decide +kernel) ?_
  refine V_bipush hC 6 dX5_ticksOn_27 (by decide) ?_
  refine V_zM_ld1 hC hN (k := 6) dX5_ticksOn_29 (ix_c (by decide)) ?_
  refine V_iadd hC dX5_ticksOn_30 ?_
  refine V_istore_n1 hC dX5_ticksOn_31 rfl (by rw [hnl]; decide) rfl ?_
  refine V_aload_n hC dX5_ticksOn_32 rfl rfl ?_
  refine V_zM_all hC hN dX5_ticksOn_33 inX5_X5_ticksOn (by decide +kernel) ?_
  refine V_bipush hC 18 dX5_ticksOn_36 (by decide) ?_
  refine V_iload_n hC dX5_ticksOn_38 rfl rfl ?_
  refine V_aload_n hC dX5_ticksOn_39 rfl rfl ?_
  refine V_zM_all hC hN dX5_ticksOn_40 inX5_X5_ticksOn (by decide +kernel) ?_
  refine V_iconst hC 5 dX5_ticksOn_43 (by decide) ?_
  refine V_zM_ld1 hC hN (k := 5) dX5_ticksOn_44 (ix_c (by decide)) ?_
  refine V_icmp_le hC 57 dX5_ticksOn_45 (by decide) (fun c45 => ?_) (fun c45 => ?_)
  · have hfe : hFeed (mDo (mTake (mCount (mSee (mMove (h0, bs, rs, ps)))))).1 = upd (mDo (mTake (mCount (mSee (mMove (h0, bs, rs, ps)))))).1 18 (a4 18 + a4 6) := by
      rw [f18, f6, f5] at c45
      unfold hFeed
      rw [f18, f6, if_neg (Int32.not_lt.mpr c45)]
    refine V_iload_n hC dX5_ticksOn_57 rfl rfl ?_
    refine V_zM_st1 (k := 18) hC hN dX5_ticksOn_58 (ix_c (by decide)) ?_
    refine V_iconst hC 0 dX5_ticksOn_59 (by decide) ?_
    refine V_istore_n2 hC dX5_ticksOn_60 rfl (by rw [hnl]; decide) rfl ?_
    refine V_iconst hC 0 dX5_ticksOn_61 (by decide) ?_
    refine V_istore_n3 hC dX5_ticksOn_62 rfl (by rw [hnl]; decide) rfl ?_
    refine loop m4.2.1 [] _ m4.1 0 _ rfl rfl (by rw [show nI 0 = 0 from rfl, Int32.add_zero]) ?_ ?_ ?_ ?_
    · rw [hm4]
      show rH _ (hFeed (mDo (mTake (mCount (mSee (mMove (h0, bs, rs, ps)))))).1)
      rw [hfe]
      exact k1.at
    · rw [hm4]
      exact k2.off (by decide) (by decide)
    · rw [hm4]
      exact k3.off (by decide) (by decide)
    · rw [hm4]
      exact k4.off (by decide) (by decide)
  · have hfe : hFeed (mDo (mTake (mCount (mSee (mMove (h0, bs, rs, ps)))))).1 = upd (mDo (mTake (mCount (mSee (mMove (h0, bs, rs, ps)))))).1 18 (a4 5) := by
      rw [f18, f6, f5] at c45
      unfold hFeed
      rw [f5, if_pos (Int32.not_le.mp c45)]
    refine V_aload_n hC dX5_ticksOn_48 rfl rfl ?_
    refine V_zM_all hC hN dX5_ticksOn_49 inX5_X5_ticksOn (by decide +kernel) ?_
    refine V_iconst hC 5 dX5_ticksOn_52 (by decide) ?_
    refine V_zM_ld1 hC hN (k := 5) dX5_ticksOn_53 (ix_c (by decide)) ?_
    refine V_goto hC 58 dX5_ticksOn_54 (by decide) ?_
    refine V_zM_st1 (k := 18) hC hN dX5_ticksOn_58 (ix_c (by decide)) ?_
    refine V_iconst hC 0 dX5_ticksOn_59 (by decide) ?_
    refine V_istore_n2 hC dX5_ticksOn_60 rfl (by rw [hnl]; decide) rfl ?_
    refine V_iconst hC 0 dX5_ticksOn_61 (by decide) ?_
    refine V_istore_n3 hC dX5_ticksOn_62 rfl (by rw [hnl]; decide) rfl ?_
    refine loop m4.2.1 [] _ m4.1 0 _ rfl rfl (by rw [show nI 0 = 0 from rfl, Int32.add_zero]) ?_ ?_ ?_ ?_
    · rw [hm4]
      show rH _ (hFeed (mDo (mTake (mCount (mSee (mMove (h0, bs, rs, ps)))))).1)
      rw [hfe]
      exact k1.at
    · rw [hm4]
      exact k2.off (by decide) (by decide)
    · rw [hm4]
      exact k3.off (by decide) (by decide)
    · rw [hm4]
      exact k4.off (by decide) (by decide)
theorem sub_tele (a b c : Int32) : a - b + (b - c) = a - c := by
  rw [Int32.sub_eq_add_neg, Int32.sub_eq_add_neg, Int32.sub_eq_add_neg, Int32.add_assoc, ← Int32.add_assoc (-b), Int32.add_left_neg, Int32.zero_add]
theorem inX5_X5_passes : ∀ w ∈ wsX50, w ∈ wsX5_passes := by decide +kernel
abbrev rmX5_passes : Room := { frames := 6, cells := 0, slots := 0, locals := 130 }
set_option maxHeartbeats 4000000 in
set_option maxRecDepth 100000 in
theorem c_X5_passes (g : GE) (lau : Launch) {N : Nat} {ad : Nat → Nat} {f : Nat → va_E} {o : Nat} {a kp hs : Nat → Int32} {hl : Int32} {so sv pd : Nat → Int32} {pn sp od wb nb : Int32} (hN : o + 7 ≤ N) {n : Nat} {m0 : MT} (hn : n < 2 ^ 31) (hm : RepR a m0) (hok : TicksOK n m0) : Ct g lau yX5_passes wsX5_passes rmX5_passes N ad [.ref (ad o), .int (nI n)] (zM g ad f o a kp hs hl so sv pd pn sp od wb nb) (pI N ad (fun x u => x = sLeft (mTicks n m0).1 - sLeft m0.1 ∧ ∃ a2, u = (zM g ad f o a2 kp hs hl so sv pd pn sp od wb nb) ∧ RepR a2 (mTicks n m0))) 0 0 := by
  refine Ct.of (maxL := 4) rfl (by decide +kernel) [some (.ref (ad o)), some (.int (nI n)), none, none] (Nat.le_of_ble_eq_true rfl) (by simp [lvo, lv_args, Value.category]) (fun E hnl _ hC hR => ?_)
  have loop : ∀ (j k : Nat) (a : Nat → Int32) (m : MT) (lf : Int32), k + j = n → TicksOK j m → mTicks j m = mTicks n m0 → lf = sLeft m.1 - sLeft m0.1 → RepR a m → V E g N ad 0 0 (zM g ad f o a kp hs hl so sv pd pn sp od wb nb) 4 [some (.ref (ad o)), some (.int (nI n)), some (.int (lf)), some (.int (nI k))] [] := by
    intro j
    induction j with
    | zero =>
      intro k a m lf hk hok he hl hm
      have hk : k = n := by omega
      subst hk
      refine V_iload_n hC dX5_passes_4 rfl rfl ?_
      refine V_iload_n hC dX5_passes_5 rfl rfl ?_
      refine V_icmp_ge_t hC 22 dX5_passes_6 (by decide) (Int32.le_refl _) ?_
      refine V_iload_n hC dX5_passes_22 rfl rfl ?_
      refine V_iret hC hR dX5_passes_23 ⟨rfl, rfl, _, rfl, ?_⟩
      have he : m = mTicks k m0 := he
      subst he
      exact ⟨hl, _, rfl, hm⟩
    | succ j ih =>
      intro k a m lf hk hok he hl hm
      refine V_iload_n hC dX5_passes_4 rfl rfl ?_
      refine V_iload_n hC dX5_passes_5 rfl rfl ?_
      refine V_icmp_ge_f (tgt := 22) hC dX5_passes_6 (by decide) (nI_ge (by omega) hn) ?_
      refine V_iload_n hC dX5_passes_9 rfl rfl ?_
      refine V_aload_n hC dX5_passes_10 rfl rfl ?_
      refine V_cvI (n := 0) hC (c_X5_ticksOn g (eL E) hN hm.1 hm.2.1 hm.2.2.1 hm.2.2.2 (hok 0 (by omega))) dX5_passes_11 gX5_passes_X5_ticksOn rfl rfl rfl ⟨rfl, rfl⟩ (by decide +kernel) (by decide +kernel) (by omega) zM_0 rfl (Nat.le_of_ble_eq_true rfl) (by decide) (fun x11 u11 h11 => ?_)
      obtain ⟨rfl, a2, rfl, hm2⟩ := h11
      refine V_iadd hC dX5_passes_14 ?_
      refine V_eqt (sLeft (mTick m).1 - sLeft m0.1) (by rw [hl, Int32.add_comm]; exact sub_tele _ _ _) ?_
      refine V_istore_n2 hC dX5_passes_15 rfl (by rw [hnl]; decide) rfl ?_
      refine V_iinc3 hC (nI (k + 1)) dX5_passes_16 (nI_1 k) (by rw [hnl]; decide) rfl ?_
      refine V_goto hC 4 dX5_passes_19 (by decide) ?_
      exact ih (k + 1) a2 (mTick m) _ (by omega) (fun i hi => hok (i + 1) (by omega)) he rfl hm2
  refine V_iconst hC 0 dX5_passes_0 (by decide) ?_
  refine V_istore_n2 hC dX5_passes_1 rfl (by rw [hnl]; decide) rfl ?_
  refine V_iconst hC 0 dX5_passes_2 (by decide) ?_
  refine V_istore_n3 hC dX5_passes_3 rfl (by rw [hnl]; decide) rfl ?_
  exact loop n 0 a m0 0 (by omega) hok rfl (by rw [Int32.sub_self]) hm
