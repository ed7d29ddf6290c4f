def RepM (a hs : Nat → Int32) (hl : Int32) (so sv pd : Nat → Int32) (pn : Int32) (S : ST) : Prop := RepR a S.1 ∧ rHist hs hl S.2.1 ∧ rSlot so sv S.2.2.1 ∧ rPad pd pn S.2.2.2
/-- the world u holds, over f, the reference with the state S -/
def MIs (g : GE) (ad : Nat → Nat) (f : Nat → va_E) (o : Nat) (S : ST) (u : Nat → va_E) : Prop := ∃ (a kp hs : Nat → Int32) (hl : Int32) (so sv pd : Nat → Int32) (pn sp od wb nb : Int32), u = zM g ad f o a kp hs hl so sv pd pn sp od wb nb ∧ RepM a hs hl so sv pd pn S
theorem MIs.mk {g : GE} {ad : Nat → Nat} {f : Nat → va_E} {o : Nat} {S : ST} {a kp hs : Nat → Int32} {hl : Int32} {so sv pd : Nat → Int32} {pn sp od wb nb : Int32} (h : RepM a hs hl so sv pd pn S) : MIs g ad f o S (zM g ad f o a kp hs hl so sv pd pn sp od wb nb) := ⟨a, kp, hs, hl, so, sv, pd, pn, sp, od, wb, nb, rfl, h⟩
theorem RepR.num {a : Nat → Int32} {m : MT} (q : RepR a m) {i : Nat} (hi : i < 27) : a i = hAll m i := by
  unfold hAll
  by_cases h9 : i = 9
  · rw [if_pos h9, h9]; exact q.2.1.1
  · rw [if_neg h9]
    by_cases h19 : i = 19
    · rw [if_pos h19, h19]; exact q.2.2.1.1
    · rw [if_neg h19]
      by_cases h20 : i = 20
      · rw [if_pos h20, h20]; exact q.2.2.2.1
      · rw [if_neg h20]; exact q.1 i hi h9 h19 h20
def cpA (hs : Nat → Int32) (off : Nat) (kp : Nat → Int32) (n : Nat) : Nat → Int32 := fun i => if off ≤ i ∧ i < off + n then kp (i - off) else hs i
theorem cpA_0 (hs : Nat → Int32) (off : Nat) (kp : Nat → Int32) : cpA hs off kp 0 = hs := by
  funext i
  unfold cpA
  rw [if_neg (by omega)]
theorem cpA_s (hs : Nat → Int32) (off : Nat) (kp : Nat → Int32) (n : Nat) : upd (cpA hs off kp n) (off + n) (kp n) = cpA hs off kp (n + 1) := by
  funext i
  by_cases h : i = off + n
  · subst h
    rw [pk_us]
    unfold cpA
    rw [if_pos (by omega), Nat.add_sub_cancel_left]
  · rw [pk_un h]
    unfold cpA
    by_cases h2 : off ≤ i ∧ i < off + n
    · rw [if_pos h2, if_pos (by omega)]
    · rw [if_neg h2, if_neg (by omega)]
theorem cpA_in {hs kp : Nat → Int32} {off n j : Nat} (h : j < n) : cpA hs off kp n (off + j) = kp j := by
  unfold cpA
  rw [if_pos (by omega), Nat.add_sub_cancel_left]
theorem cpA_out {hs kp : Nat → Int32} {off n j : Nat} (h : j < off ∨ off + n ≤ j) : cpA hs off kp n j = hs j := by
  unfold cpA
  rw [if_neg (by omega)]
theorem rHist.push {hs kp : Nat → Int32} {hl z : Int32} {hi : List MT} {mk : MT} (q : rHist hs hl hi) (hn : hi.length < 6) (hk : RepR kp mk) (hz : z = nI (hi.length + 1)) : rHist (cpA hs (160 * hi.length) kp 160) z (hi ++ [mk]) := by
  refine ⟨by rw [hz]; simp, by simp; omega, fun j m hj => ?_⟩
  have hl2 : j < hi.length + 1 := by simpa using (List.getElem?_eq_some_iff.mp hj).1
  by_cases h : j < hi.length
  · exact (q.2.2 j m ((cut_s h).mp hj)).eq fun i hi2 => cpA_out (by omega)
  · have e : j = hi.length := by omega
    subst e
    rw [cut_m] at hj
    cases hj
    exact hk.eq fun i hi2 => cpA_in hi2
theorem rHist.shift {hs : Nat → Int32} {hl : Int32} {hi : List MT} (q : rHist hs hl hi) (hn : hi.length = 6) : rHist (tko hs 0 800 160) (nI 5) (hi.drop 1) := by
  refine ⟨by rw [List.length_drop, hn], by rw [List.length_drop, hn]; decide, fun j m hj => ?_⟩
  rw [List.getElem?_drop] at hj
  have hl2 := (List.getElem?_eq_some_iff.mp hj).1
  refine (q.2.2 (1 + j) m hj).eq fun i hi2 => ?_
  show tko hs 0 800 160 (160 * j + i) = hs (160 * (1 + j) + i)
  rw [tko_in (by omega) (by omega)]
  congr 1
  omega
theorem i160 (n k : Nat) : (160 : Int32) * nI n + nI k = nI (160 * n + k) := by rw [show (160 : Int32) = nI 160 from rfl, pk_mul, nI_add]
theorem inX5_X5_changed : ∀ w ∈ wsX50, w ∈ wsX5_changed := by decide +kernel
abbrev rmX5_changed : Room := { frames := 0, cells := 0, slots := 0, locals := 0 }
set_option maxHeartbeats 4000000 in
set_option maxRecDepth 100000 in
theorem c_X5_changed (g : GE) (lau : Launch) {N : Nat} {ad : Nat → Nat} {f : Nat → va_E} {o : Nat} {a kp hs : Nat → Int32} {hl : Int32} {so sv pd : Nat → Int32} {pn sp od wb nb : Int32} (hN : o + 7 ≤ N) {hi : List MT} {mk : MT} (hh : rHist hs hl hi) (hk0 : RepR kp mk) (r : Int32) : Ct g lau yX5_changed wsX5_changed rmX5_changed N ad [.ref (ad o), .int (r)] (zM g ad f o a kp hs hl so sv pd pn sp od wb nb) (pI N ad (fun x u => x = r ∧ ∃ hs2 hl2, u = (zM g ad f o a kp hs2 hl2 so sv pd pn sp od wb nb) ∧ rHist hs2 hl2 (if r < 0 then hi else pushH hi mk))) 0 0 := by
  refine Ct.of (maxL := 3) rfl (by decide +kernel) [some (.ref (ad o)), some (.int (r)), none] (Nat.le_of_ble_eq_true rfl) (by simp [lvo, lv_args, Value.category]) (fun E hnl _ hC hR => ?_)
  have loop2 : ∀ (hs : Nat → Int32) (hl : Int32) (hi2 : List MT), rHist hs hl hi2 → hi2.length < 6 → hi2 ++ [mk] = pushH hi mk → ¬ r < 0 → ∀ (n k : Nat), k + n = 160 → V E g N ad 0 0 (zM g ad f o a kp (cpA hs (160 * hi2.length) kp k) hl so sv pd pn sp od wb nb) 58 [some (.ref (ad o)), some (.int (r)), some (.int (nI k))] [] := by
    intro hs hl hi2 hq hn hpu hr0 n
    induction n with
    | zero =>
      intro k hk
      have hk : k = 160 := by omega
      subst hk
      refine V_iload_n hC dX5_changed_58 rfl rfl ?_
      refine V_sipush hC 160 dX5_changed_59 (by decide) ?_
      refine V_icmp_ge_t hC 92 dX5_changed_62 (by decide) (by decide) ?_
      refine V_aload_n hC dX5_changed_92 rfl rfl ?_
      refine V_dup hC dX5_changed_93 rfl ?_
      refine V_zM_historyLong hC hN dX5_changed_94 inX5_X5_changed (by decide +kernel) ?_
      refine V_iconst hC 1 dX5_changed_97 (by decide) ?_
      refine V_iadd hC dX5_changed_98 ?_
      refine V_zM_put_historyLong hC hN dX5_changed_99 inX5_X5_changed (by decide +kernel) ?_
      refine V_iload_n hC dX5_changed_102 rfl rfl ?_
      refine V_iret hC hR dX5_changed_103 ⟨rfl, rfl, _, rfl, ?_⟩
      refine ⟨rfl, _, _, rfl, ?_⟩
      rw [if_neg hr0, ← hpu]
      exact hq.push hn hk0 (by rw [hq.1]; exact nI_1 _)
    | succ n ih =>
      intro k hk
      refine V_iload_n hC dX5_changed_58 rfl rfl ?_
      refine V_sipush hC 160 dX5_changed_59 (by decide) ?_
      refine V_icmp_ge_f (tgt := 92) hC dX5_changed_62 (by decide) (nI_ge (a := k) (b := 160) (by omega) (by decide)) ?_
      refine V_aload_n hC dX5_changed_65 rfl rfl ?_
      refine V_zM_history hC hN dX5_changed_66 inX5_X5_changed (by decide +kernel) ?_
      refine V_sipush hC 160 dX5_changed_69 (by decide) ?_
      refine V_aload_n hC dX5_changed_72 rfl rfl ?_
      refine V_zM_historyLong hC hN dX5_changed_73 inX5_X5_changed (by decide +kernel) ?_
      refine V_imul hC dX5_changed_76 ?_
      refine V_iload_n hC dX5_changed_77 rfl rfl ?_
      refine V_iadd hC dX5_changed_78 ?_
      refine V_aload_n hC dX5_changed_79 rfl rfl ?_
      refine V_zM_kept hC hN dX5_changed_80 inX5_X5_changed (by decide +kernel) ?_
      refine V_iload_n hC dX5_changed_83 rfl rfl ?_
      refine V_zM_ld2 hC hN dX5_changed_84 (ix_nI (j := k) (by omega) (by decide)) ?_
      refine V_zM_st3 hC hN dX5_changed_85 (ix_of (j := 160 * hi2.length + k) (by rw [hq.1]; exact i160 _ _) (by omega) (by decide)) ?_
      refine V_iinc2 hC (nI (k + 1)) dX5_changed_86 (nI_1 k) (by rw [hnl]; decide) rfl ?_
      refine V_goto hC 58 dX5_changed_89 (by decide) ?_
      refine V_f ?_ (ih (k + 1) (by omega))
      rw [← cpA_s]
  have loop1 : hi.length = 6 → ¬ r < 0 → ∀ (n k : Nat), k + n = 800 → V E g N ad 0 0 (zM g ad f o a kp (tko hs 0 k 160) hl so sv pd pn sp od wb nb) 17 [some (.ref (ad o)), some (.int (r)), some (.int (nI k))] [] := by
    intro h6 hr0 n
    induction n with
    | zero =>
      intro k hk
      have hk : k = 800 := by omega
      subst hk
      refine V_iload_n hC dX5_changed_17 rfl rfl ?_
      refine V_sipush hC 800 dX5_changed_18 (by decide) ?_
      refine V_icmp_ge_t hC 46 dX5_changed_21 (by decide) (by decide) ?_
      refine V_aload_n hC dX5_changed_46 rfl rfl ?_
      refine V_dup hC dX5_changed_47 rfl ?_
      refine V_zM_historyLong hC hN dX5_changed_48 inX5_X5_changed (by decide +kernel) ?_
      refine V_iconst hC 1 dX5_changed_51 (by decide) ?_
      refine V_isub hC dX5_changed_52 ?_
      refine V_eqt (nI 5) (by rw [hh.1, h6]; rfl) ?_
      refine V_zM_put_historyLong hC hN dX5_changed_53 inX5_X5_changed (by decide +kernel) ?_
      refine V_iconst hC 0 dX5_changed_56 (by decide) ?_
      refine V_istore_n2 hC dX5_changed_57 rfl (by rw [hnl]; decide) rfl ?_
      have q2 := hh.shift h6
      have h5 : (hi.drop 1).length = 5 := by rw [List.length_drop, h6]
      have := loop2 _ _ _ q2 (by omega) (by rw [pushH, if_pos h6]) hr0 160 0 rfl
      rw [cpA_0] at this
      exact this
    | succ n ih =>
      intro k hk
      refine V_iload_n hC dX5_changed_17 rfl rfl ?_
      refine V_sipush hC 800 dX5_changed_18 (by decide) ?_
      refine V_icmp_ge_f (tgt := 46) hC dX5_changed_21 (by decide) (nI_ge (a := k) (b := 800) (by omega) (by decide)) ?_
      refine V_aload_n hC dX5_changed_24 rfl rfl ?_
      refine V_zM_history hC hN dX5_changed_25 inX5_X5_changed (by decide +kernel) ?_
      refine V_iload_n hC dX5_changed_28 rfl rfl ?_
      refine V_aload_n hC dX5_changed_29 rfl rfl ?_
      refine V_zM_history hC hN dX5_changed_30 inX5_X5_changed (by decide +kernel) ?_
      refine V_iload_n hC dX5_changed_33 rfl rfl ?_
      refine V_sipush hC 160 dX5_changed_34 (by decide) ?_
      refine V_iadd hC dX5_changed_37 ?_
      refine V_zM_ld3 hC hN dX5_changed_38 (ix_of (j := k + 160) (by rw [show (160 : Int32) = nI 160 from rfl, nI_add]) (by omega) (by decide)) ?_
      refine V_zM_st3 hC hN dX5_changed_39 (ix_nI (j := k) (by omega) (by decide)) ?_
      refine V_iinc2 hC (nI (k + 1)) dX5_changed_40 (nI_1 k) (by rw [hnl]; decide) rfl ?_
      refine V_goto hC 17 dX5_changed_43 (by decide) ?_
      refine V_f ?_ (ih (k + 1) (by omega))
      rw [← tko_s (by omega) (by omega)]
  refine V_iload_n hC dX5_changed_0 rfl rfl ?_
  refine V_if_ge hC 6 dX5_changed_1 (by decide) (fun c1 => ?_) (fun c1 => ?_)
  · have hr0 : ¬ r < 0 := Int32.not_lt.mpr c1
    refine V_aload_n hC dX5_changed_6 rfl rfl ?_
    refine V_zM_historyLong hC hN dX5_changed_7 inX5_X5_changed (by decide +kernel) ?_
    refine V_bipush hC 6 dX5_changed_10 (by decide) ?_
    refine V_icmp_ne hC 56 dX5_changed_12 (by decide) (fun c12 => ?_) (fun c12 => ?_)
    · have h6 : ¬ hi.length = 6 := by intro e; rw [hh.1, e] at c12; exact c12 rfl
      refine V_iconst hC 0 dX5_changed_56 (by decide) ?_
      refine V_istore_n2 hC dX5_changed_57 rfl (by rw [hnl]; decide) rfl ?_
      have := loop2 _ _ _ hh (by have := hh.2.1; omega) (by rw [pushH, if_neg h6]) hr0 160 0 rfl
      rw [cpA_0] at this
      exact this
    · have h6 : hi.length = 6 := by rw [hh.1] at c12; exact (nI_eq (by have := hh.2.1; omega) (by decide)).mp c12
      refine V_iconst hC 0 dX5_changed_15 (by decide) ?_
      refine V_istore_n2 hC dX5_changed_16 rfl (by rw [hnl]; decide) rfl ?_
      have := loop1 h6 hr0 800 0 rfl
      rw [tko_0 _ _ _ _ (Nat.le_refl _)] at this
      exact this
  · have hr0 : r < 0 := Int32.not_le.mp c1
    refine V_iload_n hC dX5_changed_4 rfl rfl ?_
    refine V_iret hC hR dX5_changed_5 ⟨rfl, rfl, _, rfl, ?_⟩
    refine ⟨rfl, _, _, rfl, ?_⟩
    rw [if_pos hr0]
    exact hh
theorem inX5_X5_set : ∀ w ∈ wsX50, w ∈ wsX5_set := by decide +kernel
abbrev rmX5_set : Room := { frames := 3, cells := 0, slots := 0, locals := 69 }
set_option maxHeartbeats 4000000 in
set_option maxRecDepth 100000 in
theorem c_X5_set (g : GE) (lau : Launch) {N : Nat} {ad : Nat → Nat} {f : Nat → va_E} {o : Nat} {a kp hs : Nat → Int32} {hl : Int32} {so sv pd : Nat → Int32} {pn sp od wb nb : Int32} (hN : o + 7 ≤ N) {S : ST} (hS : RepM a hs hl so sv pd pn S) (k : Int32) (v : Int32) : Ct g lau yX5_set wsX5_set rmX5_set N ad [.ref (ad o), .int (k), .int (v)] (zM g ad f o a kp hs hl so sv pd pn sp od wb nb) (pI N ad (fun x u => x = (sChange (mSet k v S.1) S).1 ∧ MIs g ad f o (sChange (mSet k v S.1) S).2 u)) 0 0 := by
  refine Ct.of (maxL := 3) rfl (by decide +kernel) [some (.ref (ad o)), some (.int (k)), some (.int (v))] (Nat.le_of_ble_eq_true rfl) (by simp [lvo, lv_args, Value.category]) (fun E hnl _ hC hR => ?_)
  obtain ⟨hm, hh, hs2, hp2⟩ := hS
  refine V_aload_n hC dX5_set_0 rfl rfl ?_
  refine V_cvV (n := 0) hC (c_X5_keep g (eL E) hN) dX5_set_1 gX5_set_X5_keep rfl rfl rfl ⟨rfl, rfl⟩ (by decide +kernel) (by decide +kernel) (by omega) zM_0 rfl (Nat.le_of_ble_eq_true rfl) (by decide) (fun u1 h1 => ?_)
  obtain rfl := h1
  refine V_aload_n hC dX5_set_4 rfl rfl ?_
  refine V_aload_n hC dX5_set_5 rfl rfl ?_
  refine V_iload_n hC dX5_set_6 rfl rfl ?_
  refine V_iload_n hC dX5_set_7 rfl rfl ?_
  refine V_cvI (n := 2) hC (c_X5_doSet g (eL E) hN hm k v) dX5_set_8 gX5_set_X5_doSet rfl rfl rfl ⟨rfl, rfl⟩ (by decide +kernel) (by decide +kernel) (by omega) zM_0 rfl (Nat.le_of_ble_eq_true rfl) (by decide) (fun x8 u8 h8 => ?_)
  obtain ⟨rfl, a2, rfl, hm2⟩ := h8
  refine V_cvI (n := 1) hC (c_X5_changed g (eL E) hN hh (hm.eq (b := cpN a kp 160) fun i hi => by simp [cpN, hi]) _) dX5_set_11 gX5_set_X5_changed rfl rfl rfl ⟨rfl, rfl⟩ (by decide +kernel) (by decide +kernel) (by omega) zM_0 rfl (Nat.le_of_ble_eq_true rfl) (by decide) (fun x11 u11 h11 => ?_)
  obtain ⟨rfl, hs3, hl3, rfl, hh3⟩ := h11
  refine V_iret hC hR dX5_set_14 ⟨rfl, rfl, _, rfl, ?_⟩
  exact ⟨rfl, MIs.mk ⟨hm2, hh3, hs2, hp2⟩⟩
theorem inX5_X5_pass : ∀ w ∈ wsX50, w ∈ wsX5_pass := by decide +kernel
abbrev rmX5_pass : Room := { frames := 8, cells := 0, slots := 0, locals := 174 }
set_option maxHeartbeats 4000000 in
set_option maxRecDepth 100000 in
theorem c_X5_pass (g : GE) (lau : Launch) {N : Nat} {ad : Nat → Nat} {f : Nat → va_E} {o : Nat} {a kp hs : Nat → Int32} {hl : Int32} {so sv pd : Nat → Int32} {pn sp od wb nb : Int32} (hN : o + 7 ≤ N) {S : ST} (hS : RepM a hs hl so sv pd pn S) (v : Int32) (hok : ∀ n, n ≤ 99 → TicksOK n S.1) : Ct g lau yX5_pass wsX5_pass rmX5_pass N ad [.ref (ad o), .int (v)] (zM g ad f o a kp hs hl so sv pd pn sp od wb nb) (pI N ad (fun x u => x = (sChange (mPass v S.1) S).1 ∧ MIs g ad f o (sChange (mPass v S.1) S).2 u)) 0 0 := by
  refine Ct.of (maxL := 2) rfl (by decide +kernel) [some (.ref (ad o)), some (.int (v))] (Nat.le_of_ble_eq_true rfl) (by simp [lvo, lv_args, Value.category]) (fun E hnl _ hC hR => ?_)
  obtain ⟨hm, hh, hs2, hp2⟩ := hS
  refine V_aload_n hC dX5_pass_0 rfl rfl ?_
  refine V_cvV (n := 0) hC (c_X5_keep g (eL E) hN) dX5_pass_1 gX5_pass_X5_keep rfl rfl rfl ⟨rfl, rfl⟩ (by decide +kernel) (by decide +kernel) (by omega) zM_0 rfl (Nat.le_of_ble_eq_true rfl) (by decide) (fun u1 h1 => ?_)
  obtain rfl := h1
  refine V_aload_n hC dX5_pass_4 rfl rfl ?_
  refine V_aload_n hC dX5_pass_5 rfl rfl ?_
  refine V_iload_n hC dX5_pass_6 rfl rfl ?_
  refine V_cvI (n := 1) hC (c_X5_doPass g (eL E) hN hm v hok) dX5_pass_7 gX5_pass_X5_doPass rfl rfl rfl ⟨rfl, rfl⟩ (by decide +kernel) (by decide +kernel) (by omega) zM_0 rfl (Nat.le_of_ble_eq_true rfl) (by decide) (fun x7 u7 h7 => ?_)
  obtain ⟨rfl, a2, rfl, hm2⟩ := h7
  refine V_cvI (n := 1) hC (c_X5_changed g (eL E) hN hh (hm.eq (b := cpN a kp 160) fun i hi => by simp [cpN, hi]) _) dX5_pass_10 gX5_pass_X5_changed rfl rfl rfl ⟨rfl, rfl⟩ (by decide +kernel) (by decide +kernel) (by omega) zM_0 rfl (Nat.le_of_ble_eq_true rfl) (by decide) (fun x10 u10 h10 => ?_)
  obtain ⟨rfl, hs3, hl3, rfl, hh3⟩ := h10
  refine V_iret hC hR dX5_pass_13 ⟨rfl, rfl, _, rfl, ?_⟩
  exact ⟨rfl, MIs.mk ⟨hm2, hh3, hs2, hp2⟩⟩
theorem mPlan_no {v : Int32} {m : MT} (h : ¬ ∃ k, k < m.2.2.2.length ∧ v = nI k) : mPlan v m = -1 := by
  unfold mPlan
  split
  · rfl
  · rename_i h0
    obtain ⟨k, hk, e⟩ := nI_of h0
    subst e
    rw [nI_clamp hk, List.getElem?_eq_none (by
      rcases Nat.lt_or_ge k m.2.2.2.length with q | q
      · exact absurd ⟨k, q, rfl⟩ h
      · exact q)]
theorem mPlan_yes {m : MT} {k : Nat} (h : k < m.2.2.2.length) (h2 : m.2.2.2.length < 2 ^ 31 := by omega) : mPlan (nI k) m = m.2.2.2[k] + 1000 := by
  unfold mPlan
  rw [if_neg (nI_pos (by omega)), nI_clamp (by omega), List.getElem?_eq_getElem h]
theorem mReport_no {v w : Int32} {m : MT} (h : ¬ ∃ k, k < m.2.2.1.length ∧ v = nI k) : mReport v w m = -1 := by
  unfold mReport
  split
  · rfl
  · rename_i h0
    obtain ⟨k, hk, e⟩ := nI_of h0
    subst e
    rw [nI_clamp hk, List.getElem?_eq_none (by
      rcases Nat.lt_or_ge k m.2.2.1.length with q | q
      · exact absurd ⟨k, q, rfl⟩ h
      · exact q)]
theorem mReport_yes {m : MT} {k : Nat} {w : Int32} (h : k < m.2.2.1.length) (h2 : m.2.2.1.length < 2 ^ 31 := by omega) : mReport (nI k) w m = if w = 0 then m.2.2.1[k].1 - m.1 8 + 1 else if w = 1 then m.2.2.1[k].2 else -2 := by
  unfold mReport
  rw [if_neg (nI_pos (by omega)), nI_clamp (by omega), List.getElem?_eq_getElem h]
theorem mBox_no {v w : Int32} {m : MT} (h : ¬ ∃ k, k < m.2.1.length ∧ v = nI k) : mBox v w m = -1 := by
  unfold mBox
  split
  · rfl
  · rename_i h0
    obtain ⟨k, hk, e⟩ := nI_of h0
    subst e
    rw [nI_clamp hk, List.getElem?_eq_none (by
      rcases Nat.lt_or_ge k m.2.1.length with q | q
      · exact absurd ⟨k, q, rfl⟩ h
      · exact q)]
theorem mBox_yes {m : MT} {k : Nat} {w : Int32} {x : Nat → Int32} (h : m.2.1[k]? = some x) (h2 : k < 2 ^ 31) : mBox (nI k) w m = if w = 0 then x 0 + 1000 else if w = 3 then (if x 3 = -6 then -6 else x 3 + 1000) else if w = 1 then x 1 else if w = 2 then x 2 else if w = 4 then x 4 else if w = 5 then x 5 else -2 := by
  unfold mBox
  rw [if_neg (nI_pos (by omega)), nI_clamp (by omega), h]
theorem inX5_X5_plan : ∀ w ∈ wsX50, w ∈ wsX5_plan := by decide +kernel
abbrev rmX5_plan : Room := { frames := 1, cells := 0, slots := 0, locals := 25 }
set_option maxHeartbeats 4000000 in
set_option maxRecDepth 100000 in
theorem c_X5_plan (g : GE) (lau : Launch) {N : Nat} {ad : Nat → Nat} {f : Nat → va_E} {o : Nat} {a kp hs : Nat → Int32} {hl : Int32} {so sv pd : Nat → Int32} {pn sp od wb nb : Int32} (hN : o + 7 ≤ N) {m : MT} (hm : RepR a m) (v : Int32) : Ct g lau yX5_plan wsX5_plan rmX5_plan N ad [.ref (ad o), .int (v)] (zM g ad f o a kp hs hl so sv pd pn sp od wb nb) (pI N ad (fun x u => x = mPlan v m ∧ u = (zM g ad f o a kp hs hl so sv pd pn sp od wb nb))) 0 0 := by
  refine Ct.of (maxL := 2) rfl (by decide +kernel) [some (.ref (ad o)), some (.int (v))] (Nat.le_of_ble_eq_true rfl) (by simp [lvo, lv_args, Value.category]) (fun E hnl _ hC hR => ?_)
  obtain ⟨hh, hb, hr, hp⟩ := hm
  refine V_iload_n hC dX5_plan_0 rfl rfl ?_
  refine V_i2l hC dX5_plan_1 ?_
  refine V_lconst hC 0 dX5_plan_2 (by decide) ?_
  refine V_aload_n hC dX5_plan_3 rfl rfl ?_
  refine V_zM_all hC hN dX5_plan_4 inX5_X5_plan (by decide +kernel) ?_
  refine V_bipush hC 20 dX5_plan_7 (by decide) ?_
  refine V_zM_ld1 hC hN (k := 20) dX5_plan_9 (ix_c (by decide)) ?_
  refine V_i2l hC dX5_plan_10 ?_
  refine V_lconst hC 1 dX5_plan_11 (by decide) ?_
  refine V_lsub hC dX5_plan_12 ?_
  refine V_csI (n := 3) hC (c_X5_in g (eL E) _ _ _) dX5_plan_13 gX5_plan_X5_in rfl rfl rfl ⟨rfl, rfl⟩ (by decide +kernel) (by decide +kernel) (Nat.le_of_ble_eq_true rfl) (by decide) (fun x13 u13 h13 => ?_)
  rcases h13 with ⟨rfl, hj, rfl⟩ | ⟨rfl, hj, rfl⟩
  · rw [hp.1, inJ_n (Nat.lt_of_le_of_lt hp.2.1 (by decide))] at hj
    obtain ⟨k, hk, rfl⟩ := hj
    have := hp.2.1
    refine V_if_eq_f (tgt := 36) hC dX5_plan_16 (by decide) (by decide) ?_
    refine V_aload_n hC dX5_plan_19 rfl rfl ?_
    refine V_zM_all hC hN dX5_plan_20 inX5_X5_plan (by decide +kernel) ?_
    refine V_sipush hC 131 dX5_plan_23 (by decide) ?_
    refine V_iload_n hC dX5_plan_26 rfl rfl ?_
    refine V_iadd hC dX5_plan_27 ?_
    refine V_zM_ld1 hC hN dX5_plan_28 (ix_of (j := 131 + k) (i131 k) (by omega) (by decide)) ?_
    refine V_sipush hC 1000 dX5_plan_29 (by decide) ?_
    refine V_iadd hC dX5_plan_32 ?_
    refine V_goto hC 37 dX5_plan_33 (by decide) ?_
    refine V_iret hC hR dX5_plan_37 ⟨rfl, rfl, _, rfl, ?_⟩
    first | exact ⟨(mPlan_no hj).symm, rfl⟩ | exact ⟨by rw [mPlan_yes hk, hp.2.2 k _ (List.getElem?_eq_getElem hk)], rfl⟩
  · rw [hp.1, inJ_n (Nat.lt_of_le_of_lt hp.2.1 (by decide))] at hj
    refine V_if_eq_t hC 36 dX5_plan_16 (by decide) rfl ?_
    refine V_iconst hC (-1) dX5_plan_36 (by decide) ?_
    refine V_iret hC hR dX5_plan_37 ⟨rfl, rfl, _, rfl, ?_⟩
    first | exact ⟨(mPlan_no hj).symm, rfl⟩ | exact ⟨by rw [mPlan_yes hk, hp.2.2 k _ (List.getElem?_eq_getElem hk)], rfl⟩
theorem inX5_X5_report : ∀ w ∈ wsX50, w ∈ wsX5_report := by decide +kernel
abbrev rmX5_report : Room := { frames := 1, cells := 0, slots := 0, locals := 25 }
set_option maxHeartbeats 4000000 in
set_option maxRecDepth 100000 in
theorem c_X5_report (g : GE) (lau : Launch) {N : Nat} {ad : Nat → Nat} {f : Nat → va_E} {o : Nat} {a kp hs : Nat → Int32} {hl : Int32} {so sv pd : Nat → Int32} {pn sp od wb nb : Int32} (hN : o + 7 ≤ N) {m : MT} (hm : RepR a m) (v w : Int32) : Ct g lau yX5_report wsX5_report rmX5_report N ad [.ref (ad o), .int (v), .int (w)] (zM g ad f o a kp hs hl so sv pd pn sp od wb nb) (pI N ad (fun x u => x = mReport v w m ∧ u = (zM g ad f o a kp hs hl so sv pd pn sp od wb nb))) 0 0 := by
  refine Ct.of (maxL := 3) rfl (by decide +kernel) [some (.ref (ad o)), some (.int (v)), some (.int (w))] (Nat.le_of_ble_eq_true rfl) (by simp [lvo, lv_args, Value.category]) (fun E hnl _ hC hR => ?_)
  obtain ⟨hh, hb, hr, hp⟩ := hm
  have e8 := hh 8 (by decide) (by decide) (by decide) (by decide)
  refine V_iload_n hC dX5_report_0 rfl rfl ?_
  refine V_i2l hC dX5_report_1 ?_
  refine V_lconst hC 0 dX5_report_2 (by decide) ?_
  refine V_aload_n hC dX5_report_3 rfl rfl ?_
  refine V_zM_all hC hN dX5_report_4 inX5_X5_report (by decide +kernel) ?_
  refine V_bipush hC 19 dX5_report_7 (by decide) ?_
  refine V_zM_ld1 hC hN (k := 19) dX5_report_9 (ix_c (by decide)) ?_
  refine V_i2l hC dX5_report_10 ?_
  refine V_lconst hC 1 dX5_report_11 (by decide) ?_
  refine V_lsub hC dX5_report_12 ?_
  refine V_csI (n := 3) hC (c_X5_in g (eL E) _ _ _) dX5_report_13 gX5_report_X5_in rfl rfl rfl ⟨rfl, rfl⟩ (by decide +kernel) (by decide +kernel) (Nat.le_of_ble_eq_true rfl) (by decide) (fun x13 u13 h13 => ?_)
  rcases h13 with ⟨rfl, hj, rfl⟩ | ⟨rfl, hj, rfl⟩
  · rw [hr.1, inJ_n (Nat.lt_of_le_of_lt hr.2.1 (by decide))] at hj
    obtain ⟨k, hk, rfl⟩ := hj
    have := hr.2.1
    have hg := hr.2.2 k _ (List.getElem?_eq_getElem hk)
    refine V_if_ne_t hC 21 dX5_report_16 (by decide) (by decide) ?_
    refine V_iload_n hC dX5_report_21 rfl rfl ?_
    refine V_if_ne hC 49 dX5_report_22 (by decide) (fun c22 => ?_) (fun c22 => ?_)
    · refine V_iload_n hC dX5_report_49 rfl rfl ?_
      refine V_iconst hC 1 dX5_report_50 (by decide) ?_
      refine V_icmp_ne hC 70 dX5_report_51 (by decide) (fun c51 => ?_) (fun c51 => ?_)
      · refine V_bipush hC (-2) dX5_report_70 (by decide) ?_
        refine V_iret hC hR dX5_report_72 ⟨rfl, rfl, _, rfl, ?_⟩
        refine ⟨?_, rfl⟩
        rw [mReport_yes hk]
        first | (rw [if_neg c22, if_pos c51, hg.2]; done) | (rw [if_neg c22, if_neg c51]; done) | (rw [if_pos c22, hg.1, e8]; done)
      · refine V_aload_n hC dX5_report_54 rfl rfl ?_
        refine V_zM_all hC hN dX5_report_55 inX5_X5_report (by decide +kernel) ?_
        refine V_bipush hC 75 dX5_report_58 (by decide) ?_
        refine V_iconst hC 2 dX5_report_60 (by decide) ?_
        refine V_iload_n hC dX5_report_61 rfl rfl ?_
        refine V_imul hC dX5_report_62 ?_
        refine V_iadd hC dX5_report_63 ?_
        refine V_iconst hC 1 dX5_report_64 (by decide) ?_
        refine V_iadd hC dX5_report_65 ?_
        refine V_zM_ld1 hC hN dX5_report_66 (ix_of (j := 75 + 2 * k + 1) (i2n1 k) (by omega) (by decide)) ?_
        refine V_goto hC 72 dX5_report_67 (by decide) ?_
        refine V_iret hC hR dX5_report_72 ⟨rfl, rfl, _, rfl, ?_⟩
        refine ⟨?_, rfl⟩
        rw [mReport_yes hk]
        first | (rw [if_neg c22, if_pos c51, hg.2]; done) | (rw [if_neg c22, if_neg c51]; done) | (rw [if_pos c22, hg.1, e8]; done)
    · refine V_aload_n hC dX5_report_25 rfl rfl ?_
      refine V_zM_all hC hN dX5_report_26 inX5_X5_report (by decide +kernel) ?_
      refine V_bipush hC 75 dX5_report_29 (by decide) ?_
      refine V_iconst hC 2 dX5_report_31 (by decide) ?_
      refine V_iload_n hC dX5_report_32 rfl rfl ?_
      refine V_imul hC dX5_report_33 ?_
      refine V_iadd hC dX5_report_34 ?_
      refine V_zM_ld1 hC hN dX5_report_35 (ix_of (j := 75 + 2 * k) (i2n k) (by omega) (by decide)) ?_
      refine V_aload_n hC dX5_report_36 rfl rfl ?_
      refine V_zM_all hC hN dX5_report_37 inX5_X5_report (by decide +kernel) ?_
      refine V_bipush hC 8 dX5_report_40 (by decide) ?_
      refine V_zM_ld1 hC hN (k := 8) dX5_report_42 (ix_c (by decide)) ?_
      refine V_isub hC dX5_report_43 ?_
      refine V_iconst hC 1 dX5_report_44 (by decide) ?_
      refine V_iadd hC dX5_report_45 ?_
      refine V_goto hC 72 dX5_report_46 (by decide) ?_
      refine V_iret hC hR dX5_report_72 ⟨rfl, rfl, _, rfl, ?_⟩
      refine ⟨?_, rfl⟩
      rw [mReport_yes hk]
      first | (rw [if_neg c22, if_pos c51, hg.2]; done) | (rw [if_neg c22, if_neg c51]; done) | (rw [if_pos c22, hg.1, e8]; done)
  · rw [hr.1, inJ_n (Nat.lt_of_le_of_lt hr.2.1 (by decide))] at hj
    refine V_if_ne_f (tgt := 21) hC dX5_report_16 (by decide) rfl ?_
    refine V_iconst hC (-1) dX5_report_19 (by decide) ?_
    refine V_iret hC hR dX5_report_20 ⟨rfl, rfl, _, rfl, ?_⟩
    exact ⟨(mReport_no hj).symm, rfl⟩
