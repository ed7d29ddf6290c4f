theorem rB.push {a b : Nat → Int32} {bs : List (Nat → Int32)} {x : Nat → Int32} (q : rB a bs) (h : bs.length < 8) (h9 : b 9 = nI (bs.length + 1)) (ho : ∀ i, 27 ≤ i → i < 27 + 6 * bs.length → b i = a i) (hx : ∀ w, w < 6 → b (27 + 6 * bs.length + w) = x w) : rB b (bs ++ [x]) := by
  refine ⟨by rw [h9]; simp, by simp; omega, fun j y hy w hw => ?_⟩
  have hj : j < bs.length + 1 := by simpa using (List.getElem?_eq_some_iff.mp hy).1
  by_cases h2 : j < bs.length
  · rw [ho _ (by omega) (by omega)]
    exact q.2.2 j y ((cut_s h2).mp hy) w hw
  · have : j = bs.length := by omega
    subst this
    rw [cut_m] at hy
    cases hy
    exact hx w hw
theorem last_get {α : Type} {l : List α} : l.getLast? = l[l.length - 1]? := List.getLast?_eq_getElem?
def rmA (d : List (Nat → Int32)) (fr : Int32) : Bool := match d.getLast? with
  | none => true
  | some y => decide (1 ≤ y 0 - y 1 - fr)
def rmB (r : List (Nat → Int32)) (bk : Int32) : Bool := match r with
  | [] => true
  | y :: _ => decide (1 ≤ bk - y 0)
theorem roomT_eq (d r : List (Nat → Int32)) (x : Nat → Int32) (len : Int32) : roomT d x r len = (rmA d (frontT x len) && rmB r (frontT x len - len)) := rfl
theorem mTurn_cut {h : Nat → Int32} {d r : List (Nat → Int32)} {x : Nat → Int32} {rs : List (Int32 × Int32)} {ps : List Int32} {len : Int32} (hl : d.length < 2 ^ 31) : mTurn (nI d.length) len (h, d ++ x :: r, rs, ps) = if okLen len then (if rmA d (frontT x len) && rmB r (frontT x len - len) then (frontT x len + 1000, (h, d ++ xTurn x len :: r, rs, ps)) else (-5, (h, d ++ x :: r, rs, ps))) else (-2, (h, d ++ x :: r, rs, ps)) := by
  unfold mTurn
  rw [if_neg (nI_pos hl), nI_clamp hl]
  unfold mTurnAt
  simp only [cut_m]
  rw [show (d ++ x :: r).take d.length = d by simp, show (d ++ x :: r).drop (d.length + 1) = r by simp]
  rfl
theorem mTurn_no {v len : Int32} {m : MT} (h : ¬ ∃ k, k < m.2.1.length ∧ v = nI k) : mTurn v len m = (-1, m) := by
  unfold mTurn
  split
  · rfl
  · rename_i h0
    obtain ⟨k, hk, e⟩ := nI_of h0
    subst e
    unfold mTurnAt
    rw [nI_clamp hk, List.getElem?_eq_none (by
      rcases Nat.lt_or_ge k m.2.1.length with q | q
      · exact absurd ⟨k, q, rfl⟩ h
      · exact q)]
theorem rH.eq2 {a h : Nat → Int32} {k : Nat} {z z2 : Int32} (q : rH (upd a k z) (upd h k z)) (e : z = z2) : rH (upd a k z) (upd h k z2) := by rw [← e]; exact q
theorem inX5_X5_doArrive : ∀ w ∈ wsX50, w ∈ wsX5_doArrive := by decide +kernel
abbrev rmX5_doArrive : Room := { frames := 2, cells := 0, slots := 0, locals := 45 }
set_option maxHeartbeats 4000000 in
set_option maxRecDepth 100000 in
theorem c_X5_doArrive (g : GE) (lau : Launch) {N : Nat} {ad : Nat → Nat} {f : Nat → va_E} {o : Nat} {a kp hs : Nat → Int32} {hl : Int32} {so sv pd : Nat → Int32} {pn sp od wb nb : Int32} (hN : o + 7 ≤ N) {m : MT} (hm : RepR a m) (v : Int32) : Ct g lau yX5_doArrive wsX5_doArrive rmX5_doArrive N ad [.ref (ad o), .int (v)] (zM g ad f o a kp hs hl so sv pd pn sp od wb nb) (pI N ad (fun x u => x = (mArrive v m).1 ∧ ∃ a2, u = (zM g ad f o a2 kp hs hl so sv pd pn sp od wb nb) ∧ RepR a2 (mArrive v m).2)) 0 0 := by
  refine Ct.of (maxL := 3) rfl (by decide +kernel) [some (.ref (ad o)), some (.int (v)), none] (Nat.le_of_ble_eq_true rfl) (by simp [lvo, lv_args, Value.category]) (fun E hnl _ hC hR => ?_)
  obtain ⟨hh, hb, hr, hp⟩ := hm
  have hl8 := hb.2.1
  have e10 := hh 10 (by decide) (by decide) (by decide) (by decide)
  have J : okLen v = true → ¬ m.2.1.length = 8 → nearIn m.2.1 = false → V E g N ad 0 0 (zM g ad f o a kp hs hl so sv pd pn sp od wb nb) 45 [some (.ref (ad o)), some (.int (v)), some (.int (nI m.2.1.length))] [] := by
    intro hj h8 hn
    have hlt : m.2.1.length < 8 := by omega
    refine V_aload_n hC dX5_doArrive_45 rfl rfl ?_
    refine V_iload_n hC dX5_doArrive_46 rfl rfl ?_
    refine V_iconst hC 0 dX5_doArrive_47 (by decide) ?_
    refine V_iconst hC 0 dX5_doArrive_48 (by decide) ?_
    refine V_cvV (n := 3) hC (c_X5_put g (eL E) hN (b := m.2.1.length) (w := 0) (z := 0) hlt (by decide)) dX5_doArrive_49 gX5_doArrive_X5_put rfl rfl rfl ⟨rfl, rfl⟩ (by decide +kernel) (by decide +kernel) (by omega) zM_0 rfl (Nat.le_of_ble_eq_true rfl) (by decide) (fun u49 h49 => ?_)
    obtain rfl := h49
    refine V_aload_n hC dX5_doArrive_52 rfl rfl ?_
    refine V_iload_n hC dX5_doArrive_53 rfl rfl ?_
    refine V_iconst hC 1 dX5_doArrive_54 (by decide) ?_
    refine V_iload_n hC dX5_doArrive_55 rfl rfl ?_
    refine V_cvV (n := 3) hC (c_X5_put g (eL E) hN (b := m.2.1.length) (w := 1) (z := v) hlt (by decide)) dX5_doArrive_56 gX5_doArrive_X5_put rfl rfl rfl ⟨rfl, rfl⟩ (by decide +kernel) (by decide +kernel) (by omega) zM_0 rfl (Nat.le_of_ble_eq_true rfl) (by decide) (fun u56 h56 => ?_)
    obtain rfl := h56
    refine V_aload_n hC dX5_doArrive_59 rfl rfl ?_
    refine V_iload_n hC dX5_doArrive_60 rfl rfl ?_
    refine V_iconst hC 2 dX5_doArrive_61 (by decide) ?_
    refine V_iconst hC 0 dX5_doArrive_62 (by decide) ?_
    refine V_cvV (n := 3) hC (c_X5_put g (eL E) hN (b := m.2.1.length) (w := 2) (z := 0) hlt (by decide)) dX5_doArrive_63 gX5_doArrive_X5_put rfl rfl rfl ⟨rfl, rfl⟩ (by decide +kernel) (by decide +kernel) (by omega) zM_0 rfl (Nat.le_of_ble_eq_true rfl) (by decide) (fun u63 h63 => ?_)
    obtain rfl := h63
    refine V_aload_n hC dX5_doArrive_66 rfl rfl ?_
    refine V_iload_n hC dX5_doArrive_67 rfl rfl ?_
    refine V_iconst hC 3 dX5_doArrive_68 (by decide) ?_
    refine V_bipush hC (-6) dX5_doArrive_69 (by decide) ?_
    refine V_cvV (n := 3) hC (c_X5_put g (eL E) hN (b := m.2.1.length) (w := 3) (z := (-6)) hlt (by decide)) dX5_doArrive_71 gX5_doArrive_X5_put rfl rfl rfl ⟨rfl, rfl⟩ (by decide +kernel) (by decide +kernel) (by omega) zM_0 rfl (Nat.le_of_ble_eq_true rfl) (by decide) (fun u71 h71 => ?_)
    obtain rfl := h71
    refine V_aload_n hC dX5_doArrive_74 rfl rfl ?_
    refine V_iload_n hC dX5_doArrive_75 rfl rfl ?_
    refine V_iconst hC 4 dX5_doArrive_76 (by decide) ?_
    refine V_iconst hC 0 dX5_doArrive_77 (by decide) ?_
    refine V_cvV (n := 3) hC (c_X5_put g (eL E) hN (b := m.2.1.length) (w := 4) (z := 0) hlt (by decide)) dX5_doArrive_78 gX5_doArrive_X5_put rfl rfl rfl ⟨rfl, rfl⟩ (by decide +kernel) (by decide +kernel) (by omega) zM_0 rfl (Nat.le_of_ble_eq_true rfl) (by decide) (fun u78 h78 => ?_)
    obtain rfl := h78
    refine V_aload_n hC dX5_doArrive_81 rfl rfl ?_
    refine V_iload_n hC dX5_doArrive_82 rfl rfl ?_
    refine V_iconst hC 5 dX5_doArrive_83 (by decide) ?_
    refine V_aload_n hC dX5_doArrive_84 rfl rfl ?_
    refine V_zM_all hC hN dX5_doArrive_85 inX5_X5_doArrive (by decide +kernel) ?_
    refine V_bipush hC 10 dX5_doArrive_88 (by decide) ?_
    refine V_zM_ld1 hC hN (k := 10) dX5_doArrive_90 (ix_c (by decide)) ?_
    refine V_cvV (n := 3) hC (c_X5_put g (eL E) hN (b := m.2.1.length) (w := 5) (z := _) hlt (by decide)) dX5_doArrive_91 gX5_doArrive_X5_put rfl rfl rfl ⟨rfl, rfl⟩ (by decide +kernel) (by decide +kernel) (by omega) zM_0 rfl (Nat.le_of_ble_eq_true rfl) (by decide) (fun u91 h91 => ?_)
    obtain rfl := h91
    refine V_aload_n hC dX5_doArrive_94 rfl rfl ?_
    refine V_zM_all hC hN dX5_doArrive_95 inX5_X5_doArrive (by decide +kernel) ?_
    refine V_bipush hC 9 dX5_doArrive_98 (by decide) ?_
    refine V_dup2 hC dX5_doArrive_100 rfl rfl ?_
    refine V_zM_ld1 hC hN (k := 9) dX5_doArrive_101 (ix_c (by decide)) ?_
    refine V_iconst hC 1 dX5_doArrive_102 (by decide) ?_
    refine V_iadd hC dX5_doArrive_103 ?_
    refine V_zM_st1 (k := 9) hC hN dX5_doArrive_104 (ix_c (by decide)) ?_
    refine V_aload_n hC dX5_doArrive_105 rfl rfl ?_
    refine V_zM_all hC hN dX5_doArrive_106 inX5_X5_doArrive (by decide +kernel) ?_
    refine V_bipush hC 10 dX5_doArrive_109 (by decide) ?_
    refine V_dup2 hC dX5_doArrive_111 rfl rfl ?_
    refine V_zM_ld1 hC hN (k := 10) dX5_doArrive_112 (ix_c (by decide)) ?_
    refine V_iconst hC 1 dX5_doArrive_113 (by decide) ?_
    refine V_iadd hC dX5_doArrive_114 ?_
    refine V_zM_st1 (k := 10) hC hN dX5_doArrive_115 (ix_c (by decide)) ?_
    refine V_iload_n hC dX5_doArrive_116 rfl rfl ?_
    refine V_iret hC hR dX5_doArrive_117 ⟨rfl, rfl, _, rfl, ?_⟩
    have q : mArrive v m = (nI m.2.1.length, (upd m.1 10 (m.1 10 + 1), m.2.1 ++ [newX v (m.1 10)], m.2.2)) := by rw [mArrive, if_pos hj, if_neg h8, hn]; rfl
    rw [q]
    refine ⟨rfl, _, rfl, ?_, ?_, ?_, ?_⟩
    · refine (rH.at (z := _) ((((((((hh.off (by omega)).off (by omega)).off (by omega)).off (by omega)).off (by omega)).off (by omega)).off (by omega)))).eq2 ?_
      rw [pk_un (by omega), pk_un (by omega), pk_un (by omega), pk_un (by omega), pk_un (by omega), pk_un (by omega), pk_un (by omega), e10]
    · refine hb.push hlt ?_ ?_ ?_
      · rw [pk_un (by omega), pk_us, pk_un (by omega), pk_un (by omega), pk_un (by omega), pk_un (by omega), pk_un (by omega), pk_un (by omega), hb.1]
        exact nI_1 _
      · intro i h1 h2
        rw [pk_un (by omega), pk_un (by omega), pk_un (by omega), pk_un (by omega), pk_un (by omega), pk_un (by omega), pk_un (by omega), pk_un (by omega)]
      · intro w hw
        rcases (show w = 0 ∨ w = 1 ∨ w = 2 ∨ w = 3 ∨ w = 4 ∨ w = 5 by omega) with rfl | rfl | rfl | rfl | rfl | rfl
        · rw [pk_un (by omega), pk_un (by omega), pk_un (by omega), pk_un (by omega), pk_un (by omega), pk_un (by omega), pk_un (by omega)]
          rw [pk_us]
          rfl
        · rw [pk_un (by omega), pk_un (by omega), pk_un (by omega), pk_un (by omega), pk_un (by omega), pk_un (by omega)]
          rw [pk_us]
          rfl
        · rw [pk_un (by omega), pk_un (by omega), pk_un (by omega), pk_un (by omega), pk_un (by omega)]
          rw [pk_us]
          rfl
        · rw [pk_un (by omega), pk_un (by omega), pk_un (by omega), pk_un (by omega)]
          rw [pk_us]
          rfl
        · rw [pk_un (by omega), pk_un (by omega), pk_un (by omega)]
          rw [pk_us]
          rfl
        · rw [pk_un (by omega), pk_un (by omega)]
          rw [pk_us]
          rw [pk_un (by omega), pk_un (by omega), pk_un (by omega), pk_un (by omega), pk_un (by omega)]
          rw [e10]
          rfl
    · exact ((((((((hr.off (by omega) (by omega)).off (by omega) (by omega)).off (by omega) (by omega)).off (by omega) (by omega)).off (by omega) (by omega)).off (by omega) (by omega)).off (by omega) (by omega)).off (by omega) (by omega))
    · exact ((((((((hp.off (by omega) (by omega)).off (by omega) (by omega)).off (by omega) (by omega)).off (by omega) (by omega)).off (by omega) (by omega)).off (by omega) (by omega)).off (by omega) (by omega)).off (by omega) (by omega))
  refine V_iload_n hC dX5_doArrive_0 rfl rfl ?_
  refine V_csI (n := 1) hC (c_X5_isLength g (eL E) v) dX5_doArrive_1 gX5_doArrive_X5_isLength rfl rfl rfl ⟨rfl, rfl⟩ (by decide +kernel) (by decide +kernel) (Nat.le_of_ble_eq_true rfl) (by decide) (fun x1 u1 h1 => ?_)
  rcases h1 with ⟨rfl, hj, rfl⟩ | ⟨rfl, hj, rfl⟩
  · refine V_if_ne_t hC 10 dX5_doArrive_4 (by decide) (by decide) ?_
    refine V_aload_n hC dX5_doArrive_10 rfl rfl ?_
    refine V_zM_all hC hN dX5_doArrive_11 inX5_X5_doArrive (by decide +kernel) ?_
    refine V_bipush hC 9 dX5_doArrive_14 (by decide) ?_
    refine V_zM_ld1 hC hN (k := 9) dX5_doArrive_16 (ix_c (by decide)) ?_
    refine V_eqt (nI m.2.1.length) hb.1 ?_
    refine V_istore_n2 hC dX5_doArrive_17 rfl (by rw [hnl]; decide) rfl ?_
    refine V_iload_n hC dX5_doArrive_18 rfl rfl ?_
    refine V_bipush hC 8 dX5_doArrive_19 (by decide) ?_
    refine V_icmp_ne hC 27 dX5_doArrive_21 (by decide) (fun c21 => ?_) (fun c21 => ?_)
    · have h8 : ¬ m.2.1.length = 8 := fun e => c21 (by rw [e]; rfl)
      refine V_iload_n hC dX5_doArrive_27 rfl rfl ?_
      refine V_if_le hC 45 dX5_doArrive_28 (by decide) (fun c28 => ?_) (fun c28 => ?_)
      · have h0 : m.2.1.length = 0 := by rcases Nat.eq_zero_or_pos m.2.1.length with q | q; exact q; exact absurd c28 (nI_nle q (by omega))
        exact J hj h8 (by unfold nearIn; rw [last_get, List.getElem?_eq_none (by omega)])
      · have h0 : 0 < m.2.1.length := by rcases Nat.eq_zero_or_pos m.2.1.length with q | q; rw [q] at c28; exact absurd (by decide) c28; exact q
        obtain ⟨y, hy⟩ : ∃ y, m.2.1[m.2.1.length - 1]? = some y := ⟨_, List.getElem?_eq_getElem (by omega)⟩
        have hy0 := hb.2.2 _ y hy 0 (by decide)
        have hy1 := hb.2.2 _ y hy 1 (by decide)
        refine V_aload_n hC dX5_doArrive_31 rfl rfl ?_
        refine V_iload_n hC dX5_doArrive_32 rfl rfl ?_
        refine V_iconst hC 1 dX5_doArrive_33 (by decide) ?_
        refine V_isub hC dX5_doArrive_34 ?_
        refine V_eqt (nI (m.2.1.length - 1)) (by rw [show (1 : Int32) = nI 1 from rfl, pk_sub (by omega)]) ?_
        refine V_cvI (n := 1) hC (c_X5_back g (eL E) hN (b := m.2.1.length - 1) (by omega)) dX5_doArrive_35 gX5_doArrive_X5_back rfl rfl rfl ⟨rfl, rfl⟩ (by decide +kernel) (by decide +kernel) (by omega) zM_0 rfl (Nat.le_of_ble_eq_true rfl) (by decide) (fun x35 u35 h35 => ?_)
        obtain ⟨rfl, rfl⟩ := h35
        refine V_iconst hC 1 dX5_doArrive_38 (by decide) ?_
        refine V_icmp_ge hC 45 dX5_doArrive_39 (by decide) (fun c39 => ?_) (fun c39 => ?_)
        · have hn : nearIn m.2.1 = false := by rw [hy0, hy1] at c39; unfold nearIn; rw [last_get, hy]; simp only [decide_eq_false_iff_not]; exact Int32.not_lt.mpr c39
          exact J hj h8 hn
        · have hn : nearIn m.2.1 = true := by rw [hy0, hy1] at c39; unfold nearIn; rw [last_get, hy]; simp only [decide_eq_true_eq]; exact Int32.not_le.mp c39
          refine V_bipush hC (-5) dX5_doArrive_42 (by decide) ?_
          refine V_iret hC hR dX5_doArrive_44 ⟨rfl, rfl, _, rfl, ?_⟩
          rw [mArrive, if_pos hj, if_neg h8, hn]
          exact ⟨rfl, a, rfl, hh, hb, hr, hp⟩
    · have h8 : m.2.1.length = 8 := (nI_eq (b := 8) (by omega) (by decide)).mp c21
      refine V_bipush hC (-4) dX5_doArrive_24 (by decide) ?_
      refine V_iret hC hR dX5_doArrive_26 ⟨rfl, rfl, _, rfl, ?_⟩
      rw [mArrive, if_pos hj, if_pos h8]
      exact ⟨rfl, a, rfl, hh, hb, hr, hp⟩
  · refine V_if_ne_f (tgt := 10) hC dX5_doArrive_4 (by decide) (by decide) ?_
    refine V_bipush hC (-2) dX5_doArrive_7 (by decide) ?_
    refine V_iret hC hR dX5_doArrive_9 ⟨rfl, rfl, _, rfl, ?_⟩
    rw [mArrive, hj]
    exact ⟨rfl, a, rfl, hh, hb, hr, hp⟩
theorem inX5_X5_doTurn : ∀ w ∈ wsX50, w ∈ wsX5_doTurn := by decide +kernel
abbrev rmX5_doTurn : Room := { frames := 2, cells := 0, slots := 0, locals := 46 }
set_option maxHeartbeats 4000000 in
set_option maxRecDepth 100000 in
theorem c_X5_doTurn (g : GE) (lau : Launch) {N : Nat} {ad : Nat → Nat} {f : Nat → va_E} {o : Nat} {a kp hs : Nat → Int32} {hl : Int32} {so sv pd : Nat → Int32} {pn sp od wb nb : Int32} (hN : o + 7 ≤ N) {m : MT} (hm : RepR a m) (v1 v : Int32) : Ct g lau yX5_doTurn wsX5_doTurn rmX5_doTurn N ad [.ref (ad o), .int (v1), .int (v)] (zM g ad f o a kp hs hl so sv pd pn sp od wb nb) (pI N ad (fun x u => x = (mTurn v1 v m).1 ∧ ∃ a2, u = (zM g ad f o a2 kp hs hl so sv pd pn sp od wb nb) ∧ RepR a2 (mTurn v1 v m).2)) 0 0 := by
  refine Ct.of (maxL := 7) rfl (by decide +kernel) [some (.ref (ad o)), some (.int (v1)), some (.int (v)), none, none, none, none] (Nat.le_of_ble_eq_true rfl) (by simp [lvo, lv_args, Value.category]) (fun E hnl _ hC hR => ?_)
  obtain ⟨h, bs, rs, ps⟩ := m
  obtain ⟨hh, hb, hr, hp⟩ := hm
  have J : ∀ (d r : List (Nat → Int32)) (x : Nat → Int32), rB a (d ++ x :: r) → okLen v = true → v1 = nI d.length → bs = d ++ x :: r → V E g N ad 0 0 (zM g ad f o a kp hs hl so sv pd pn sp od wb nb) 54 [some (.ref (ad o)), some (.int (nI d.length)), some (.int (v)), some (.int (v - x 1)), some (.int (frontT x v)), none, none] [] := by
    intro d r x hb hj ev1 ebs
    subst ev1
    subst ebs
    have hlt := hb.lt
    have hl8 := hb.2.1
    simp only [List.length_append, List.length_cons] at hl8
    have J116 : ∀ (v5 v6 : Int32), (v5 = 1 ∧ rmA d (frontT x v) = true ∨ v5 = 0 ∧ rmA d (frontT x v) = false) → (v6 = 1 ∧ rmB r (frontT x v - v) = true ∨ v6 = 0 ∧ rmB r (frontT x v - v) = false) → V E g N ad 0 0 (zM g ad f o a kp hs hl so sv pd pn sp od wb nb) 116 [some (.ref (ad o)), some (.int (nI d.length)), some (.int (v)), some (.int (v - x 1)), some (.int (frontT x v)), some (.int (v5)), some (.int (v6))] [] := by
      intro v5 v6 h5 h6
      refine V_iload hC dX5_doTurn_116 rfl ?_
      refine V_if_eq hC 126 dX5_doTurn_118 (by decide) (fun c118 => ?_) (fun c118 => ?_)
      · refine V_bipush hC (-5) dX5_doTurn_126 (by decide) ?_
        refine V_iret hC hR dX5_doTurn_128 ⟨rfl, rfl, _, rfl, ?_⟩
        rw [mTurn_cut (by omega), if_pos hj]
        have hno : ¬ (rmA d (frontT x v) && rmB r (frontT x v - v)) = true := by
          intro q
          rw [Bool.and_eq_true] at q
          first | (rcases h5 with ⟨e, q5⟩ | ⟨e, q5⟩; rw [e] at c118; exact absurd c118 (by decide); rw [q5] at q; exact absurd q.1 (by decide)) | (rcases h6 with ⟨e, q6⟩ | ⟨e, q6⟩; rw [e] at c123; exact absurd c123 (by decide); rw [q6] at q; exact absurd q.2 (by decide))
        rw [if_neg hno]
        exact ⟨rfl, a, rfl, hh, hb, hr, hp⟩
      · refine V_iload hC dX5_doTurn_121 rfl ?_
        refine V_if_ne hC 129 dX5_doTurn_123 (by decide) (fun c123 => ?_) (fun c123 => ?_)
        · refine V_aload_n hC dX5_doTurn_129 rfl rfl ?_
          refine V_iload_n hC dX5_doTurn_130 rfl rfl ?_
          refine V_iconst hC 0 dX5_doTurn_131 (by decide) ?_
          refine V_iload hC dX5_doTurn_132 rfl ?_
          refine V_cvV (n := 3) hC (c_X5_put g (eL E) hN (b := d.length) (w := 0) (z := _) hlt (by decide)) dX5_doTurn_134 gX5_doTurn_X5_put rfl rfl rfl ⟨rfl, rfl⟩ (by decide +kernel) (by decide +kernel) (by omega) zM_0 rfl (Nat.le_of_ble_eq_true rfl) (by decide) (fun u134 h134 => ?_)
          obtain rfl := h134
          refine V_aload_n hC dX5_doTurn_137 rfl rfl ?_
          refine V_iload_n hC dX5_doTurn_138 rfl rfl ?_
          refine V_iconst hC 1 dX5_doTurn_139 (by decide) ?_
          refine V_iload_n hC dX5_doTurn_140 rfl rfl ?_
          refine V_cvV (n := 3) hC (c_X5_put g (eL E) hN (b := d.length) (w := 1) (z := _) hlt (by decide)) dX5_doTurn_141 gX5_doTurn_X5_put rfl rfl rfl ⟨rfl, rfl⟩ (by decide +kernel) (by decide +kernel) (by omega) zM_0 rfl (Nat.le_of_ble_eq_true rfl) (by decide) (fun u141 h141 => ?_)
          obtain rfl := h141
          refine V_iload hC dX5_doTurn_144 rfl ?_
          refine V_sipush hC 1000 dX5_doTurn_146 (by decide) ?_
          refine V_iadd hC dX5_doTurn_149 ?_
          refine V_iret hC hR dX5_doTurn_150 ⟨rfl, rfl, _, rfl, ?_⟩
          rw [mTurn_cut (by omega), if_pos hj]
          have hye : (rmA d (frontT x v) && rmB r (frontT x v - v)) = true := by
            rw [Bool.and_eq_true]
            refine ⟨?_, ?_⟩
            · rcases h5 with ⟨e, q5⟩ | ⟨e, q5⟩
              · exact q5
              · exact absurd e c118
            · rcases h6 with ⟨e, q6⟩ | ⟨e, q6⟩
              · exact q6
              · exact absurd e c123
          rw [if_pos hye]
          refine ⟨rfl, _, rfl, (hh.off (by omega)).off (by omega), ?_, (hr.off (by omega) (by omega)).off (by omega) (by omega), (hp.off (by omega) (by omega)).off (by omega) (by omega)⟩
          exact (hb.set (w := 0) (by decide)).set (w := 1) (by decide)
        · refine V_bipush hC (-5) dX5_doTurn_126 (by decide) ?_
          refine V_iret hC hR dX5_doTurn_128 ⟨rfl, rfl, _, rfl, ?_⟩
          rw [mTurn_cut (by omega), if_pos hj]
          have hno : ¬ (rmA d (frontT x v) && rmB r (frontT x v - v)) = true := by
            intro q
            rw [Bool.and_eq_true] at q
            first | (rcases h5 with ⟨e, q5⟩ | ⟨e, q5⟩; rw [e] at c118; exact absurd c118 (by decide); rw [q5] at q; exact absurd q.1 (by decide)) | (rcases h6 with ⟨e, q6⟩ | ⟨e, q6⟩; rw [e] at c123; exact absurd c123 (by decide); rw [q6] at q; exact absurd q.2 (by decide))
          rw [if_neg hno]
          exact ⟨rfl, a, rfl, hh, hb, hr, hp⟩
    have J79 : ∀ (v5 : Int32), (v5 = 1 ∧ rmA d (frontT x v) = true ∨ v5 = 0 ∧ rmA d (frontT x v) = false) → V E g N ad 0 0 (zM g ad f o a kp hs hl so sv pd pn sp od wb nb) 79 [some (.ref (ad o)), some (.int (nI d.length)), some (.int (v)), some (.int (v - x 1)), some (.int (frontT x v)), some (.int (v5)), none] [] := by
      intro v5 h5
      refine V_iload_n hC dX5_doTurn_79 rfl rfl ?_
      refine V_aload_n hC dX5_doTurn_80 rfl rfl ?_
      refine V_zM_all hC hN dX5_doTurn_81 inX5_X5_doTurn (by decide +kernel) ?_
      refine V_bipush hC 9 dX5_doTurn_84 (by decide) ?_
      refine V_zM_ld1 hC hN (k := 9) dX5_doTurn_86 (ix_c (by decide)) ?_
      refine V_iconst hC 1 dX5_doTurn_87 (by decide) ?_
      refine V_isub hC dX5_doTurn_88 ?_
      refine V_eqt (nI (d.length + r.length)) (by rw [hb.1, len_p, List.length_append]) ?_
      refine V_icmp_eq hC 109 dX5_doTurn_89 (by decide) (fun c89 => ?_) (fun c89 => ?_)
      · have hr0 : r = [] := by have := (nI_eq (by omega) (by omega)).mp c89; exact List.eq_nil_of_length_eq_zero (by omega)
        refine V_iconst hC 1 dX5_doTurn_109 (by decide) ?_
        refine V_goto hC 114 dX5_doTurn_110 (by decide) ?_
        refine V_istore6 hC dX5_doTurn_114 (by rw [hnl]; decide) rfl ?_
        exact J116 v5 1 h5 (Or.inl ⟨rfl, by rw [hr0]; rfl⟩)
      · obtain ⟨y, r2, hr2⟩ : ∃ y r2, r = y :: r2 := by cases r with | nil => exact absurd rfl c89 | cons y r2 => exact ⟨y, r2, rfl⟩
        have hb2 : rB a ((d ++ [x]) ++ y :: r2) := by rw [List.append_assoc, ← hr2]; exact hb
        have ey : a (27 + 6 * (d.length + 1) + 0) = y 0 := by have := hb2.get (w := 0) (by decide); rwa [List.length_append] at this
        have hlt2 : d.length + 1 < 8 := by have := hb2.lt; rwa [List.length_append] at this
        refine V_iload hC dX5_doTurn_92 rfl ?_
        refine V_iload_n hC dX5_doTurn_94 rfl rfl ?_
        refine V_isub hC dX5_doTurn_95 ?_
        refine V_aload_n hC dX5_doTurn_96 rfl rfl ?_
        refine V_iload_n hC dX5_doTurn_97 rfl rfl ?_
        refine V_iconst hC 1 dX5_doTurn_98 (by decide) ?_
        refine V_iadd hC dX5_doTurn_99 ?_
        refine V_eqt (nI (d.length + 1)) (nI_1 _) ?_
        refine V_iconst hC 0 dX5_doTurn_100 (by decide) ?_
        refine V_cvI (n := 2) hC (c_X5_get g (eL E) hN (b := d.length + 1) (w := 0) hlt2 (by decide)) dX5_doTurn_101 gX5_doTurn_X5_get rfl rfl rfl ⟨rfl, rfl⟩ (by decide +kernel) (by decide +kernel) (by omega) zM_0 rfl (Nat.le_of_ble_eq_true rfl) (by decide) (fun x101 u101 h101 => ?_)
        obtain ⟨rfl, rfl⟩ := h101
        refine V_isub hC dX5_doTurn_104 ?_
        refine V_iconst hC 1 dX5_doTurn_105 (by decide) ?_
        refine V_icmp_lt hC 113 dX5_doTurn_106 (by decide) (fun c106 => ?_) (fun c106 => ?_)
        · have h6 : rmB r (frontT x v - v) = false := by rw [hr2]; rw [ey] at c106; simp only [rmB, decide_eq_false_iff_not]; exact Int32.not_le.mpr c106
          refine V_iconst hC 0 dX5_doTurn_113 (by decide) ?_
          refine V_istore6 hC dX5_doTurn_114 (by rw [hnl]; decide) rfl ?_
          exact J116 v5 0 h5 (Or.inr ⟨rfl, h6⟩)
        · have h6 : rmB r (frontT x v - v) = true := by rw [hr2]; rw [ey] at c106; simp only [rmB, decide_eq_true_eq]; exact Int32.not_lt.mp c106
          refine V_iconst hC 1 dX5_doTurn_109 (by decide) ?_
          refine V_goto hC 114 dX5_doTurn_110 (by decide) ?_
          refine V_istore6 hC dX5_doTurn_114 (by rw [hnl]; decide) rfl ?_
          exact J116 v5 1 h5 (Or.inl ⟨rfl, h6⟩)
    refine V_iload_n hC dX5_doTurn_54 rfl rfl ?_
    refine V_if_eq hC 72 dX5_doTurn_55 (by decide) (fun c55 => ?_) (fun c55 => ?_)
    · have hd0 : d = [] := by have := (nI_eq (b := 0) (by omega) (by decide)).mp c55; exact List.eq_nil_of_length_eq_zero this
      refine V_iconst hC 1 dX5_doTurn_72 (by decide) ?_
      refine V_goto hC 77 dX5_doTurn_73 (by decide) ?_
      refine V_istore5 hC dX5_doTurn_77 (by rw [hnl]; decide) rfl ?_
      exact J79 1 (Or.inl ⟨rfl, by rw [hd0]; rfl⟩)
    · have hd0 : 0 < d.length := by rcases Nat.eq_zero_or_pos d.length with q | q; rw [q] at c55; exact absurd rfl c55; exact q
      obtain ⟨y, hy⟩ : ∃ y, d[d.length - 1]? = some y := ⟨_, List.getElem?_eq_getElem (by omega)⟩
      have hy2 := (cut_s (r := x :: r) (by omega)).mpr hy
      have hy0 := hb.2.2 _ y hy2 0 (by decide)
      have hy1 := hb.2.2 _ y hy2 1 (by decide)
      refine V_aload_n hC dX5_doTurn_58 rfl rfl ?_
      refine V_iload_n hC dX5_doTurn_59 rfl rfl ?_
      refine V_iconst hC 1 dX5_doTurn_60 (by decide) ?_
      refine V_isub hC dX5_doTurn_61 ?_
      refine V_eqt (nI (d.length - 1)) (by rw [show (1 : Int32) = nI 1 from rfl, pk_sub (by omega)]) ?_
      refine V_cvI (n := 1) hC (c_X5_back g (eL E) hN (b := d.length - 1) (by omega)) dX5_doTurn_62 gX5_doTurn_X5_back rfl rfl rfl ⟨rfl, rfl⟩ (by decide +kernel) (by decide +kernel) (by omega) zM_0 rfl (Nat.le_of_ble_eq_true rfl) (by decide) (fun x62 u62 h62 => ?_)
      obtain ⟨rfl, rfl⟩ := h62
      refine V_iload hC dX5_doTurn_65 rfl ?_
      refine V_isub hC dX5_doTurn_67 ?_
      refine V_iconst hC 1 dX5_doTurn_68 (by decide) ?_
      refine V_icmp_lt hC 76 dX5_doTurn_69 (by decide) (fun c69 => ?_) (fun c69 => ?_)
      · have h5 : rmA d (frontT x v) = false := by rw [hy0, hy1] at c69; unfold rmA; rw [last_get, hy]; simp only [decide_eq_false_iff_not]; exact Int32.not_le.mpr c69
        refine V_iconst hC 0 dX5_doTurn_76 (by decide) ?_
        refine V_istore5 hC dX5_doTurn_77 (by rw [hnl]; decide) rfl ?_
        exact J79 0 (Or.inr ⟨rfl, h5⟩)
      · have h5 : rmA d (frontT x v) = true := by rw [hy0, hy1] at c69; unfold rmA; rw [last_get, hy]; simp only [decide_eq_true_eq]; exact Int32.not_lt.mp c69
        refine V_iconst hC 1 dX5_doTurn_72 (by decide) ?_
        refine V_goto hC 77 dX5_doTurn_73 (by decide) ?_
        refine V_istore5 hC dX5_doTurn_77 (by rw [hnl]; decide) rfl ?_
        exact J79 1 (Or.inl ⟨rfl, h5⟩)
  refine V_aload_n hC dX5_doTurn_0 rfl rfl ?_
  refine V_iload_n hC dX5_doTurn_1 rfl rfl ?_
  refine V_cvI (n := 1) hC (c_X5_isBox g (eL E) hN hb v1) dX5_doTurn_2 gX5_doTurn_X5_isBox rfl rfl rfl ⟨rfl, rfl⟩ (by decide +kernel) (by decide +kernel) (by omega) zM_0 rfl (Nat.le_of_ble_eq_true rfl) (by decide) (fun x2 u2 h2 => ?_)
  rcases h2 with ⟨rfl, hj, rfl⟩ | ⟨rfl, hj, rfl⟩
  · obtain ⟨k, hk, rfl⟩ := hj
    obtain ⟨d, r, x, rfl, rfl⟩ := cut_ex hk
    have hlt := hb.lt
    have k1 := hb.get (w := 1) (by decide)
    have k0 := hb.get (w := 0) (by decide)
    refine V_if_ne_t hC 10 dX5_doTurn_5 (by decide) (by decide) ?_
    refine V_iload_n hC dX5_doTurn_10 rfl rfl ?_
    refine V_csI (n := 1) hC (c_X5_isLength g (eL E) v) dX5_doTurn_11 gX5_doTurn_X5_isLength rfl rfl rfl ⟨rfl, rfl⟩ (by decide +kernel) (by decide +kernel) (Nat.le_of_ble_eq_true rfl) (by decide) (fun x11 u11 h11 => ?_)
    rcases h11 with ⟨rfl, hj, rfl⟩ | ⟨rfl, hj, rfl⟩
    · refine V_if_ne_t hC 20 dX5_doTurn_14 (by decide) (by decide) ?_
      refine V_iload_n hC dX5_doTurn_20 rfl rfl ?_
      refine V_aload_n hC dX5_doTurn_21 rfl rfl ?_
      refine V_iload_n hC dX5_doTurn_22 rfl rfl ?_
      refine V_iconst hC 1 dX5_doTurn_23 (by decide) ?_
      refine V_cvI (n := 2) hC (c_X5_get g (eL E) hN (b := d.length) (w := 1) hlt (by decide)) dX5_doTurn_24 gX5_doTurn_X5_get rfl rfl rfl ⟨rfl, rfl⟩ (by decide +kernel) (by decide +kernel) (by omega) zM_0 rfl (Nat.le_of_ble_eq_true rfl) (by decide) (fun x24 u24 h24 => ?_)
      obtain ⟨rfl, rfl⟩ := h24
      refine V_isub hC dX5_doTurn_27 ?_
      refine V_eqt (v - x 1) (by rw [k1]) ?_
      refine V_istore_n3 hC dX5_doTurn_28 rfl (by rw [hnl]; decide) rfl ?_
      refine V_aload_n hC dX5_doTurn_29 rfl rfl ?_
      refine V_iload_n hC dX5_doTurn_30 rfl rfl ?_
      refine V_iconst hC 0 dX5_doTurn_31 (by decide) ?_
      refine V_cvI (n := 2) hC (c_X5_get g (eL E) hN (b := d.length) (w := 0) hlt (by decide)) dX5_doTurn_32 gX5_doTurn_X5_get rfl rfl rfl ⟨rfl, rfl⟩ (by decide +kernel) (by decide +kernel) (by omega) zM_0 rfl (Nat.le_of_ble_eq_true rfl) (by decide) (fun x32 u32 h32 => ?_)
      obtain ⟨rfl, rfl⟩ := h32
      refine V_iload_n hC dX5_doTurn_35 rfl rfl ?_
      refine V_if_ge hC 48 dX5_doTurn_36 (by decide) (fun c36 => ?_) (fun c36 => ?_)
      · refine V_iload_n hC dX5_doTurn_48 rfl rfl ?_
        refine V_iconst hC 2 dX5_doTurn_49 (by decide) ?_
        refine V_idiv hC dX5_doTurn_50 (by decide) ?_
        refine V_iadd hC dX5_doTurn_51 ?_
        refine V_eqt (frontT x v) (by rw [k0, frontT, halfD, if_neg (Int32.not_lt.mpr c36)]) ?_
        refine V_istore4 hC dX5_doTurn_52 (by rw [hnl]; decide) rfl ?_
        exact J d r x hb hj rfl rfl
      · refine V_iconst hC 1 dX5_doTurn_39 (by decide) ?_
        refine V_iload_n hC dX5_doTurn_40 rfl rfl ?_
        refine V_isub hC dX5_doTurn_41 ?_
        refine V_iconst hC 2 dX5_doTurn_42 (by decide) ?_
        refine V_idiv hC dX5_doTurn_43 (by decide) ?_
        refine V_ineg hC dX5_doTurn_44 ?_
        refine V_goto hC 51 dX5_doTurn_45 (by decide) ?_
        refine V_iadd hC dX5_doTurn_51 ?_
        refine V_eqt (frontT x v) (by rw [k0, frontT, halfD, if_pos (Int32.not_le.mp c36)]) ?_
        refine V_istore4 hC dX5_doTurn_52 (by rw [hnl]; decide) rfl ?_
        exact J d r x hb hj rfl rfl
    · refine V_if_ne_f (tgt := 20) hC dX5_doTurn_14 (by decide) (by decide) ?_
      refine V_bipush hC (-2) dX5_doTurn_17 (by decide) ?_
      refine V_iret hC hR dX5_doTurn_19 ⟨rfl, rfl, _, rfl, ?_⟩
      rw [mTurn_cut (by omega), hj]
      exact ⟨rfl, a, rfl, hh, hb, hr, hp⟩
  · refine V_if_ne_f (tgt := 10) hC dX5_doTurn_5 (by decide) rfl ?_
    refine V_iconst hC (-1) dX5_doTurn_8 (by decide) ?_
    refine V_iret hC hR dX5_doTurn_9 ⟨rfl, rfl, _, rfl, ?_⟩
    rw [mTurn_no hj]
    exact ⟨rfl, a, rfl, hh, hb, hr, hp⟩
theorem inX5_X5_arrive : ∀ w ∈ wsX50, w ∈ wsX5_arrive := by decide +kernel
abbrev rmX5_arrive : Room := { frames := 3, cells := 0, slots := 0, locals := 67 }
set_option maxHeartbeats 4000000 in
set_option maxRecDepth 100000 in
theorem c_X5_arrive (g : GE) (lau : Launch) {N : Nat} {ad : Nat → Nat} {f : Nat → va_E} {o : Nat} {a kp hs : Nat → Int32} {hl : Int32} {so sv pd : Nat → Int32} {pn sp od wb nb : Int32} (hN : o + 7 ≤ N) {S : ST} (hS : RepM a hs hl so sv pd pn S) (v : Int32) : Ct g lau yX5_arrive wsX5_arrive rmX5_arrive N ad [.ref (ad o), .int (v)] (zM g ad f o a kp hs hl so sv pd pn sp od wb nb) (pI N ad (fun x u => x = (sChange (mArrive v S.1) S).1 ∧ MIs g ad f o (sChange (mArrive v S.1) S).2 u)) 0 0 := by
  refine Ct.of (maxL := 2) rfl (by decide +kernel) [some (.ref (ad o)), some (.int (v))] (Nat.le_of_ble_eq_true rfl) (by simp [lvo, lv_args, Value.category]) (fun E hnl _ hC hR => ?_)
  obtain ⟨hm, hh, hs2, hp2⟩ := hS
  refine V_aload_n hC dX5_arrive_0 rfl rfl ?_
  refine V_cvV (n := 0) hC (c_X5_keep g (eL E) hN) dX5_arrive_1 gX5_arrive_X5_keep rfl rfl rfl ⟨rfl, rfl⟩ (by decide +kernel) (by decide +kernel) (by omega) zM_0 rfl (Nat.le_of_ble_eq_true rfl) (by decide) (fun u1 h1 => ?_)
  obtain rfl := h1
  refine V_aload_n hC dX5_arrive_4 rfl rfl ?_
  refine V_aload_n hC dX5_arrive_5 rfl rfl ?_
  refine V_iload_n hC dX5_arrive_6 rfl rfl ?_
  refine V_cvI (n := 1) hC (c_X5_doArrive g (eL E) hN hm v) dX5_arrive_7 gX5_arrive_X5_doArrive rfl rfl rfl ⟨rfl, rfl⟩ (by decide +kernel) (by decide +kernel) (by omega) zM_0 rfl (Nat.le_of_ble_eq_true rfl) (by decide) (fun x7 u7 h7 => ?_)
  obtain ⟨rfl, a2, rfl, hm2⟩ := h7
  refine V_cvI (n := 1) hC (c_X5_changed g (eL E) hN hh (hm.eq (b := cpN a kp 160) fun i hi => by simp [cpN, hi]) _) dX5_arrive_10 gX5_arrive_X5_changed rfl rfl rfl ⟨rfl, rfl⟩ (by decide +kernel) (by decide +kernel) (by omega) zM_0 rfl (Nat.le_of_ble_eq_true rfl) (by decide) (fun x10 u10 h10 => ?_)
  obtain ⟨rfl, hs3, hl3, rfl, hh3⟩ := h10
  refine V_iret hC hR dX5_arrive_13 ⟨rfl, rfl, _, rfl, ?_⟩
  exact ⟨rfl, MIs.mk ⟨hm2, hh3, hs2, hp2⟩⟩
theorem inX5_X5_turn : ∀ w ∈ wsX50, w ∈ wsX5_turn := by decide +kernel
abbrev rmX5_turn : Room := { frames := 3, cells := 0, slots := 0, locals := 72 }
set_option maxHeartbeats 4000000 in
set_option maxRecDepth 100000 in
theorem c_X5_turn (g : GE) (lau : Launch) {N : Nat} {ad : Nat → Nat} {f : Nat → va_E} {o : Nat} {a kp hs : Nat → Int32} {hl : Int32} {so sv pd : Nat → Int32} {pn sp od wb nb : Int32} (hN : o + 7 ≤ N) {S : ST} (hS : RepM a hs hl so sv pd pn S) (v1 : Int32) (v : Int32) : Ct g lau yX5_turn wsX5_turn rmX5_turn N ad [.ref (ad o), .int (v1), .int (v)] (zM g ad f o a kp hs hl so sv pd pn sp od wb nb) (pI N ad (fun x u => x = (sChange (mTurn v1 v S.1) S).1 ∧ MIs g ad f o (sChange (mTurn v1 v S.1) S).2 u)) 0 0 := by
  refine Ct.of (maxL := 3) rfl (by decide +kernel) [some (.ref (ad o)), some (.int (v1)), some (.int (v))] (Nat.le_of_ble_eq_true rfl) (by simp [lvo, lv_args, Value.category]) (fun E hnl _ hC hR => ?_)
  obtain ⟨hm, hh, hs2, hp2⟩ := hS
  refine V_aload_n hC dX5_turn_0 rfl rfl ?_
  refine V_cvV (n := 0) hC (c_X5_keep g (eL E) hN) dX5_turn_1 gX5_turn_X5_keep rfl rfl rfl ⟨rfl, rfl⟩ (by decide +kernel) (by decide +kernel) (by omega) zM_0 rfl (Nat.le_of_ble_eq_true rfl) (by decide) (fun u1 h1 => ?_)
  obtain rfl := h1
  refine V_aload_n hC dX5_turn_4 rfl rfl ?_
  refine V_aload_n hC dX5_turn_5 rfl rfl ?_
  refine V_iload_n hC dX5_turn_6 rfl rfl ?_
  refine V_iload_n hC dX5_turn_7 rfl rfl ?_
  refine V_cvI (n := 2) hC (c_X5_doTurn g (eL E) hN hm v1 v) dX5_turn_8 gX5_turn_X5_doTurn rfl rfl rfl ⟨rfl, rfl⟩ (by decide +kernel) (by decide +kernel) (by omega) zM_0 rfl (Nat.le_of_ble_eq_true rfl) (by decide) (fun x8 u8 h8 => ?_)
  obtain ⟨rfl, a2, rfl, hm2⟩ := h8
  refine V_cvI (n := 1) hC (c_X5_changed g (eL E) hN hh (hm.eq (b := cpN a kp 160) fun i hi => by simp [cpN, hi]) _) dX5_turn_11 gX5_turn_X5_changed rfl rfl rfl ⟨rfl, rfl⟩ (by decide +kernel) (by decide +kernel) (by omega) zM_0 rfl (Nat.le_of_ble_eq_true rfl) (by decide) (fun x11 u11 h11 => ?_)
  obtain ⟨rfl, hs3, hl3, rfl, hh3⟩ := h11
  refine V_iret hC hR dX5_turn_14 ⟨rfl, rfl, _, rfl, ?_⟩
  exact ⟨rfl, MIs.mk ⟨hm2, hh3, hs2, hp2⟩⟩
