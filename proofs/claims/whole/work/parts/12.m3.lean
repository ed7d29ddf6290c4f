theorem rH.tko {a h : Nat → Int32} {lo hi e : Nat} (q : rH a h) (hk : 27 ≤ lo ∨ hi ≤ lo) : rH (tko a lo hi e) h := q.eq fun i _ _ _ _ => tko_out (by omega)
theorem rB.tko {a : Nat → Int32} {bs : List (Nat → Int32)} {lo hi e : Nat} (q : rB a bs) (hk : 75 ≤ lo) : rB (tko a lo hi e) bs := q.eq (tko_out (by omega)) fun i _ _ => tko_out (by omega)
theorem rR.tko {a : Nat → Int32} {rs : List (Int32 × Int32)} {lo hi e : Nat} (q : rR a rs) (hk : 20 ≤ lo ∧ hi ≤ 75 ∨ 131 ≤ lo) : rR (tko a lo hi e) rs := q.eq (tko_out (by omega)) fun i _ _ => tko_out (by omega)
theorem rP.tko {a : Nat → Int32} {ps : List Int32} {lo hi e : Nat} (q : rP a ps) (hk : 21 ≤ lo ∧ hi ≤ 131) : rP (tko a lo hi e) ps := q.eq (tko_out (by omega)) fun i _ _ => tko_out (by omega)
theorem i2n (n : Nat) : (75 : Int32) + 2 * nI n = nI (75 + 2 * n) := by rw [show (75 : Int32) = nI 75 from rfl, show (2 : Int32) = nI 2 from rfl, pk_mul, nI_add]
theorem i2n1 (n : Nat) : (75 : Int32) + 2 * nI n + 1 = nI (75 + 2 * n + 1) := by rw [i2n, nI_1]
theorem i131 (n : Nat) : (131 : Int32) + nI n = nI (131 + n) := by rw [show (131 : Int32) = nI 131 from rfl, nI_add]
theorem i22 (n : Nat) : (22 : Int32) + nI n = nI (22 + n) := by rw [show (22 : Int32) = nI 22 from rfl, nI_add]
theorem len_p {α : Type} {d r : List α} {x : α} : nI (d ++ x :: r).length - 1 = nI (d ++ r).length := by
  rw [show (d ++ x :: r).length = (d ++ r).length + 1 by simp; omega]
  exact nI_pred _
theorem inX5_X5_sees : ∀ w ∈ wsX50, w ∈ wsX5_sees := by decide +kernel
abbrev rmX5_sees : Room := { frames := 1, cells := 0, slots := 0, locals := 23 }
set_option maxHeartbeats 4000000 in
set_option maxRecDepth 100000 in
theorem c_X5_sees (g : GE) (lau : Launch) {N : Nat} {ad : Nat → Nat} {f : Nat → va_E} {o : Nat} {a kp hs : Nat → Int32} {hl : Int32} {so sv pd : Nat → Int32} {pn sp od wb nb : Int32} (hN : o + 7 ≤ N) {h : Nat → Int32} {bs : List (Nat → Int32)} {rs : List (Int32 × Int32)} {ps : List Int32} (hh : rH a h) (hb : rB a bs) (hr : rR a rs) (hp : rP a ps) (hn : rs.length + (bs.filter unseen).length ≤ 28) : Ct g lau yX5_sees wsX5_sees rmX5_sees N ad [.ref (ad o)] (zM g ad f o a kp hs hl so sv pd pn sp od wb nb) (pV N ad (fun u => ∃ a2, u = (zM g ad f o a2 kp hs hl so sv pd pn sp od wb nb) ∧ RepR a2 (mSee (h, bs, rs, ps)))) 0 0 := by
  refine Ct.of (maxL := 2) rfl (by decide +kernel) [some (.ref (ad o)), none] (Nat.le_of_ble_eq_true rfl) (by simp [lvo, lv_args, Value.category]) (fun E hnl _ hC hR => ?_)
  obtain ⟨rs0, hrs0⟩ : ∃ z, z = rs := ⟨_, rfl⟩
  have loop : ∀ (r d : List (Nat → Int32)) (a : Nat → Int32) (rs : List (Int32 × Int32)), d ++ r.map xSee = bs.map xSee → rs ++ (r.filter unseen).map (mkRep h) = rs0 ++ (bs.filter unseen).map (mkRep h) → rs.length + (r.filter unseen).length ≤ 28 → rH a h → rB a (d ++ r) → rR a rs → rP a ps → V E g N ad 0 0 (zM g ad f o a kp hs hl so sv pd pn sp od wb nb) 2 [some (.ref (ad o)), some (.int (nI d.length))] [] := by
    intro r
    induction r with
    | nil =>
      intro d a rs ht hq hn hh hb hr hp
      refine V_iload_n hC dX5_sees_2 rfl rfl ?_
      refine V_aload_n hC dX5_sees_3 rfl rfl ?_
      refine V_zM_all hC hN dX5_sees_4 inX5_X5_sees (by decide +kernel) ?_
      refine V_bipush hC 9 dX5_sees_7 (by decide) ?_
      refine V_zM_ld1 hC hN (k := 9) dX5_sees_9 (ix_c (by decide)) ?_
      refine V_icmp_ge_t hC 116 dX5_sees_10 (by decide) (lp_end hb.1 (Nat.le_trans hb.2.1 (by decide))) ?_
      refine V_vret hC hR dX5_sees_116 ⟨rfl, rfl, rfl, ?_⟩
      rw [List.append_nil] at hb
      rw [List.map_nil, List.append_nil] at ht
      simp only [List.filter_nil, List.map_nil, List.append_nil] at hq
      subst ht
      rw [hrs0] at hq
      exact ⟨_, rfl, hh, hb, (show rs = (mSee (h, bs, _, ps)).2.2.1 from hq) ▸ hr, hp⟩
    | cons x r ih =>
      intro d a rs ht hq hn hh hb hr hp
      have e2 := hb.get (w := 2) (by decide)
      have ef := hb.get (w := 0) (by decide)
      have hlt := hb.lt
      refine V_iload_n hC dX5_sees_2 rfl rfl ?_
      refine V_aload_n hC dX5_sees_3 rfl rfl ?_
      refine V_zM_all hC hN dX5_sees_4 inX5_X5_sees (by decide +kernel) ?_
      refine V_bipush hC 9 dX5_sees_7 (by decide) ?_
      refine V_zM_ld1 hC hN (k := 9) dX5_sees_9 (ix_c (by decide)) ?_
      refine V_icmp_ge_f (tgt := 116) hC dX5_sees_10 (by decide) (lp_go hb.1 (Nat.le_trans hb.2.1 (by decide))) ?_
      refine V_aload_n hC dX5_sees_13 rfl rfl ?_
      refine V_iload_n hC dX5_sees_14 rfl rfl ?_
      refine V_iconst hC 2 dX5_sees_15 (by decide) ?_
      refine V_cvI (n := 2) hC (c_X5_get g (eL E) hN (b := d.length) (w := 2) hlt (by decide)) dX5_sees_16 gX5_sees_X5_get rfl rfl rfl ⟨rfl, rfl⟩ (by decide +kernel) (by decide +kernel) (by omega) zM_0 rfl (Nat.le_of_ble_eq_true rfl) (by decide) (fun x16 u16 h16 => ?_)
      obtain ⟨rfl, rfl⟩ := h16
      refine V_if_ne hC 110 dX5_sees_19 (by decide) (fun c19 => ?_) (fun c19 => ?_)
      · have hu : unseen x = false := by rw [e2] at c19; simp [unseen, c19]
        refine V_iinc1 hC (nI (d ++ [x]).length) dX5_sees_110 len_s (by rw [hnl]; decide) rfl ?_
        refine V_goto hC 2 dX5_sees_113 (by decide) ?_
        simp only [List.map_cons, List.filter_cons, hu, xSee_no hu, Bool.false_eq_true, if_false] at ht hq hn
        exact ih (d ++ [x]) a rs (by rw [List.append_assoc]; exact ht) hq hn hh (by rw [List.append_assoc]; exact hb) hr hp
      · refine V_aload_n hC dX5_sees_22 rfl rfl ?_
        refine V_iload_n hC dX5_sees_23 rfl rfl ?_
        refine V_iconst hC 0 dX5_sees_24 (by decide) ?_
        refine V_cvI (n := 2) hC (c_X5_get g (eL E) hN (b := d.length) (w := 0) hlt (by decide)) dX5_sees_25 gX5_sees_X5_get rfl rfl rfl ⟨rfl, rfl⟩ (by decide +kernel) (by decide +kernel) (by omega) zM_0 rfl (Nat.le_of_ble_eq_true rfl) (by decide) (fun x25 u25 h25 => ?_)
        obtain ⟨rfl, rfl⟩ := h25
        refine V_bipush hC 20 dX5_sees_28 (by decide) ?_
        refine V_icmp_lt hC 110 dX5_sees_30 (by decide) (fun c30 => ?_) (fun c30 => ?_)
        · have hu : unseen x = false := by rw [ef] at c30; simp [unseen]; intro _; exact c30
          refine V_iinc1 hC (nI (d ++ [x]).length) dX5_sees_110 len_s (by rw [hnl]; decide) rfl ?_
          refine V_goto hC 2 dX5_sees_113 (by decide) ?_
          simp only [List.map_cons, List.filter_cons, hu, xSee_no hu, Bool.false_eq_true, if_false] at ht hq hn
          exact ih (d ++ [x]) a rs (by rw [List.append_assoc]; exact ht) hq hn hh (by rw [List.append_assoc]; exact hb) hr hp
        · have hu : unseen x = true := by rw [ef] at c30; rw [e2] at c19; simp [unseen, c19]; exact Int32.not_lt.mp c30
          have hl28 : rs.length < 28 := by simp only [List.filter_cons, hu, if_true, List.length_cons] at hn; omega
          have hn2 : rs.length + 1 + (r.filter unseen).length ≤ 28 := by simp only [List.filter_cons, hu, if_true, List.length_cons] at hn; omega
          refine V_aload_n hC dX5_sees_33 rfl rfl ?_
          refine V_iload_n hC dX5_sees_34 rfl rfl ?_
          refine V_iconst hC 2 dX5_sees_35 (by decide) ?_
          refine V_iconst hC 1 dX5_sees_36 (by decide) ?_
          refine V_cvV (n := 3) hC (c_X5_put g (eL E) hN (b := d.length) (w := 2) (z := 1) hlt (by decide)) dX5_sees_37 gX5_sees_X5_put rfl rfl rfl ⟨rfl, rfl⟩ (by decide +kernel) (by decide +kernel) (by omega) zM_0 rfl (Nat.le_of_ble_eq_true rfl) (by decide) (fun u37 h37 => ?_)
          obtain rfl := h37
          refine V_aload_n hC dX5_sees_40 rfl rfl ?_
          refine V_zM_all hC hN dX5_sees_41 inX5_X5_sees (by decide +kernel) ?_
          refine V_bipush hC 75 dX5_sees_44 (by decide) ?_
          refine V_iconst hC 2 dX5_sees_46 (by decide) ?_
          refine V_aload_n hC dX5_sees_47 rfl rfl ?_
          refine V_zM_all hC hN dX5_sees_48 inX5_X5_sees (by decide +kernel) ?_
          refine V_bipush hC 19 dX5_sees_51 (by decide) ?_
          refine V_zM_ld1 hC hN (k := 19) dX5_sees_53 (ix_c (by decide)) ?_
          refine V_imul hC dX5_sees_54 ?_
          refine V_iadd hC dX5_sees_55 ?_
          refine V_aload_n hC dX5_sees_56 rfl rfl ?_
          refine V_zM_all hC hN dX5_sees_57 inX5_X5_sees (by decide +kernel) ?_
          refine V_bipush hC 8 dX5_sees_60 (by decide) ?_
          refine V_zM_ld1 hC hN (k := 8) dX5_sees_62 (ix_c (by decide)) ?_
          refine V_aload_n hC dX5_sees_63 rfl rfl ?_
          refine V_zM_all hC hN dX5_sees_64 inX5_X5_sees (by decide +kernel) ?_
          refine V_iconst hC 1 dX5_sees_67 (by decide) ?_
          refine V_zM_ld1 hC hN (k := 1) dX5_sees_68 (ix_c (by decide)) ?_
          refine V_iadd hC dX5_sees_69 ?_
          refine V_zM_st1 hC hN dX5_sees_70 (ix_of (j := 75 + 2 * rs.length) (by rw [pk_un (by omega), hr.1]; exact i2n _) (by omega) (by decide)) ?_
          refine V_aload_n hC dX5_sees_71 rfl rfl ?_
          refine V_zM_all hC hN dX5_sees_72 inX5_X5_sees (by decide +kernel) ?_
          refine V_bipush hC 75 dX5_sees_75 (by decide) ?_
          refine V_iconst hC 2 dX5_sees_77 (by decide) ?_
          refine V_aload_n hC dX5_sees_78 rfl rfl ?_
          refine V_zM_all hC hN dX5_sees_79 inX5_X5_sees (by decide +kernel) ?_
          refine V_bipush hC 19 dX5_sees_82 (by decide) ?_
          refine V_zM_ld1 hC hN (k := 19) dX5_sees_84 (ix_c (by decide)) ?_
          refine V_imul hC dX5_sees_85 ?_
          refine V_iadd hC dX5_sees_86 ?_
          refine V_iconst hC 1 dX5_sees_87 (by decide) ?_
          refine V_iadd hC dX5_sees_88 ?_
          refine V_aload_n hC dX5_sees_89 rfl rfl ?_
          refine V_iload_n hC dX5_sees_90 rfl rfl ?_
          refine V_iconst hC 0 dX5_sees_91 (by decide) ?_
          refine V_cvI (n := 2) hC (c_X5_get g (eL E) hN (b := d.length) (w := 0) hlt (by decide)) dX5_sees_92 gX5_sees_X5_get rfl rfl rfl ⟨rfl, rfl⟩ (by decide +kernel) (by decide +kernel) (by omega) zM_0 rfl (Nat.le_of_ble_eq_true rfl) (by decide) (fun x92 u92 h92 => ?_)
          obtain ⟨rfl, rfl⟩ := h92
          refine V_bipush hC 20 dX5_sees_95 (by decide) ?_
          refine V_isub hC dX5_sees_97 ?_
          refine V_zM_st1 hC hN dX5_sees_98 (ix_of (j := 75 + 2 * rs.length + 1) (by rw [pk_un (by omega), pk_un (by omega), hr.1]; exact i2n1 _) (by omega) (by decide)) ?_
          refine V_aload_n hC dX5_sees_99 rfl rfl ?_
          refine V_zM_all hC hN dX5_sees_100 inX5_X5_sees (by decide +kernel) ?_
          refine V_bipush hC 19 dX5_sees_103 (by decide) ?_
          refine V_dup2 hC dX5_sees_105 rfl rfl ?_
          refine V_zM_ld1 hC hN (k := 19) dX5_sees_106 (ix_c (by decide)) ?_
          refine V_iconst hC 1 dX5_sees_107 (by decide) ?_
          refine V_iadd hC dX5_sees_108 ?_
          refine V_zM_st1 (k := 19) hC hN dX5_sees_109 (ix_c (by decide)) ?_
          refine V_iinc1 hC (nI (d ++ [upd x 2 1]).length) dX5_sees_110 len_s (by rw [hnl]; decide) rfl ?_
          refine V_goto hC 2 dX5_sees_113 (by decide) ?_
          simp only [List.map_cons, List.filter_cons, hu, xSee_yes hu, if_true] at ht hq
          have er : mkRep h x = (((upd a (27 + 6 * d.length + 2) 1) 8 + (upd a (27 + 6 * d.length + 2) 1) 1), ((upd (upd a (27 + 6 * d.length + 2) 1) (75 + 2 * rs.length) ((upd a (27 + 6 * d.length + 2) 1) 8 + (upd a (27 + 6 * d.length + 2) 1) 1)) (27 + 6 * d.length + 0) - 20)) := by
            rw [pk_un (show 8 ≠ 27 + 6 * d.length + 2 by omega), pk_un (show 1 ≠ 27 + 6 * d.length + 2 by omega), pk_un (show 27 + 6 * d.length + 0 ≠ 75 + 2 * rs.length by omega), pk_un (show 27 + 6 * d.length + 0 ≠ 27 + 6 * d.length + 2 by omega), ef, hh 8 (by decide) (by decide) (by decide) (by decide), hh 1 (by decide) (by decide) (by decide) (by decide)]
            rfl
          refine ih (d ++ [upd x 2 1]) _ (rs ++ [mkRep h x]) (by rw [List.append_assoc]; exact ht) (by rw [List.append_assoc]; exact hq) (by rw [List.length_append]; simp only [List.length_singleton]; omega) ((((hh.off (by omega)).off (by omega)).off (by omega)).off (by omega)) ?_ ?_ ((((hp.off (by omega) (by omega)).off (by omega) (by omega)).off (by omega) (by omega)).off (by decide) (by decide))
          · rw [List.append_assoc]
            exact (((hb.set (by decide)).off (by omega) (by omega)).off (by omega) (by omega)).off (by decide) (by decide)
          · rw [er]
            exact rR.push (hr.off (by omega) (by omega)) hl28 (by rw [pk_un (by omega), pk_un (by omega), pk_un (by omega), hr.1]; exact nI_1 _)
  refine V_iconst hC 0 dX5_sees_0 (by decide) ?_
  refine V_istore_n1 hC dX5_sees_1 rfl (by rw [hnl]; decide) rfl ?_
  exact loop bs [] a rs rfl (by rw [hrs0]) hn hh hb hr hp
theorem inX5_X5_guessedWay : ∀ w ∈ wsX50, w ∈ wsX5_guessedWay := by decide +kernel
abbrev rmX5_guessedWay : Room := { frames := 0, cells := 0, slots := 0, locals := 0 }
set_option maxHeartbeats 4000000 in
set_option maxRecDepth 100000 in
theorem c_X5_guessedWay (g : GE) (lau : Launch) {N : Nat} {ad : Nat → Nat} {f : Nat → va_E} {o : Nat} {a kp hs : Nat → Int32} {hl : Int32} {so sv pd : Nat → Int32} {pn sp od wb nb : Int32} (hN : o + 7 ≤ N) {h : Nat → Int32} (hh : rH a h) {G : Nat} (hG : G ≤ 5) (hg : h 2 = nI G) : Ct g lau yX5_guessedWay wsX5_guessedWay rmX5_guessedWay N ad [.ref (ad o)] (zM g ad f o a kp hs hl so sv pd pn sp od wb nb) (pI N ad (fun x u => x = gw h ∧ u = (zM g ad f o a kp hs hl so sv pd pn sp od wb nb))) 0 0 := by
  refine Ct.of (maxL := 3) rfl (by decide +kernel) [some (.ref (ad o)), none, none] (Nat.le_of_ble_eq_true rfl) (by simp [lvo, lv_args, Value.category]) (fun E hnl _ hC hR => ?_)
  have e2 := hh 2 (by decide) (by decide) (by decide) (by decide)
  have loop : ∀ (n k : Nat), k + n = G → V E g N ad 0 0 (zM g ad f o a kp hs hl so sv pd pn sp od wb nb) 4 [some (.ref (ad o)), some (.int (gwN h k)), some (.int (nI k))] [] := by
    intro n
    induction n with
    | zero =>
      intro k hk
      have hk : k = G := by omega
      subst hk
      refine V_iload_n hC dX5_guessedWay_4 rfl rfl ?_
      refine V_aload_n hC dX5_guessedWay_5 rfl rfl ?_
      refine V_zM_all hC hN dX5_guessedWay_6 inX5_X5_guessedWay (by decide +kernel) ?_
      refine V_iconst hC 2 dX5_guessedWay_9 (by decide) ?_
      refine V_zM_ld1 hC hN (k := 2) dX5_guessedWay_10 (ix_c (by decide)) ?_
      refine V_icmp_ge_t hC 32 dX5_guessedWay_11 (by decide) (by rw [e2, hg]; exact Int32.le_refl _) ?_
      refine V_iload_n hC dX5_guessedWay_32 rfl rfl ?_
      refine V_iret hC hR dX5_guessedWay_33 ⟨rfl, rfl, _, rfl, ?_⟩
      exact ⟨by rw [gw, hg, nI_clamp (by omega)], rfl⟩
    | succ n ih =>
      intro k hk
      have ek := hh (22 + k) (by omega) (by omega) (by omega) (by omega)
      refine V_iload_n hC dX5_guessedWay_4 rfl rfl ?_
      refine V_aload_n hC dX5_guessedWay_5 rfl rfl ?_
      refine V_zM_all hC hN dX5_guessedWay_6 inX5_X5_guessedWay (by decide +kernel) ?_
      refine V_iconst hC 2 dX5_guessedWay_9 (by decide) ?_
      refine V_zM_ld1 hC hN (k := 2) dX5_guessedWay_10 (ix_c (by decide)) ?_
      refine V_icmp_ge_f (tgt := 32) hC dX5_guessedWay_11 (by decide) (by rw [e2, hg]; exact nI_ge (by omega) (by omega)) ?_
      refine V_iload_n hC dX5_guessedWay_14 rfl rfl ?_
      refine V_aload_n hC dX5_guessedWay_15 rfl rfl ?_
      refine V_zM_all hC hN dX5_guessedWay_16 inX5_X5_guessedWay (by decide +kernel) ?_
      refine V_bipush hC 22 dX5_guessedWay_19 (by decide) ?_
      refine V_iload_n hC dX5_guessedWay_21 rfl rfl ?_
      refine V_iadd hC dX5_guessedWay_22 ?_
      refine V_zM_ld1 hC hN dX5_guessedWay_23 (ix_of (j := 22 + k) (i22 k) (by omega) (by decide)) ?_
      refine V_iadd hC dX5_guessedWay_24 ?_
      refine V_eqt (gwN h (k + 1)) (by rw [ek]; rfl) ?_
      refine V_istore_n1 hC dX5_guessedWay_25 rfl (by rw [hnl]; decide) rfl ?_
      refine V_iinc2 hC (nI (k + 1)) dX5_guessedWay_26 (nI_1 k) (by rw [hnl]; decide) rfl ?_
      refine V_goto hC 4 dX5_guessedWay_29 (by decide) ?_
      exact ih (k + 1) (by omega)
  refine V_iconst hC 0 dX5_guessedWay_0 (by decide) ?_
  refine V_istore_n1 hC dX5_guessedWay_1 rfl (by rw [hnl]; decide) rfl ?_
  refine V_iconst hC 0 dX5_guessedWay_2 (by decide) ?_
  refine V_istore_n2 hC dX5_guessedWay_3 rfl (by rw [hnl]; decide) rfl ?_
  exact loop G 0 (by omega)
theorem inX5_X5_plans : ∀ w ∈ wsX50, w ∈ wsX5_plans := by decide +kernel
abbrev rmX5_plans : Room := { frames := 1, cells := 0, slots := 0, locals := 25 }
set_option maxHeartbeats 4000000 in
set_option maxRecDepth 100000 in
theorem c_X5_plans (g : GE) (lau : Launch) {N : Nat} {ad : Nat → Nat} {f : Nat → va_E} {o : Nat} {a kp hs : Nat → Int32} {hl : Int32} {so sv pd : Nat → Int32} {pn sp od wb nb : Int32} (hN : o + 7 ≤ N) {h : Nat → Int32} {bs : List (Nat → Int32)} {rs : List (Int32 × Int32)} {ps0 : List Int32} (hh : rH a h) (hb : rB a bs) (hr : rR a rs) (hp : rP a ps0) {G : Nat} (hG : G ≤ 5) (hg : h 2 = nI G) (hlen : rs.length + ps0.length ≤ 28) : Ct g lau yX5_plans wsX5_plans rmX5_plans N ad [.ref (ad o)] (zM g ad f o a kp hs hl so sv pd pn sp od wb nb) (pV N ad (fun u => ∃ a2, u = (zM g ad f o a2 kp hs hl so sv pd pn sp od wb nb) ∧ RepR a2 (mTake (mCount (h, bs, rs, ps0))))) 0 0 := by
  refine Ct.of (maxL := 2) rfl (by decide +kernel) [some (.ref (ad o)), none] (Nat.le_of_ble_eq_true rfl) (by simp [lvo, lv_args, Value.category]) (fun E hnl _ hC hR => ?_)
  obtain ⟨tg, htg⟩ : ∃ z, z = (mTake (mCount (h, bs, rs, ps0))).2.2.2 := ⟨_, rfl⟩
  have e0 := hh 0 (by decide) (by decide) (by decide) (by decide)
  have loop2 : ∀ (r d : List (Int32 × Int32)) (a : Nat → Int32) (ps : List Int32), d ++ r.filter (fun q => !isDue h q) = rs.filter (fun q => !isDue h q) → ps ++ (r.filter (isDue h)).map (mkPlan h) = tg → r.length + ps.length ≤ 28 → rH a h → rB a bs → rR a (d ++ r) → rP a ps → V E g N ad 0 0 (zM g ad f o a kp hs hl so sv pd pn sp od wb nb) 40 [some (.ref (ad o)), some (.int (nI d.length))] [] := by
    intro r
    induction r with
    | nil =>
      intro d a ps ht hq hn hh hb hr hp
      refine V_iload_n hC dX5_plans_40 rfl rfl ?_
      refine V_aload_n hC dX5_plans_41 rfl rfl ?_
      refine V_zM_all hC hN dX5_plans_42 inX5_X5_plans (by decide +kernel) ?_
      refine V_bipush hC 19 dX5_plans_45 (by decide) ?_
      refine V_zM_ld1 hC hN (k := 19) dX5_plans_47 (ix_c (by decide)) ?_
      refine V_icmp_ge_t hC 162 dX5_plans_48 (by decide) (lp_end hr.1 (Nat.le_trans hr.2.1 (by decide))) ?_
      refine V_vret hC hR dX5_plans_162 ⟨rfl, rfl, rfl, ?_⟩
      rw [List.append_nil] at hr
      simp only [List.filter_nil, List.map_nil, List.append_nil] at ht hq
      exact ⟨_, rfl, hh, hb, (show d = (mTake (mCount (h, bs, rs, ps0))).2.2.1 from ht) ▸ hr, (show ps = (mTake (mCount (h, bs, rs, ps0))).2.2.2 from hq.trans htg) ▸ hp⟩
    | cons x r ih =>
      intro d a ps ht hq hn hh hb hr hp
      have hlt := hr.lt
      have ex := hr.get
      have e8 := hh 8 (by decide) (by decide) (by decide) (by decide)
      have e3 := hh 3 (by decide) (by decide) (by decide) (by decide)
      simp only [List.length_cons] at hn
      refine V_iload_n hC dX5_plans_40 rfl rfl ?_
      refine V_aload_n hC dX5_plans_41 rfl rfl ?_
      refine V_zM_all hC hN dX5_plans_42 inX5_X5_plans (by decide +kernel) ?_
      refine V_bipush hC 19 dX5_plans_45 (by decide) ?_
      refine V_zM_ld1 hC hN (k := 19) dX5_plans_47 (ix_c (by decide)) ?_
      refine V_icmp_ge_f (tgt := 162) hC dX5_plans_48 (by decide) (lp_go hr.1 (Nat.le_trans hr.2.1 (by decide))) ?_
      refine V_aload_n hC dX5_plans_51 rfl rfl ?_
      refine V_zM_all hC hN dX5_plans_52 inX5_X5_plans (by decide +kernel) ?_
      refine V_bipush hC 75 dX5_plans_55 (by decide) ?_
      refine V_iconst hC 2 dX5_plans_57 (by decide) ?_
      refine V_iload_n hC dX5_plans_58 rfl rfl ?_
      refine V_imul hC dX5_plans_59 ?_
      refine V_iadd hC dX5_plans_60 ?_
      refine V_zM_ld1 hC hN dX5_plans_61 (ix_of (j := 75 + 2 * d.length) (i2n _) (by omega) (by decide)) ?_
      refine V_aload_n hC dX5_plans_62 rfl rfl ?_
      refine V_zM_all hC hN dX5_plans_63 inX5_X5_plans (by decide +kernel) ?_
      refine V_bipush hC 8 dX5_plans_66 (by decide) ?_
      refine V_zM_ld1 hC hN (k := 8) dX5_plans_68 (ix_c (by decide)) ?_
      refine V_icmp_gt hC 156 dX5_plans_69 (by decide) (fun c69 => ?_) (fun c69 => ?_)
      · have hu : isDue h x = false := by rw [ex.1, e8] at c69; simp [isDue]; exact c69
        refine V_iinc1 hC (nI (d ++ [x]).length) dX5_plans_156 len_s (by rw [hnl]; decide) rfl ?_
        refine V_goto hC 40 dX5_plans_159 (by decide) ?_
        simp only [List.filter_cons, hu, Bool.not_false, if_true, Bool.false_eq_true, if_false] at ht hq
        exact ih (d ++ [x]) a ps (by rw [List.append_assoc]; exact ht) hq (by omega) hh hb (by rw [List.append_assoc]; exact hr) hp
      · have hu : isDue h x = true := by rw [ex.1, e8] at c69; simp [isDue]; exact Int32.not_lt.mp c69
        refine V_aload_n hC dX5_plans_72 rfl rfl ?_
        refine V_zM_all hC hN dX5_plans_73 inX5_X5_plans (by decide +kernel) ?_
        refine V_sipush hC 131 dX5_plans_76 (by decide) ?_
        refine V_aload_n hC dX5_plans_79 rfl rfl ?_
        refine V_zM_all hC hN dX5_plans_80 inX5_X5_plans (by decide +kernel) ?_
        refine V_bipush hC 20 dX5_plans_83 (by decide) ?_
        refine V_zM_ld1 hC hN (k := 20) dX5_plans_85 (ix_c (by decide)) ?_
        refine V_iadd hC dX5_plans_86 ?_
        refine V_bipush hC 40 dX5_plans_87 (by decide) ?_
        refine V_aload_n hC dX5_plans_89 rfl rfl ?_
        refine V_zM_all hC hN dX5_plans_90 inX5_X5_plans (by decide +kernel) ?_
        refine V_iconst hC 3 dX5_plans_93 (by decide) ?_
        refine V_zM_ld1 hC hN (k := 3) dX5_plans_94 (ix_c (by decide)) ?_
        refine V_iadd hC dX5_plans_95 ?_
        refine V_aload_n hC dX5_plans_96 rfl rfl ?_
        refine V_zM_all hC hN dX5_plans_97 inX5_X5_plans (by decide +kernel) ?_
        refine V_bipush hC 75 dX5_plans_100 (by decide) ?_
        refine V_iconst hC 2 dX5_plans_102 (by decide) ?_
        refine V_iload_n hC dX5_plans_103 rfl rfl ?_
        refine V_imul hC dX5_plans_104 ?_
        refine V_iadd hC dX5_plans_105 ?_
        refine V_iconst hC 1 dX5_plans_106 (by decide) ?_
        refine V_iadd hC dX5_plans_107 ?_
        refine V_zM_ld1 hC hN dX5_plans_108 (ix_of (j := 75 + 2 * d.length + 1) (i2n1 _) (by omega) (by decide)) ?_
        refine V_isub hC dX5_plans_109 ?_
        refine V_aload_n hC dX5_plans_110 rfl rfl ?_
        refine V_cvI (n := 0) hC (c_X5_guessedWay g (eL E) hN hh hG hg) dX5_plans_111 gX5_plans_X5_guessedWay rfl rfl rfl ⟨rfl, rfl⟩ (by decide +kernel) (by decide +kernel) (by omega) zM_0 rfl (Nat.le_of_ble_eq_true rfl) (by decide) (fun x111 u111 h111 => ?_)
        obtain ⟨rfl, rfl⟩ := h111
        refine V_isub hC dX5_plans_114 ?_
        refine V_zM_st1 hC hN dX5_plans_115 (ix_of (j := 131 + ps.length) (by rw [hp.1]; exact i131 _) (by omega) (by decide)) ?_
        refine V_aload_n hC dX5_plans_116 rfl rfl ?_
        refine V_zM_all hC hN dX5_plans_117 inX5_X5_plans (by decide +kernel) ?_
        refine V_bipush hC 20 dX5_plans_120 (by decide) ?_
        refine V_dup2 hC dX5_plans_122 rfl rfl ?_
        refine V_zM_ld1 hC hN (k := 20) dX5_plans_123 (ix_c (by decide)) ?_
        refine V_iconst hC 1 dX5_plans_124 (by decide) ?_
        refine V_iadd hC dX5_plans_125 ?_
        refine V_zM_st1 (k := 20) hC hN dX5_plans_126 (ix_c (by decide)) ?_
        refine V_aload_n hC dX5_plans_127 rfl rfl ?_
        refine V_bipush hC 75 dX5_plans_128 (by decide) ?_
        refine V_iconst hC 2 dX5_plans_130 (by decide) ?_
        refine V_aload_n hC dX5_plans_131 rfl rfl ?_
        refine V_zM_all hC hN dX5_plans_132 inX5_X5_plans (by decide +kernel) ?_
        refine V_bipush hC 19 dX5_plans_135 (by decide) ?_
        refine V_zM_ld1 hC hN (k := 19) dX5_plans_137 (ix_c (by decide)) ?_
        refine V_eqt (nI (d ++ x :: r).length) (by rw [pk_un (by omega), pk_un (by omega), hr.1]) ?_
        refine V_iload_n hC dX5_plans_138 rfl rfl ?_
        refine V_cvV (n := 4) hC (c_X5_takesOut g (eL E) hN (fr := 75) (ea := 2) (mn := (d ++ x :: r).length) (pl := d.length) (by decide) (by simp only [List.length_append, List.length_cons]; omega) (by simp only [List.length_append, List.length_cons]; omega) (by have := hr.2.1; omega)) dX5_plans_139 gX5_plans_X5_takesOut rfl rfl rfl ⟨rfl, rfl⟩ (by decide +kernel) (by decide +kernel) (by omega) zM_0 rfl (Nat.le_of_ble_eq_true rfl) (by decide) (fun u139 h139 => ?_)
        obtain rfl := h139
        refine V_aload_n hC dX5_plans_142 rfl rfl ?_
        refine V_zM_all hC hN dX5_plans_143 inX5_X5_plans (by decide +kernel) ?_
        refine V_bipush hC 19 dX5_plans_146 (by decide) ?_
        refine V_dup2 hC dX5_plans_148 rfl rfl ?_
        refine V_zM_ld1 hC hN (k := 19) dX5_plans_149 (ix_c (by decide)) ?_
        refine V_iconst hC 1 dX5_plans_150 (by decide) ?_
        refine V_isub hC dX5_plans_151 ?_
        refine V_zM_st1 (k := 19) hC hN dX5_plans_152 (ix_c (by decide)) ?_
        refine V_goto hC 40 dX5_plans_153 (by decide) ?_
        simp only [List.filter_cons, hu, Bool.not_true, if_true, Bool.false_eq_true, if_false, List.map_cons] at ht hq
        have ev : 40 + a 3 - a (75 + 2 * d.length + 1) - gw h = mkPlan h x := by rw [e3, ex.2]; rfl
        refine ih d _ (ps ++ [mkPlan h x]) ht (by rw [List.append_assoc]; exact hq) (by rw [List.length_append]; simp only [List.length_singleton]; omega) ((((hh.off (by omega)).off (by omega)).tko (by omega)).off (by omega)) ((((hb.off (by omega) (by omega)).off (by omega) (by omega)).tko (by omega)).off (by omega) (by omega)) ?_ ?_
        · exact ((hr.off (by omega) (by omega)).off (by omega) (by omega)).cut (by rw [tko_out (by omega), pk_un (by omega), pk_un (by omega), hr.1]; exact len_p)
        · rw [ev]
          exact ((hp.push (by omega) (by rw [pk_un (by omega), hp.1]; exact nI_1 _)).tko ⟨by omega, by have := hr.2.1; simp only [List.length_append, List.length_cons] at this ⊢; omega⟩).off (by omega) (by omega)
  have loop1 : ∀ (r d : List Int32) (a : Nat → Int32), d ++ r.map (fun p => p - h 0) = ps0.map (fun p => p - h 0) → rH a h → rB a bs → rR a rs → rP a (d ++ r) → V E g N ad 0 0 (zM g ad f o a kp hs hl so sv pd pn sp od wb nb) 2 [some (.ref (ad o)), some (.int (nI d.length))] [] := by
    intro r
    induction r with
    | nil =>
      intro d a ht hh hb hr hp
      refine V_iload_n hC dX5_plans_2 rfl rfl ?_
      refine V_aload_n hC dX5_plans_3 rfl rfl ?_
      refine V_zM_all hC hN dX5_plans_4 inX5_X5_plans (by decide +kernel) ?_
      refine V_bipush hC 20 dX5_plans_7 (by decide) ?_
      refine V_zM_ld1 hC hN (k := 20) dX5_plans_9 (ix_c (by decide)) ?_
      refine V_icmp_ge_t hC 38 dX5_plans_10 (by decide) (lp_end hp.1 (Nat.le_trans hp.2.1 (by decide))) ?_
      refine V_iconst hC 0 dX5_plans_38 (by decide) ?_
      refine V_istore_n1 hC dX5_plans_39 rfl (by rw [hnl]; decide) rfl ?_
      rw [List.append_nil] at hp
      rw [List.map_nil, List.append_nil] at ht
      exact loop2 rs [] a d rfl (by rw [ht]; exact htg.symm) (by rw [ht, List.length_map]; exact hlen) hh hb hr hp
    | cons x r ih =>
      intro d a ht hh hb hr hp
      have hlt := hp.lt
      have ex := hp.get
      have e0 := hh 0 (by decide) (by decide) (by decide) (by decide)
      refine V_iload_n hC dX5_plans_2 rfl rfl ?_
      refine V_aload_n hC dX5_plans_3 rfl rfl ?_
      refine V_zM_all hC hN dX5_plans_4 inX5_X5_plans (by decide +kernel) ?_
      refine V_bipush hC 20 dX5_plans_7 (by decide) ?_
      refine V_zM_ld1 hC hN (k := 20) dX5_plans_9 (ix_c (by decide)) ?_
      refine V_icmp_ge_f (tgt := 38) hC dX5_plans_10 (by decide) (lp_go hp.1 (Nat.le_trans hp.2.1 (by decide))) ?_
      refine V_aload_n hC dX5_plans_13 rfl rfl ?_
      refine V_zM_all hC hN dX5_plans_14 inX5_X5_plans (by decide +kernel) ?_
      refine V_sipush hC 131 dX5_plans_17 (by decide) ?_
      refine V_iload_n hC dX5_plans_20 rfl rfl ?_
      refine V_iadd hC dX5_plans_21 ?_
      refine V_dup2 hC dX5_plans_22 rfl rfl ?_
      refine V_zM_ld1 hC hN dX5_plans_23 (ix_of (j := 131 + d.length) (i131 _) (by omega) (by decide)) ?_
      refine V_aload_n hC dX5_plans_24 rfl rfl ?_
      refine V_zM_all hC hN dX5_plans_25 inX5_X5_plans (by decide +kernel) ?_
      refine V_iconst hC 0 dX5_plans_28 (by decide) ?_
      refine V_zM_ld1 hC hN (k := 0) dX5_plans_29 (ix_c (by decide)) ?_
      refine V_isub hC dX5_plans_30 ?_
      refine V_zM_st1 hC hN dX5_plans_31 (ix_of (j := 131 + d.length) (i131 _) (by omega) (by decide)) ?_
      refine V_iinc1 hC (nI (d ++ [x - h 0]).length) dX5_plans_32 len_s (by rw [hnl]; decide) rfl ?_
      refine V_goto hC 2 dX5_plans_35 (by decide) ?_
      refine ih (d ++ [x - h 0]) _ (by rw [List.append_assoc]; exact ht) (hh.off (by omega)) (hb.off (by omega) (by omega)) (hr.off (by omega) (by omega)) ?_
      rw [List.append_assoc, ex, e0]
      exact hp.set
  refine V_iconst hC 0 dX5_plans_0 (by decide) ?_
  refine V_istore_n1 hC dX5_plans_1 rfl (by rw [hnl]; decide) rfl ?_
  exact loop1 ps0 [] a rfl hh hb hr hp
