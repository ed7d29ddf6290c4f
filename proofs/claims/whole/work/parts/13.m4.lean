theorem bMark_cut {d r : List (Nat → Int32)} {y : Nat → Int32} (h : ∀ z ∈ d, isUnder z = false) (hy : isUnder y = true) : bMark (d ++ y :: r) = d ++ xMark y :: r := by
  induction d with
  | nil => simp [bMark, hy]
  | cons z d ih =>
    have hz := h z List.mem_cons_self
    simp only [List.cons_append, bMark, hz, Bool.false_eq_true, if_false]
    rw [ih fun w hw => h w (List.mem_cons_of_mem _ hw)]
theorem find_cut {d r : List (Nat → Int32)} {y : Nat → Int32} (h : ∀ z ∈ d, isUnder z = false) (hy : isUnder y = true) : (d ++ y :: r).find? isUnder = some y := by
  induction d with
  | nil => simp [hy]
  | cons z d ih =>
    have hz := h z List.mem_cons_self
    simp only [List.cons_append, List.find?_cons, hz]
    exact ih fun w hw => h w (List.mem_cons_of_mem _ hw)
theorem find_non {d : List (Nat → Int32)} (h : ∀ z ∈ d, isUnder z = false) : d.find? isUnder = none := by
  rw [List.find?_eq_none]
  intro x hx
  rw [h x hx]
  decide
theorem under_mark (x : Nat → Int32) : isUnder (xMark x) = isUnder x := by
  unfold xMark isUnder
  split <;> simp [upd]
theorem bMark_under (bs : List (Nat → Int32)) : (bMark bs).map isUnder = bs.map isUnder := by
  induction bs with
  | nil => rfl
  | cons x t ih =>
    unfold bMark
    split
    · simp [under_mark]
    · simp [ih]
theorem mMark_under (h : Nat → Int32) (bs : List (Nat → Int32)) : (mMark (h, bs)).2.map isUnder = bs.map isUnder := by
  unfold mMark
  split
  · rfl
  · split
    · rfl
    · exact bMark_under bs
theorem oneU.cut {d r : List (Nat → Int32)} {y : Nat → Int32} (h : oneU (d ++ y :: r)) (hy : isUnder y = true) : ∀ z ∈ r, isUnder z = false := by
  intro z hz
  unfold oneU at h
  rw [List.map_append, List.map_cons, List.pairwise_append] at h
  exact (List.pairwise_cons.mp h.2.1).1 _ (List.mem_map_of_mem hz) hy
theorem nI_nm6 {n : Nat} (h : n < 2 ^ 31) : ¬ nI n = -6 := by
  intro e
  have := congrArg Int32.toInt e
  rw [nI_toInt h] at this
  have e6 : (-6 : Int32).toInt = -6 := by decide
  rw [e6] at this
  omega
/-- the box under the marker, by its place -/
def isUnd (bs : List (Nat → Int32)) (x : Int32) : Prop := (x = -6 ∧ ∀ z ∈ bs, isUnder z = false) ∨ ∃ (d r : List (Nat → Int32)) (y : Nat → Int32), bs = d ++ y :: r ∧ isUnder y = true ∧ (∀ z ∈ d, isUnder z = false) ∧ (∀ z ∈ r, isUnder z = false) ∧ x = nI d.length
theorem inX5_X5_under : ∀ w ∈ wsX50, w ∈ wsX5_under := by decide +kernel
abbrev rmX5_under : Room := { frames := 2, cells := 0, slots := 0, locals := 43 }
set_option maxHeartbeats 4000000 in
set_option maxRecDepth 100000 in
theorem c_X5_under (g : GE) (lau : Launch) {N : Nat} {ad : Nat → Nat} {f : Nat → va_E} {o : Nat} {a kp hs : Nat → Int32} {hl : Int32} {so sv pd : Nat → Int32} {pn sp od wb nb : Int32} (hN : o + 7 ≤ N) {bs : List (Nat → Int32)} (hb : rB a bs) (hU : oneU bs) : Ct g lau yX5_under wsX5_under rmX5_under N ad [.ref (ad o)] (zM g ad f o a kp hs hl so sv pd pn sp od wb nb) (pI N ad (fun x u => isUnd bs x ∧ u = (zM g ad f o a kp hs hl so sv pd pn sp od wb nb))) 0 0 := by
  refine Ct.of (maxL := 3) rfl (by decide +kernel) [some (.ref (ad o)), none, none] (Nat.le_of_ble_eq_true rfl) (by simp [lvo, lv_args, Value.category]) (fun E hnl _ hC hR => ?_)
  have loop : ∀ (r d : List (Nat → Int32)) (fd : Int32), d ++ r = bs → isUnd d fd → V E g N ad 0 0 (zM g ad f o a kp hs hl so sv pd pn sp od wb nb) 5 [some (.ref (ad o)), some (.int (fd)), some (.int (nI d.length))] [] := by
    intro r
    induction r with
    | nil =>
      intro d fd ht hf
      rw [List.append_nil] at ht
      subst ht
      refine V_iload_n hC dX5_under_5 rfl rfl ?_
      refine V_aload_n hC dX5_under_6 rfl rfl ?_
      refine V_zM_all hC hN dX5_under_7 inX5_X5_under (by decide +kernel) ?_
      refine V_bipush hC 9 dX5_under_10 (by decide) ?_
      refine V_zM_ld1 hC hN (k := 9) dX5_under_12 (ix_c (by decide)) ?_
      refine V_icmp_ge_t hC 49 dX5_under_13 (by decide) (by rw [hb.1]; exact Int32.le_refl _) ?_
      refine V_iload_n hC dX5_under_49 rfl rfl ?_
      refine V_iret hC hR dX5_under_50 ⟨rfl, rfl, _, rfl, ?_⟩
      exact ⟨hf, rfl⟩
    | cons x r ih =>
      intro d fd ht hf
      subst ht
      have hlt := hb.lt
      have ef := hb.get (w := 0) (by decide)
      have el := hb.get (w := 1) (by decide)
      refine V_iload_n hC dX5_under_5 rfl rfl ?_
      refine V_aload_n hC dX5_under_6 rfl rfl ?_
      refine V_zM_all hC hN dX5_under_7 inX5_X5_under (by decide +kernel) ?_
      refine V_bipush hC 9 dX5_under_10 (by decide) ?_
      refine V_zM_ld1 hC hN (k := 9) dX5_under_12 (ix_c (by decide)) ?_
      refine V_icmp_ge_f (tgt := 49) hC dX5_under_13 (by decide) (lp_go hb.1 (Nat.le_trans hb.2.1 (by decide))) ?_
      refine V_aload_n hC dX5_under_16 rfl rfl ?_
      refine V_iload_n hC dX5_under_17 rfl rfl ?_
      refine V_iconst hC 0 dX5_under_18 (by decide) ?_
      refine V_cvI (n := 2) hC (c_X5_get g (eL E) hN (b := d.length) (w := 0) hlt (by decide)) dX5_under_19 gX5_under_X5_get rfl rfl rfl ⟨rfl, rfl⟩ (by decide +kernel) (by decide +kernel) (by omega) zM_0 rfl (Nat.le_of_ble_eq_true rfl) (by decide) (fun x19 u19 h19 => ?_)
      obtain ⟨rfl, rfl⟩ := h19
      refine V_bipush hC 60 dX5_under_22 (by decide) ?_
      refine V_icmp_lt hC 41 dX5_under_24 (by decide) (fun c24 => ?_) (fun c24 => ?_)
      · have hu : isUnder x = false := by rw [ef] at c24; simp [isUnder]; intro q; exact absurd c24 (Int32.not_lt.mpr q)
        refine V_iload_n hC dX5_under_41 rfl rfl ?_
        refine V_istore_n1 hC dX5_under_42 rfl (by rw [hnl]; decide) rfl ?_
        refine V_iinc2 hC (nI (d ++ [x]).length) dX5_under_43 len_s (by rw [hnl]; decide) rfl ?_
        refine V_goto hC 5 dX5_under_46 (by decide) ?_
        refine ih (d ++ [x]) fd (by simp) ?_
        rcases hf with ⟨h1, h2⟩ | ⟨d1, d2, y, h1, h2, h3, h4, h5⟩
        · exact Or.inl ⟨h1, fun z hz => by rcases List.mem_append.mp hz with q | q; exact h2 z q; rw [List.mem_singleton.mp q]; exact hu⟩
        · exact Or.inr ⟨d1, d2 ++ [x], y, by rw [h1]; simp, h2, h3, fun z hz => by rcases List.mem_append.mp hz with q | q; exact h4 z q; rw [List.mem_singleton.mp q]; exact hu, h5⟩
      · refine V_aload_n hC dX5_under_27 rfl rfl ?_
        refine V_iload_n hC dX5_under_28 rfl rfl ?_
        refine V_cvI (n := 1) hC (c_X5_back g (eL E) hN (b := d.length) hlt) dX5_under_29 gX5_under_X5_back rfl rfl rfl ⟨rfl, rfl⟩ (by decide +kernel) (by decide +kernel) (by omega) zM_0 rfl (Nat.le_of_ble_eq_true rfl) (by decide) (fun x29 u29 h29 => ?_)
        obtain ⟨rfl, rfl⟩ := h29
        refine V_bipush hC 60 dX5_under_32 (by decide) ?_
        refine V_icmp_ge hC 41 dX5_under_34 (by decide) (fun c34 => ?_) (fun c34 => ?_)
        · have hu : isUnder x = false := by rw [ef, el] at c34; simp [isUnder]; intro _; exact c34
          refine V_iload_n hC dX5_under_41 rfl rfl ?_
          refine V_istore_n1 hC dX5_under_42 rfl (by rw [hnl]; decide) rfl ?_
          refine V_iinc2 hC (nI (d ++ [x]).length) dX5_under_43 len_s (by rw [hnl]; decide) rfl ?_
          refine V_goto hC 5 dX5_under_46 (by decide) ?_
          refine ih (d ++ [x]) fd (by simp) ?_
          rcases hf with ⟨h1, h2⟩ | ⟨d1, d2, y, h1, h2, h3, h4, h5⟩
          · exact Or.inl ⟨h1, fun z hz => by rcases List.mem_append.mp hz with q | q; exact h2 z q; rw [List.mem_singleton.mp q]; exact hu⟩
          · exact Or.inr ⟨d1, d2 ++ [x], y, by rw [h1]; simp, h2, h3, fun z hz => by rcases List.mem_append.mp hz with q | q; exact h4 z q; rw [List.mem_singleton.mp q]; exact hu, h5⟩
        · have hu : isUnder x = true := by rw [ef] at c24; rw [ef, el] at c34; simp [isUnder]; exact ⟨Int32.not_lt.mp c24, Int32.not_le.mp c34⟩
          refine V_iload_n hC dX5_under_37 rfl rfl ?_
          refine V_goto hC 42 dX5_under_38 (by decide) ?_
          refine V_istore_n1 hC dX5_under_42 rfl (by rw [hnl]; decide) rfl ?_
          refine V_iinc2 hC (nI (d ++ [x]).length) dX5_under_43 len_s (by rw [hnl]; decide) rfl ?_
          refine V_goto hC 5 dX5_under_46 (by decide) ?_
          refine ih (d ++ [x]) (nI d.length) (by simp) ?_
          rcases hf with ⟨h1, h2⟩ | ⟨d1, d2, y, h1, h2, h3, h4, h5⟩
          · exact Or.inr ⟨d, [], x, rfl, hu, h2, fun z hz => absurd hz List.not_mem_nil, rfl⟩
          · exfalso
            have hz := oneU.cut (d := d1) (y := y) (r := d2 ++ x :: r) (by rw [h1] at hU; simpa using hU) h2 x (by simp)
            rw [hu] at hz
            cases hz
  refine V_bipush hC (-6) dX5_under_0 (by decide) ?_
  refine V_istore_n1 hC dX5_under_2 rfl (by rw [hnl]; decide) rfl ?_
  refine V_iconst hC 0 dX5_under_3 (by decide) ?_
  refine V_istore_n2 hC dX5_under_4 rfl (by rw [hnl]; decide) rfl ?_
  exact loop bs [] (-6) rfl (Or.inl ⟨rfl, fun z hz => absurd hz List.not_mem_nil⟩)
theorem inX5_X5_marks : ∀ w ∈ wsX50, w ∈ wsX5_marks := by decide +kernel
abbrev rmX5_marks : Room := { frames := 3, cells := 0, slots := 0, locals := 65 }
set_option maxHeartbeats 4000000 in
set_option maxRecDepth 100000 in
theorem c_X5_marks (g : GE) (lau : Launch) {N : Nat} {ad : Nat → Nat} {f : Nat → va_E} {o : Nat} {a kp hs : Nat → Int32} {hl : Int32} {so sv pd : Nat → Int32} {pn sp od wb nb : Int32} (hN : o + 7 ≤ N) {h : Nat → Int32} {bs : List (Nat → Int32)} {rs : List (Int32 × Int32)} {ps : List Int32} (hh : rH a h) (hb : rB a bs) (hr : rR a rs) (hp : rP a ps) (hU : oneU bs) : Ct g lau yX5_marks wsX5_marks rmX5_marks N ad [.ref (ad o)] (zM g ad f o a kp hs hl so sv pd pn sp od wb nb) (pV N ad (fun u => ∃ a2, u = (zM g ad f o a2 kp hs hl so sv pd pn sp od wb nb) ∧ rH a2 (mMark (h, bs)).1 ∧ rB a2 (mMark (h, bs)).2 ∧ rR a2 rs ∧ rP a2 ps)) 0 0 := by
  refine Ct.of (maxL := 2) rfl (by decide +kernel) [some (.ref (ad o)), none] (Nat.le_of_ble_eq_true rfl) (by simp [lvo, lv_args, Value.category]) (fun E hnl _ hC hR => ?_)
  have e18 := hh 18 (by decide) (by decide) (by decide) (by decide)
  have e4 := hh 4 (by decide) (by decide) (by decide) (by decide)
  refine V_aload_n hC dX5_marks_0 rfl rfl ?_
  refine V_zM_all hC hN dX5_marks_1 inX5_X5_marks (by decide +kernel) ?_
  refine V_bipush hC 18 dX5_marks_4 (by decide) ?_
  refine V_zM_ld1 hC hN (k := 18) dX5_marks_6 (ix_c (by decide)) ?_
  refine V_aload_n hC dX5_marks_7 rfl rfl ?_
  refine V_zM_all hC hN dX5_marks_8 inX5_X5_marks (by decide +kernel) ?_
  refine V_iconst hC 4 dX5_marks_11 (by decide) ?_
  refine V_zM_ld1 hC hN (k := 4) dX5_marks_12 (ix_c (by decide)) ?_
  refine V_icmp_ge hC 28 dX5_marks_13 (by decide) (fun c13 => ?_) (fun c13 => ?_)
  · refine V_aload_n hC dX5_marks_28 rfl rfl ?_
    refine V_zM_all hC hN dX5_marks_29 inX5_X5_marks (by decide +kernel) ?_
    refine V_bipush hC 18 dX5_marks_32 (by decide) ?_
    refine V_dup2 hC dX5_marks_34 rfl rfl ?_
    refine V_zM_ld1 hC hN (k := 18) dX5_marks_35 (ix_c (by decide)) ?_
    refine V_aload_n hC dX5_marks_36 rfl rfl ?_
    refine V_zM_all hC hN dX5_marks_37 inX5_X5_marks (by decide +kernel) ?_
    refine V_iconst hC 4 dX5_marks_40 (by decide) ?_
    refine V_zM_ld1 hC hN (k := 4) dX5_marks_41 (ix_c (by decide)) ?_
    refine V_isub hC dX5_marks_42 ?_
    refine V_zM_st1 (k := 18) hC hN dX5_marks_43 (ix_c (by decide)) ?_
    refine V_aload_n hC dX5_marks_44 rfl rfl ?_
    refine V_cvI (n := 0) hC (c_X5_under g (eL E) hN (hb.off (by decide) (by decide)) hU) dX5_marks_45 gX5_marks_X5_under rfl rfl rfl ⟨rfl, rfl⟩ (by decide +kernel) (by decide +kernel) (by omega) zM_0 rfl (Nat.le_of_ble_eq_true rfl) (by decide) (fun x45 u45 h45 => ?_)
    rcases h45 with ⟨⟨rfl, hno⟩ | ⟨d, r, y, he, hy, hd, hr2, rfl⟩, rfl⟩
    · have hs : ¬ h 18 < h 4 := by rw [e18, e4] at c13; exact Int32.not_lt.mpr c13
      refine V_istore_n1 hC dX5_marks_48 rfl (by rw [hnl]; decide) rfl ?_
      refine V_iload_n hC dX5_marks_49 rfl rfl ?_
      refine V_bipush hC (-6) dX5_marks_50 (by decide) ?_
      refine V_icmp_ne_f (tgt := 67) hC dX5_marks_52 (by decide) rfl ?_
      refine V_aload_n hC dX5_marks_55 rfl rfl ?_
      refine V_zM_all hC hN dX5_marks_56 inX5_X5_marks (by decide +kernel) ?_
      refine V_bipush hC 15 dX5_marks_59 (by decide) ?_
      refine V_dup2 hC dX5_marks_61 rfl rfl ?_
      refine V_zM_ld1 hC hN (k := 15) dX5_marks_62 (ix_c (by decide)) ?_
      refine V_iconst hC 1 dX5_marks_63 (by decide) ?_
      refine V_iadd hC dX5_marks_64 ?_
      refine V_zM_st1 (k := 15) hC hN dX5_marks_65 (ix_c (by decide)) ?_
      refine V_vret hC hR dX5_marks_66 ⟨rfl, rfl, rfl, ?_⟩
      have e15 := hh 15 (by decide) (by decide) (by decide) (by decide)
      refine ⟨_, rfl, ?_, ?_, (hr.off (by decide) (by decide)).off (by decide) (by decide), (hp.off (by decide) (by decide)).off (by decide) (by decide)⟩
      · simp only [mMark, hs, if_false, find_non hno, hTaken]
        rw [pk_un (show 15 ≠ 18 by decide), e15, e18, e4]
        exact hh.at.at
      · simp only [mMark, hs, if_false, find_non hno]
        exact (hb.off (by decide) (by decide)).off (by decide) (by decide)
    · subst he
      have hs : ¬ h 18 < h 4 := by rw [e18, e4] at c13; exact Int32.not_lt.mpr c13
      have hlt := hb.lt
      have ey := hb.get (w := 3) (by decide)
      have e0 := hb.get (w := 0) (by decide)
      refine V_istore_n1 hC dX5_marks_48 rfl (by rw [hnl]; decide) rfl ?_
      refine V_iload_n hC dX5_marks_49 rfl rfl ?_
      refine V_bipush hC (-6) dX5_marks_50 (by decide) ?_
      refine V_icmp_ne_t hC 67 dX5_marks_52 (by decide) (nI_nm6 (by omega)) ?_
      refine V_aload_n hC dX5_marks_67 rfl rfl ?_
      refine V_zM_all hC hN dX5_marks_68 inX5_X5_marks (by decide +kernel) ?_
      refine V_bipush hC 14 dX5_marks_71 (by decide) ?_
      refine V_dup2 hC dX5_marks_73 rfl rfl ?_
      refine V_zM_ld1 hC hN (k := 14) dX5_marks_74 (ix_c (by decide)) ?_
      refine V_iconst hC 1 dX5_marks_75 (by decide) ?_
      refine V_iadd hC dX5_marks_76 ?_
      refine V_zM_st1 (k := 14) hC hN dX5_marks_77 (ix_c (by decide)) ?_
      refine V_aload_n hC dX5_marks_78 rfl rfl ?_
      refine V_iload_n hC dX5_marks_79 rfl rfl ?_
      refine V_iconst hC 3 dX5_marks_80 (by decide) ?_
      refine V_cvI (n := 2) hC (c_X5_get g (eL E) hN (b := d.length) (w := 3) hlt (by decide)) dX5_marks_81 gX5_marks_X5_get rfl rfl rfl ⟨rfl, rfl⟩ (by decide +kernel) (by decide +kernel) (by omega) zM_0 rfl (Nat.le_of_ble_eq_true rfl) (by decide) (fun x81 u81 h81 => ?_)
      obtain ⟨rfl, rfl⟩ := h81
      refine V_bipush hC (-6) dX5_marks_84 (by decide) ?_
      refine V_icmp_eq hC 107 dX5_marks_86 (by decide) (fun c86 => ?_) (fun c86 => ?_)
      · refine V_aload_n hC dX5_marks_107 rfl rfl ?_
        refine V_iload_n hC dX5_marks_108 rfl rfl ?_
        refine V_iconst hC 3 dX5_marks_109 (by decide) ?_
        refine V_aload_n hC dX5_marks_110 rfl rfl ?_
        refine V_iload_n hC dX5_marks_111 rfl rfl ?_
        refine V_iconst hC 0 dX5_marks_112 (by decide) ?_
        refine V_cvI (n := 2) hC (c_X5_get g (eL E) hN (b := d.length) (w := 0) hlt (by decide)) dX5_marks_113 gX5_marks_X5_get rfl rfl rfl ⟨rfl, rfl⟩ (by decide +kernel) (by decide +kernel) (by omega) zM_0 rfl (Nat.le_of_ble_eq_true rfl) (by decide) (fun x113 u113 h113 => ?_)
        obtain ⟨rfl, rfl⟩ := h113
        refine V_bipush hC 60 dX5_marks_116 (by decide) ?_
        refine V_isub hC dX5_marks_118 ?_
        refine V_cvV (n := 3) hC (c_X5_put g (eL E) hN (b := d.length) (w := 3) (z := _) hlt (by decide)) dX5_marks_119 gX5_marks_X5_put rfl rfl rfl ⟨rfl, rfl⟩ (by decide +kernel) (by decide +kernel) (by omega) zM_0 rfl (Nat.le_of_ble_eq_true rfl) (by decide) (fun u119 h119 => ?_)
        obtain rfl := h119
        refine V_vret hC hR dX5_marks_122 ⟨rfl, rfl, rfl, ?_⟩
        have hx : y 3 = -6 := by rw [pk_un (by omega), pk_un (by omega), ey] at c86; exact c86
        have e14 := hh 14 (by decide) (by decide) (by decide) (by decide)
        refine ⟨_, rfl, ?_, ?_, ((hr.off (by decide) (by decide)).off (by decide) (by decide)).off (by omega) (by omega), ((hp.off (by decide) (by decide)).off (by decide) (by decide)).off (by omega) (by omega)⟩
        · simp only [mMark, hs, if_false, find_cut hd hy, hTaken, hMarked, hx, if_true]
          rw [pk_un (show 14 ≠ 18 by decide), pk_un (show 14 ≠ 18 by decide), e14, e18, e4]
          exact hh.at.at.off (by omega)
        · simp only [mMark, hs, if_false, find_cut hd hy, bMark_cut hd hy, xMark, hx, if_true]
          rw [pk_un (show 27 + 6 * d.length + 0 ≠ 14 by omega), pk_un (show 27 + 6 * d.length + 0 ≠ 18 by omega), e0]
          exact ((hb.off (by decide) (by decide)).off (by decide) (by decide)).set (by decide)
      · refine V_aload_n hC dX5_marks_89 rfl rfl ?_
        refine V_iload_n hC dX5_marks_90 rfl rfl ?_
        refine V_iconst hC 4 dX5_marks_91 (by decide) ?_
        refine V_iconst hC 1 dX5_marks_92 (by decide) ?_
        refine V_cvV (n := 3) hC (c_X5_put g (eL E) hN (b := d.length) (w := 4) (z := 1) hlt (by decide)) dX5_marks_93 gX5_marks_X5_put rfl rfl rfl ⟨rfl, rfl⟩ (by decide +kernel) (by decide +kernel) (by omega) zM_0 rfl (Nat.le_of_ble_eq_true rfl) (by decide) (fun u93 h93 => ?_)
        obtain rfl := h93
        refine V_aload_n hC dX5_marks_96 rfl rfl ?_
        refine V_zM_all hC hN dX5_marks_97 inX5_X5_marks (by decide +kernel) ?_
        refine V_bipush hC 16 dX5_marks_100 (by decide) ?_
        refine V_dup2 hC dX5_marks_102 rfl rfl ?_
        refine V_zM_ld1 hC hN (k := 16) dX5_marks_103 (ix_c (by decide)) ?_
        refine V_iconst hC 1 dX5_marks_104 (by decide) ?_
        refine V_iadd hC dX5_marks_105 ?_
        refine V_zM_st1 (k := 16) hC hN dX5_marks_106 (ix_c (by decide)) ?_
        refine V_aload_n hC dX5_marks_107 rfl rfl ?_
        refine V_iload_n hC dX5_marks_108 rfl rfl ?_
        refine V_iconst hC 3 dX5_marks_109 (by decide) ?_
        refine V_aload_n hC dX5_marks_110 rfl rfl ?_
        refine V_iload_n hC dX5_marks_111 rfl rfl ?_
        refine V_iconst hC 0 dX5_marks_112 (by decide) ?_
        refine V_cvI (n := 2) hC (c_X5_get g (eL E) hN (b := d.length) (w := 0) hlt (by decide)) dX5_marks_113 gX5_marks_X5_get rfl rfl rfl ⟨rfl, rfl⟩ (by decide +kernel) (by decide +kernel) (by omega) zM_0 rfl (Nat.le_of_ble_eq_true rfl) (by decide) (fun x113 u113 h113 => ?_)
        obtain ⟨rfl, rfl⟩ := h113
        refine V_bipush hC 60 dX5_marks_116 (by decide) ?_
        refine V_isub hC dX5_marks_118 ?_
        refine V_cvV (n := 3) hC (c_X5_put g (eL E) hN (b := d.length) (w := 3) (z := _) hlt (by decide)) dX5_marks_119 gX5_marks_X5_put rfl rfl rfl ⟨rfl, rfl⟩ (by decide +kernel) (by decide +kernel) (by omega) zM_0 rfl (Nat.le_of_ble_eq_true rfl) (by decide) (fun u119 h119 => ?_)
        obtain rfl := h119
        refine V_vret hC hR dX5_marks_122 ⟨rfl, rfl, rfl, ?_⟩
        have hx : ¬ y 3 = -6 := by rw [pk_un (by omega), pk_un (by omega), ey] at c86; exact c86
        have e14 := hh 14 (by decide) (by decide) (by decide) (by decide)
        have e16 := hh 16 (by decide) (by decide) (by decide) (by decide)
        refine ⟨_, rfl, ?_, ?_, ((((hr.off (by decide) (by decide)).off (by decide) (by decide)).off (by omega) (by omega)).off (by decide) (by decide)).off (by omega) (by omega), ((((hp.off (by decide) (by decide)).off (by decide) (by decide)).off (by omega) (by omega)).off (by decide) (by decide)).off (by omega) (by omega)⟩
        · simp only [mMark, hs, if_false, find_cut hd hy, hTaken, hMarked, hx]
          rw [pk_un (show 14 ≠ 18 by decide), pk_un (show 16 ≠ 27 + 6 * d.length + 4 by omega), pk_un (show 16 ≠ 14 by decide), pk_un (show 16 ≠ 18 by decide), pk_un (show 14 ≠ 18 by decide), pk_un (show 16 ≠ 18 by decide), e14, e16, e18, e4]
          exact ((hh.at.at.off (by omega)).at).off (by omega)
        · simp only [mMark, hs, if_false, find_cut hd hy, bMark_cut hd hy, xMark, hx]
          rw [pk_un (show 27 + 6 * d.length + 0 ≠ 16 by omega), pk_un (show 27 + 6 * d.length + 0 ≠ 27 + 6 * d.length + 4 by omega), pk_un (show 27 + 6 * d.length + 0 ≠ 14 by omega), pk_un (show 27 + 6 * d.length + 0 ≠ 18 by omega), e0]
          exact ((((hb.off (by decide) (by decide)).off (by decide) (by decide)).set (by decide)).off (by decide) (by decide)).set (by decide)
  · refine V_aload_n hC dX5_marks_16 rfl rfl ?_
    refine V_zM_all hC hN dX5_marks_17 inX5_X5_marks (by decide +kernel) ?_
    refine V_bipush hC 17 dX5_marks_20 (by decide) ?_
    refine V_dup2 hC dX5_marks_22 rfl rfl ?_
    refine V_zM_ld1 hC hN (k := 17) dX5_marks_23 (ix_c (by decide)) ?_
    refine V_iconst hC 1 dX5_marks_24 (by decide) ?_
    refine V_iadd hC dX5_marks_25 ?_
    refine V_zM_st1 (k := 17) hC hN dX5_marks_26 (ix_c (by decide)) ?_
    refine V_vret hC hR dX5_marks_27 ⟨rfl, rfl, rfl, ?_⟩
    have hs : h 18 < h 4 := by rw [e18, e4] at c13; exact Int32.not_le.mp c13
    have e17 := hh 17 (by decide) (by decide) (by decide) (by decide)
    refine ⟨_, rfl, ?_, ?_, hr.off (by decide) (by decide), hp.off (by decide) (by decide)⟩
    · simp only [mMark, hs, if_true]
      rw [e17]
      exact hh.at
    · simp only [mMark, hs, if_true]
      exact hb.off (by decide) (by decide)
theorem inX5_X5_doesPlans : ∀ w ∈ wsX50, w ∈ wsX5_doesPlans := by decide +kernel
abbrev rmX5_doesPlans : Room := { frames := 4, cells := 0, slots := 0, locals := 86 }
set_option maxHeartbeats 4000000 in
set_option maxRecDepth 100000 in
theorem c_X5_doesPlans (g : GE) (lau : Launch) {N : Nat} {ad : Nat → Nat} {f : Nat → va_E} {o : Nat} {a kp hs : Nat → Int32} {hl : Int32} {so sv pd : Nat → Int32} {pn sp od wb nb : Int32} (hN : o + 7 ≤ N) {h0 : Nat → Int32} {bs0 : List (Nat → Int32)} {rs : List (Int32 × Int32)} {ps : List Int32} (hh : rH a h0) (hb : rB a bs0) (hr : rR a rs) (hp : rP a ps) (hU : oneU bs0) : Ct g lau yX5_doesPlans wsX5_doesPlans rmX5_doesPlans N ad [.ref (ad o)] (zM g ad f o a kp hs hl so sv pd pn sp od wb nb) (pV N ad (fun u => ∃ a2, u = (zM g ad f o a2 kp hs hl so sv pd pn sp od wb nb) ∧ RepR a2 (mDo (h0, bs0, rs, ps)))) 0 0 := by
  refine Ct.of (maxL := 2) rfl (by decide +kernel) [some (.ref (ad o)), none] (Nat.le_of_ble_eq_true rfl) (by simp [lvo, lv_args, Value.category]) (fun E hnl _ hC hR => ?_)
  obtain ⟨tg, htg⟩ : ∃ z, z = ps.foldl doOne (h0, bs0) := ⟨_, rfl⟩
  have loop : ∀ (r d : List Int32) (a h : Nat → Int32) (bs : List (Nat → Int32)), d ++ r.filter (fun q => !decide (q ≤ 0)) = ps.filter (fun q => !decide (q ≤ 0)) → r.foldl doOne (h, bs) = tg → oneU bs → rH a h → rB a bs → rR a rs → rP a (d ++ r) → V E g N ad 0 0 (zM g ad f o a kp hs hl so sv pd pn sp od wb nb) 2 [some (.ref (ad o)), some (.int (nI d.length))] [] := by
    intro r
    induction r with
    | nil =>
      intro d a h bs ht hq hU hh hb hr hp
      refine V_iload_n hC dX5_doesPlans_2 rfl rfl ?_
      refine V_aload_n hC dX5_doesPlans_3 rfl rfl ?_
      refine V_zM_all hC hN dX5_doesPlans_4 inX5_X5_doesPlans (by decide +kernel) ?_
      refine V_bipush hC 20 dX5_doesPlans_7 (by decide) ?_
      refine V_zM_ld1 hC hN (k := 20) dX5_doesPlans_9 (ix_c (by decide)) ?_
      refine V_icmp_ge_t hC 66 dX5_doesPlans_10 (by decide) (lp_end hp.1 (Nat.le_trans hp.2.1 (by decide))) ?_
      refine V_vret hC hR dX5_doesPlans_66 ⟨rfl, rfl, rfl, ?_⟩
      rw [List.append_nil] at hp
      simp only [List.filter_nil, List.append_nil] at ht
      have hq : (h, bs) = tg := hq
      have q1 : (mDo (h0, bs0, rs, ps)).1 = h := by show (ps.foldl doOne (h0, bs0)).1 = h; rw [← htg, ← hq]
      have q2 : (mDo (h0, bs0, rs, ps)).2.1 = bs := by show (ps.foldl doOne (h0, bs0)).2 = bs; rw [← htg, ← hq]
      exact ⟨_, rfl, by rw [q1]; exact hh, by rw [q2]; exact hb, hr, (show d = (mDo (h0, bs0, rs, ps)).2.2.2 from ht) ▸ hp⟩
    | cons x r ih =>
      intro d a h bs ht hq hU hh hb hr hp
      have hlt := hp.lt
      have ex := hp.get
      rw [List.foldl_cons] at hq
      refine V_iload_n hC dX5_doesPlans_2 rfl rfl ?_
      refine V_aload_n hC dX5_doesPlans_3 rfl rfl ?_
      refine V_zM_all hC hN dX5_doesPlans_4 inX5_X5_doesPlans (by decide +kernel) ?_
      refine V_bipush hC 20 dX5_doesPlans_7 (by decide) ?_
      refine V_zM_ld1 hC hN (k := 20) dX5_doesPlans_9 (ix_c (by decide)) ?_
      refine V_icmp_ge_f (tgt := 66) hC dX5_doesPlans_10 (by decide) (lp_go hp.1 (Nat.le_trans hp.2.1 (by decide))) ?_
      refine V_aload_n hC dX5_doesPlans_13 rfl rfl ?_
      refine V_zM_all hC hN dX5_doesPlans_14 inX5_X5_doesPlans (by decide +kernel) ?_
      refine V_sipush hC 131 dX5_doesPlans_17 (by decide) ?_
      refine V_iload_n hC dX5_doesPlans_20 rfl rfl ?_
      refine V_iadd hC dX5_doesPlans_21 ?_
      refine V_zM_ld1 hC hN dX5_doesPlans_22 (ix_of (j := 131 + d.length) (i131 _) (by omega) (by decide)) ?_
      refine V_if_gt hC 60 dX5_doesPlans_23 (by decide) (fun c23 => ?_) (fun c23 => ?_)
      · have hu : ¬ x ≤ 0 := by rw [ex] at c23; exact Int32.not_le.mpr c23
        refine V_iinc1 hC (nI (d ++ [x]).length) dX5_doesPlans_60 len_s (by rw [hnl]; decide) rfl ?_
        refine V_goto hC 2 dX5_doesPlans_63 (by decide) ?_
        simp only [List.filter_cons, hu, decide_false, Bool.not_false, if_true] at ht
        simp only [doOne, hu, if_false] at hq
        exact ih (d ++ [x]) a h bs (by rw [List.append_assoc]; exact ht) hq hU hh hb hr (by rw [List.append_assoc]; exact hp)
      · have hu : x ≤ 0 := by rw [ex] at c23; exact Int32.not_lt.mp c23
        refine V_aload_n hC dX5_doesPlans_26 rfl rfl ?_
        refine V_sipush hC 131 dX5_doesPlans_27 (by decide) ?_
        refine V_iconst hC 1 dX5_doesPlans_30 (by decide) ?_
        refine V_aload_n hC dX5_doesPlans_31 rfl rfl ?_
        refine V_zM_all hC hN dX5_doesPlans_32 inX5_X5_doesPlans (by decide +kernel) ?_
        refine V_bipush hC 20 dX5_doesPlans_35 (by decide) ?_
        refine V_zM_ld1 hC hN (k := 20) dX5_doesPlans_37 (ix_c (by decide)) ?_
        refine V_eqt (nI (d ++ x :: r).length) hp.1 ?_
        refine V_iload_n hC dX5_doesPlans_38 rfl rfl ?_
        refine V_cvV (n := 4) hC (c_X5_takesOut g (eL E) hN (fr := 131) (ea := 1) (mn := (d ++ x :: r).length) (pl := d.length) (by decide) (by simp only [List.length_append, List.length_cons]; omega) (by simp only [List.length_append, List.length_cons]; omega) (by have := hp.2.1; simp only [List.length_append, List.length_cons] at this ⊢; omega)) dX5_doesPlans_39 gX5_doesPlans_X5_takesOut rfl rfl rfl ⟨rfl, rfl⟩ (by decide +kernel) (by decide +kernel) (by omega) zM_0 rfl (Nat.le_of_ble_eq_true rfl) (by decide) (fun u39 h39 => ?_)
        obtain rfl := h39
        refine V_aload_n hC dX5_doesPlans_42 rfl rfl ?_
        refine V_zM_all hC hN dX5_doesPlans_43 inX5_X5_doesPlans (by decide +kernel) ?_
        refine V_bipush hC 20 dX5_doesPlans_46 (by decide) ?_
        refine V_dup2 hC dX5_doesPlans_48 rfl rfl ?_
        refine V_zM_ld1 hC hN (k := 20) dX5_doesPlans_49 (ix_c (by decide)) ?_
        refine V_iconst hC 1 dX5_doesPlans_50 (by decide) ?_
        refine V_isub hC dX5_doesPlans_51 ?_
        refine V_zM_st1 (k := 20) hC hN dX5_doesPlans_52 (ix_c (by decide)) ?_
        refine V_aload_n hC dX5_doesPlans_53 rfl rfl ?_
        refine V_cvV (n := 0) hC (c_X5_marks g (eL E) hN ((hh.tko (by omega)).off (by omega)) ((hb.tko (by omega)).off (by decide) (by decide)) ((hr.tko (by omega)).off (by decide) (by decide)) (by simpa only [Nat.one_mul] using hp.cut (z := (tko a (131 + 1 * d.length) (131 + 1 * ((d ++ x :: r).length - 1)) 1) 20 - 1) (by rw [tko_out (by omega), hp.1]; exact len_p)) hU) dX5_doesPlans_54 gX5_doesPlans_X5_marks rfl rfl rfl ⟨rfl, rfl⟩ (by decide +kernel) (by decide +kernel) (by omega) zM_0 rfl (Nat.le_of_ble_eq_true rfl) (by decide) (fun u54 h54 => ?_)
        obtain ⟨a2, rfl, k1, k2, k3, k4⟩ := h54
        refine V_goto hC 2 dX5_doesPlans_57 (by decide) ?_
        simp only [List.filter_cons, hu, decide_true, Bool.not_true, Bool.false_eq_true, if_false] at ht
        simp only [doOne, hu, if_true] at hq
        exact ih d a2 (mMark (h, bs)).1 (mMark (h, bs)).2 ht hq (by unfold oneU; rw [mMark_under]; exact hU) k1 k2 k3 k4
  refine V_iconst hC 0 dX5_doesPlans_0 (by decide) ?_
  refine V_istore_n1 hC dX5_doesPlans_1 rfl (by rw [hnl]; decide) rfl ?_
  exact loop ps [] a h0 bs0 rfl htg.symm hU hh hb hr hp
