theorem up_uu {α : Type} {f : Nat → α} {i : Nat} {a b : α} : va_up (va_up f i a) i b = va_up f i b := by
  funext j
  unfold va_up
  split <;> rfl
theorem sub60 {x : Int32} (h : 60 ≤ x) : ¬ x - 60 = -6 := by
  intro e
  have e2 : x = -6 + 60 := by rw [← e, Int32.sub_add_cancel]
  subst e2
  exact absurd h (by decide)
theorem i_sub {a b : Int32} (h1 : -2147483648 ≤ a.toInt - b.toInt) (h2 : a.toInt - b.toInt ≤ 2147483647) : (a - b).toInt = a.toInt - b.toInt := by
  rw [Int32.toInt_sub]
  exact Int.bmod_eq_of_le (by omega) (by omega)
theorem i_add {a b : Int32} (h1 : -2147483648 ≤ a.toInt + b.toInt) (h2 : a.toInt + b.toInt ≤ 2147483647) : (a + b).toInt = a.toInt + b.toInt := by
  rw [Int32.toInt_add]
  exact Int.bmod_eq_of_le (by omega) (by omega)
theorem i_neg {a : Int32} (h1 : -2147483648 < a.toInt) : (-a).toInt = - a.toInt := by
  rw [Int32.toInt_neg]
  have := a.toInt_lt
  exact Int.bmod_eq_of_le (by omega) (by omega)
theorem abs_in {d w : Int32} (hd : -1000 ≤ d.toInt) (hw : 0 ≤ w.toInt ∧ w.toInt ≤ 9) : ¬ w < (if 0 ≤ d then d else 0 - d) ↔ (-w ≤ d ∧ d ≤ w) := by
  have e0 : (0 : Int32).toInt = 0 := rfl
  have l := d.toInt_lt
  simp only [Int32.lt_iff_toInt_lt, Int32.le_iff_toInt_le, e0]
  rw [i_neg (by omega)]
  split
  · omega
  · rw [i_sub (by omega) (by omega)]
    omega
/-- the marks of the boxes, the place and the nearness are as they can be -/
def MarkOK (m : MT) : Prop := (0 ≤ (m.1 3).toInt ∧ (m.1 3).toInt ≤ 20) ∧ (0 ≤ (m.1 7).toInt ∧ (m.1 7).toInt ≤ 9) ∧ ∀ x ∈ m.2.1, x 3 = -6 ∨ 0 ≤ (x 3).toInt
theorem isX.mark {y x : Nat → Int32} (q : isX y x) (hu : isUnder x = true) : (y 3 = 0 → isX (upd (upd y 3 1) 4 (y 0 - 60)) (xMark x)) ∧ (y 3 = 1 → isX (upd (upd (upd y 5 1) 3 1) 4 (y 0 - 60)) (xMark x)) := by
  obtain ⟨e0, e1, e2, e5, e6, e3, hb2, hb4⟩ := q
  have h60 : ¬ x 0 - 60 = -6 := sub60 (by simp [isUnder] at hu; exact hu.1)
  refine ⟨fun h => ?_, fun h => ?_⟩
  · have h3 : x 3 = -6 := by
      rcases e3 with ⟨-, k⟩ | ⟨k, -⟩
      · exact k
      · rw [h] at k; exact absurd k (by decide)
    unfold xMark
    rw [if_pos h3]
    exact ⟨e0, e1, e2, e5, e6, Or.inr ⟨rfl, by show y 0 - 60 = x 0 - 60; rw [e0], h60⟩, hb2, hb4⟩
  · have h3 : ¬ x 3 = -6 := by
      rcases e3 with ⟨k, -⟩ | ⟨-, -, k⟩
      · rw [h] at k; exact absurd k (by decide)
      · exact k
    unfold xMark
    rw [if_neg h3]
    exact ⟨e0, e1, e2, rfl, e6, Or.inr ⟨rfl, by show y 0 - 60 = x 0 - 60; rw [e0], h60⟩, hb2, Or.inr rfl⟩
theorem isX.m3 {y x : Nat → Int32} (q : isX y x) : (x 3 = -6 ∧ y 3 = 0) ∨ (¬ x 3 = -6 ∧ y 3 = 1 ∧ y 4 = x 3) := by
  rcases q.2.2.2.2.2.1 with ⟨a, b⟩ | ⟨a, b, d⟩
  · exact Or.inl ⟨b, a⟩
  · exact Or.inr ⟨d, a, b⟩
theorem inX0_X0_markBox : ∀ w ∈ wsX00, w ∈ wsX0_markBox := by decide +kernel
theorem inX1_X0_markBox : ∀ w ∈ wsX10, w ∈ wsX0_markBox := by decide +kernel
abbrev rmX0_markBox : Room := { frames := 0, cells := 0, slots := 0, locals := 0 }
set_option maxHeartbeats 4000000 in
set_option maxRecDepth 100000 in
theorem c_X0_markBox (g : GE) (lau : Launch) {N : Nat} {ad : Nat → Nat} {f : Nat → va_E} {c : Nat} {s t : Nat → Int32} {p : Nat → Nat} {bc : Int32} {co ex : Nat → Int32} {rc : Int32} {pl : Nat → Int32} {pn : Int32} {wy : Nat → Int32} {gx : Nat → Nat → Int32} (hN : c + 16 ≤ N) {h : Nat → Int32} (hh : qH s t wy h) {q : Nat} (hq : q < 8) {x : Nat → Int32} (hy : isX (gx q) x) (hu : isUnder x = true) : Ct g lau yX0_markBox wsX0_markBox rmX0_markBox N ad [.ref (ad c), .ref (ad (c + 8 + q))] (zB g ad f c s t p bc co ex rc pl pn wy gx) (pV N ad (fun u => ∃ t2 y2, u = (zB g ad f c s t2 p bc co ex rc pl pn wy (va_up gx q y2)) ∧ qH s t2 wy (hMarked h x) ∧ isX y2 (xMark x))) 0 0 := by
  refine Ct.of (maxL := 2) rfl (by decide +kernel) [some (.ref (ad c)), some (.ref (ad (c + 8 + q)))] (Nat.le_of_ble_eq_true rfl) (by simp [lvo, lv_args, Value.category]) (fun E hnl _ hC hR => ?_)
  have e6 := hh.2.1 6 (by decide) (by decide) (by decide) (by decide)
  have e8 := hh.2.1 8 (by decide) (by decide) (by decide) (by decide)
  refine V_aload_n hC dX0_markBox_0 rfl rfl ?_
  refine V_B_tallies hC hN dX0_markBox_1 inX0_X0_markBox (by decide +kernel) ?_
  refine V_bipush hC 6 dX0_markBox_4 (by decide) ?_
  refine V_dup2 hC dX0_markBox_6 rfl rfl ?_
  refine V_B_ld2 hC hN (k := 6) dX0_markBox_7 (ix_c (by decide)) ?_
  refine V_iconst hC 1 dX0_markBox_8 (by decide) ?_
  refine V_iadd hC dX0_markBox_9 ?_
  refine V_B_st2 (k := 6) hC hN dX0_markBox_10 (ix_c (by decide)) ?_
  refine V_aload_n hC dX0_markBox_11 rfl rfl ?_
  refine V_X_marked hC (by omega) (zB_box hq) dX0_markBox_12 inX1_X0_markBox (by decide +kernel) ?_
  refine V_if_eq hC 34 dX0_markBox_15 (by decide) (fun c15 => ?_) (fun c15 => ?_)
  · have e3 : x 3 = -6 := by
      rcases hy.m3 with k | k
      · exact k.1
      · rw [k.2.1] at c15; exact absurd c15 (by decide)
    refine V_aload_n hC dX0_markBox_34 rfl rfl ?_
    refine V_iconst hC 1 dX0_markBox_35 (by decide) ?_
    refine V_X_put_marked hC (by omega) (zB_box hq) (Or.inr rfl) dX0_markBox_36 inX1_X0_markBox (by decide +kernel) ?_
    first | (refine V_f (zB_ubox hq) ?_; refine V_f (by rw [va_up_self, up_uu]) ?_) | (refine V_f (zB_ubox hq) ?_)
    refine V_aload_n hC dX0_markBox_39 rfl rfl ?_
    refine V_aload_n hC dX0_markBox_40 rfl rfl ?_
    refine V_X_front hC (by omega) (zB_box hq) dX0_markBox_41 inX1_X0_markBox (by decide +kernel) ?_
    refine V_eqt (gx q 0) (by rw [va_up_self]; rfl) ?_
    refine V_bipush hC 60 dX0_markBox_44 (by decide) ?_
    refine V_isub hC dX0_markBox_46 ?_
    refine V_X_put_mark hC (by omega) (zB_box hq) dX0_markBox_47 inX1_X0_markBox (by decide +kernel) ?_
    refine V_f (zB_ubox hq) ?_
    refine V_f (by rw [va_up_self, up_uu]) ?_
    refine V_vret hC hR dX0_markBox_50 ⟨rfl, rfl, rfl, ?_⟩
    refine ⟨_, _, rfl, ?_, ?_⟩
    · unfold hMarked
      first | (rw [if_pos e3, ← e6]; exact hh.t (k := 6) (by decide)) | (rw [if_neg e3, ← e6, ← e8]; exact (hh.t (k := 6) (by decide)).t (k := 8) (by decide))
    · first | exact (hy.mark hu).1 c15 | exact (hy.mark hu).2 (by rcases hy.m3 with k | k; exact absurd k.2 c15; exact k.2.1)
  · have e3 : ¬ x 3 = -6 := by
      rcases hy.m3 with k | k
      · exact absurd k.2 c15
      · exact k.1
    refine V_aload_n hC dX0_markBox_18 rfl rfl ?_
    refine V_iconst hC 1 dX0_markBox_19 (by decide) ?_
    refine V_X_put_twice hC (by omega) (zB_box hq) (Or.inr rfl) dX0_markBox_20 inX1_X0_markBox (by decide +kernel) ?_
    refine V_f (zB_ubox hq) ?_
    refine V_aload_n hC dX0_markBox_23 rfl rfl ?_
    refine V_B_tallies hC hN dX0_markBox_24 inX0_X0_markBox (by decide +kernel) ?_
    refine V_bipush hC 8 dX0_markBox_27 (by decide) ?_
    refine V_dup2 hC dX0_markBox_29 rfl rfl ?_
    refine V_B_ld2 hC hN (k := 8) dX0_markBox_30 (ix_c (by decide)) ?_
    refine V_iconst hC 1 dX0_markBox_31 (by decide) ?_
    refine V_iadd hC dX0_markBox_32 ?_
    refine V_B_st2 (k := 8) hC hN dX0_markBox_33 (ix_c (by decide)) ?_
    refine V_aload_n hC dX0_markBox_34 rfl rfl ?_
    refine V_iconst hC 1 dX0_markBox_35 (by decide) ?_
    refine V_X_put_marked hC (by omega) (zB_box hq) (Or.inr rfl) dX0_markBox_36 inX1_X0_markBox (by decide +kernel) ?_
    first | (refine V_f (zB_ubox hq) ?_; refine V_f (by rw [va_up_self, up_uu]) ?_) | (refine V_f (zB_ubox hq) ?_)
    refine V_aload_n hC dX0_markBox_39 rfl rfl ?_
    refine V_aload_n hC dX0_markBox_40 rfl rfl ?_
    refine V_X_front hC (by omega) (zB_box hq) dX0_markBox_41 inX1_X0_markBox (by decide +kernel) ?_
    refine V_eqt (gx q 0) (by rw [va_up_self]; rfl) ?_
    refine V_bipush hC 60 dX0_markBox_44 (by decide) ?_
    refine V_isub hC dX0_markBox_46 ?_
    refine V_X_put_mark hC (by omega) (zB_box hq) dX0_markBox_47 inX1_X0_markBox (by decide +kernel) ?_
    refine V_f (zB_ubox hq) ?_
    refine V_f (by rw [va_up_self, up_uu]) ?_
    refine V_vret hC hR dX0_markBox_50 ⟨rfl, rfl, rfl, ?_⟩
    refine ⟨_, _, rfl, ?_, ?_⟩
    · unfold hMarked
      first | (rw [if_pos e3, ← e6]; exact hh.t (k := 6) (by decide)) | (rw [if_neg e3, ← e6, ← e8]; exact (hh.t (k := 6) (by decide)).t (k := 8) (by decide))
    · first | exact (hy.mark hu).1 c15 | exact (hy.mark hu).2 (by rcases hy.m3 with k | k; exact absurd k.2 c15; exact k.2.1)
theorem inX0_X0_useLabel : ∀ w ∈ wsX00, w ∈ wsX0_useLabel := by decide +kernel
theorem inX1_X0_useLabel : ∀ w ∈ wsX10, w ∈ wsX0_useLabel := by decide +kernel
abbrev rmX0_useLabel : Room := { frames := 1, cells := 0, slots := 0, locals := 21 }
set_option maxHeartbeats 4000000 in
set_option maxRecDepth 100000 in
theorem c_X0_useLabel (g : GE) (lau : Launch) {N : Nat} {ad : Nat → Nat} {f : Nat → va_E} {c : Nat} {s t : Nat → Int32} {p : Nat → Nat} {bc : Int32} {co ex : Nat → Int32} {rc : Int32} {pl : Nat → Int32} {pn : Int32} {wy : Nat → Int32} {gx : Nat → Nat → Int32} (hN : c + 16 ≤ N) {h : Nat → Int32} {bs : List (Nat → Int32)} (hh : qH s t wy h) (hx : qX p gx bc bs) : Ct g lau yX0_useLabel wsX0_useLabel rmX0_useLabel N ad [.ref (ad c)] (zB g ad f c s t p bc co ex rc pl pn wy gx) (pV N ad (fun u => ∃ t2 gx2, u = (zB g ad f c s t2 p bc co ex rc pl pn wy gx2) ∧ qH s t2 wy (mMark (h, bs)).1 ∧ qX p gx2 bc (mMark (h, bs)).2)) 0 0 := by
  refine Ct.of (maxL := 2) rfl (by decide +kernel) [some (.ref (ad c)), none] (Nat.le_of_ble_eq_true rfl) (by simp [lvo, lv_args, Value.category]) (fun E hnl _ hC hR => ?_)
  have e10 := hh.2.1 10 (by decide) (by decide) (by decide) (by decide)
  have e9 := hh.2.1 9 (by decide) (by decide) (by decide) (by decide)
  have e4 := hh.1 4 (by decide)
  have hh1 : qH s (upd t 10 (t 10 - s 4)) wy (hTaken h) := by
    rw [e10, e4]
    exact hh.t (k := 10) (by decide)
  have e7 := hh1.2.1 7 (by decide) (by decide) (by decide) (by decide)
  have loop : ∀ (r d : List (Nat → Int32)), d ++ r = bs → (∀ z ∈ d, isUnder z = false) → ¬ h 18 < h 4 → V E g N ad 0 0 (zB g ad f c s (upd t 10 (t 10 - s 4)) p bc co ex rc pl pn wy gx) 46 [some (.ref (ad c)), some (.int (nI d.length))] [] := by
    intro r
    induction r with
    | nil =>
      intro d hd hz hlt4
      refine V_iload_n hC dX0_useLabel_46 rfl rfl ?_
      refine V_aload_n hC dX0_useLabel_47 rfl rfl ?_
      refine V_B_boxCount hC hN dX0_useLabel_48 inX0_X0_useLabel (by decide +kernel) ?_
      refine V_icmp_ge_t hC 85 dX0_useLabel_51 (by decide) (by rw [hx.1, ← hd]; simp only [List.append_nil]; exact Int32.le_refl _) ?_
      refine V_aload_n hC dX0_useLabel_85 rfl rfl ?_
      refine V_B_tallies hC hN dX0_useLabel_86 inX0_X0_useLabel (by decide +kernel) ?_
      refine V_bipush hC 7 dX0_useLabel_89 (by decide) ?_
      refine V_dup2 hC dX0_useLabel_91 rfl rfl ?_
      refine V_B_ld2 hC hN (k := 7) dX0_useLabel_92 (ix_c (by decide)) ?_
      refine V_iconst hC 1 dX0_useLabel_93 (by decide) ?_
      refine V_iadd hC dX0_useLabel_94 ?_
      refine V_B_st2 (k := 7) hC hN dX0_useLabel_95 (ix_c (by decide)) ?_
      refine V_vret hC hR dX0_useLabel_96 ⟨rfl, rfl, rfl, ?_⟩
      rw [List.append_nil] at hd
      subst hd
      have q : mMark (h, d) = (upd (hTaken h) 15 (h 15 + 1), d) := by unfold mMark; rw [if_neg hlt4, find_non hz]
      rw [q]
      refine ⟨_, _, rfl, ?_, hx⟩
      rw [e7]
      exact hh1.t (k := 7) (by decide)
    | cons x r ih =>
      intro d hd hz hlt4
      have hx2 := hx
      rw [← hd] at hx2
      have hlt := hx2.lt
      have hpl := hx2.p8 hlt
      have e := hx2.get
      refine V_iload_n hC dX0_useLabel_46 rfl rfl ?_
      refine V_aload_n hC dX0_useLabel_47 rfl rfl ?_
      refine V_B_boxCount hC hN dX0_useLabel_48 inX0_X0_useLabel (by decide +kernel) ?_
      refine V_icmp_ge_f (tgt := 85) hC dX0_useLabel_51 (by decide) (by rw [hx2.1]; exact nI_ge (by simp) (by have := hx2.2.1; omega)) ?_
      refine V_aload_n hC dX0_useLabel_54 rfl rfl ?_
      refine V_B_boxes hC hN dX0_useLabel_55 inX0_X0_useLabel (by decide +kernel) ?_
      refine V_iload_n hC dX0_useLabel_58 rfl rfl ?_
      refine V_B_ld3 hC hN dX0_useLabel_59 (ix_nI (j := d.length) hlt (by decide)) ?_
      refine V_bipush hC 60 dX0_useLabel_60 (by decide) ?_
      refine V_cvI (n := 1) hC (c_X1_liesUnder g (eL E) (i := c + 8 + p d.length) (by omega) (zB_box hpl) 60) dX0_useLabel_62 gX0_useLabel_X1_liesUnder rfl rfl rfl ⟨rfl, rfl⟩ (by decide +kernel) (by decide +kernel) (by omega) (zB_box hpl) rfl (Nat.le_of_ble_eq_true rfl) (by decide) (fun x62 u62 h62 => ?_)
      rcases h62 with ⟨rfl, hj, rfl⟩ | ⟨rfl, hj, rfl⟩
      · have hu : isUnder x = true := by rw [e.1, e.2.1] at hj; simp [isUnder, hj.1, hj.2]
        refine V_if_eq_f (tgt := 79) hC dX0_useLabel_65 (by decide) (by decide) ?_
        refine V_aload_n hC dX0_useLabel_68 rfl rfl ?_
        refine V_aload_n hC dX0_useLabel_69 rfl rfl ?_
        refine V_B_boxes hC hN dX0_useLabel_70 inX0_X0_useLabel (by decide +kernel) ?_
        refine V_iload_n hC dX0_useLabel_73 rfl rfl ?_
        refine V_B_ld3 hC hN dX0_useLabel_74 (ix_nI (j := d.length) hlt (by decide)) ?_
        refine V_cvV (n := 1) hC (c_X0_markBox g (eL E) hN hh1 hpl e hu) dX0_useLabel_75 gX0_useLabel_X0_markBox rfl rfl rfl ⟨rfl, rfl⟩ (by decide +kernel) (by decide +kernel) (by omega) zB_0 rfl (Nat.le_of_ble_eq_true rfl) (by decide) (fun u75 h75 => ?_)
        obtain ⟨t2, y2, rfl, k1, k2⟩ := h75
        refine V_vret hC hR dX0_useLabel_78 ⟨rfl, rfl, rfl, ?_⟩
        have q : mMark (h, bs) = (hMarked (hTaken h) x, d ++ xMark x :: r) := by rw [← hd]; unfold mMark; rw [if_neg hlt4, find_cut hz hu, bMark_cut hz hu]
        rw [q]
        exact ⟨_, _, rfl, k1, hx2.set k2⟩
      · have hu : isUnder x = false := by rw [e.1, e.2.1] at hj; rw [← Bool.not_eq_true]; intro q; simp [isUnder] at q; exact hj q
        refine V_if_eq_t hC 79 dX0_useLabel_65 (by decide) rfl ?_
        refine V_iinc1 hC (nI (d ++ [x]).length) dX0_useLabel_79 len_s (by rw [hnl]; decide) rfl ?_
        refine V_goto hC 46 dX0_useLabel_82 (by decide) ?_
        exact ih (d ++ [x]) (by rw [List.append_assoc]; exact hd) (fun z hz2 => by rcases List.mem_append.mp hz2 with k | k; exact hz z k; rw [List.mem_singleton.mp k]; exact hu) hlt4
  refine V_aload_n hC dX0_useLabel_0 rfl rfl ?_
  refine V_B_tallies hC hN dX0_useLabel_1 inX0_X0_useLabel (by decide +kernel) ?_
  refine V_bipush hC 10 dX0_useLabel_4 (by decide) ?_
  refine V_B_ld2 hC hN (k := 10) dX0_useLabel_6 (ix_c (by decide)) ?_
  refine V_aload_n hC dX0_useLabel_7 rfl rfl ?_
  refine V_B_settings hC hN dX0_useLabel_8 inX0_X0_useLabel (by decide +kernel) ?_
  refine V_iconst hC 4 dX0_useLabel_11 (by decide) ?_
  refine V_B_ld1 hC hN (k := 4) dX0_useLabel_12 (ix_c (by decide)) ?_
  refine V_icmp_ge hC 28 dX0_useLabel_13 (by decide) (fun c13 => ?_) (fun c13 => ?_)
  · have hl : ¬ h 18 < h 4 := by rw [e10, e4] at c13; exact Int32.not_lt.mpr c13
    refine V_aload_n hC dX0_useLabel_28 rfl rfl ?_
    refine V_B_tallies hC hN dX0_useLabel_29 inX0_X0_useLabel (by decide +kernel) ?_
    refine V_bipush hC 10 dX0_useLabel_32 (by decide) ?_
    refine V_dup2 hC dX0_useLabel_34 rfl rfl ?_
    refine V_B_ld2 hC hN (k := 10) dX0_useLabel_35 (ix_c (by decide)) ?_
    refine V_aload_n hC dX0_useLabel_36 rfl rfl ?_
    refine V_B_settings hC hN dX0_useLabel_37 inX0_X0_useLabel (by decide +kernel) ?_
    refine V_iconst hC 4 dX0_useLabel_40 (by decide) ?_
    refine V_B_ld1 hC hN (k := 4) dX0_useLabel_41 (ix_c (by decide)) ?_
    refine V_isub hC dX0_useLabel_42 ?_
    refine V_B_st2 (k := 10) hC hN dX0_useLabel_43 (ix_c (by decide)) ?_
    refine V_iconst hC 0 dX0_useLabel_44 (by decide) ?_
    refine V_istore_n1 hC dX0_useLabel_45 rfl (by rw [hnl]; decide) rfl ?_
    exact loop bs [] rfl (fun z hz => by simp at hz) hl
  · have hl : h 18 < h 4 := by rw [e10, e4] at c13; exact Int32.not_le.mp c13
    refine V_aload_n hC dX0_useLabel_16 rfl rfl ?_
    refine V_B_tallies hC hN dX0_useLabel_17 inX0_X0_useLabel (by decide +kernel) ?_
    refine V_bipush hC 9 dX0_useLabel_20 (by decide) ?_
    refine V_dup2 hC dX0_useLabel_22 rfl rfl ?_
    refine V_B_ld2 hC hN (k := 9) dX0_useLabel_23 (ix_c (by decide)) ?_
    refine V_iconst hC 1 dX0_useLabel_24 (by decide) ?_
    refine V_iadd hC dX0_useLabel_25 ?_
    refine V_B_st2 (k := 9) hC hN dX0_useLabel_26 (ix_c (by decide)) ?_
    refine V_vret hC hR dX0_useLabel_27 ⟨rfl, rfl, rfl, ?_⟩
    have q : mMark (h, bs) = (upd h 17 (h 17 + 1), bs) := by unfold mMark; rw [if_pos hl]
    rw [q]
    refine ⟨_, _, rfl, ?_, hx⟩
    rw [e9]
    exact hh.t (k := 9) (by decide)
theorem inX0_X0_doPlans : ∀ w ∈ wsX00, w ∈ wsX0_doPlans := by decide +kernel
theorem inX1_X0_doPlans : ∀ w ∈ wsX10, w ∈ wsX0_doPlans := by decide +kernel
abbrev rmX0_doPlans : Room := { frames := 2, cells := 0, slots := 0, locals := 42 }
set_option maxHeartbeats 4000000 in
set_option maxRecDepth 100000 in
theorem c_X0_doPlans (g : GE) (lau : Launch) {N : Nat} {ad : Nat → Nat} {f : Nat → va_E} {c : Nat} {s t : Nat → Int32} {p : Nat → Nat} {bc : Int32} {co ex : Nat → Int32} {rc : Int32} {pl : Nat → Int32} {pn : Int32} {wy : Nat → Int32} {gx : Nat → Nat → Int32} (hN : c + 16 ≤ N) {h : Nat → Int32} {bs : List (Nat → Int32)} {rs : List (Int32 × Int32)} {ps : List Int32} (hh : qH s t wy h) (hx : qX p gx bc bs) (hr : qR co ex rc rs) (hp : qP pl pn ps) : Ct g lau yX0_doPlans wsX0_doPlans rmX0_doPlans N ad [.ref (ad c)] (zB g ad f c s t p bc co ex rc pl pn wy gx) (pV N ad (fun u => BIs g ad f c (mDo (h, bs, rs, ps)) u)) 0 0 := by
  refine Ct.of (maxL := 3) rfl (by decide +kernel) [some (.ref (ad c)), none, none] (Nat.le_of_ble_eq_true rfl) (by simp [lvo, lv_args, Value.category]) (fun E hnl _ hC hR => ?_)
  obtain ⟨tg, htg⟩ : ∃ z, z = ps.foldl doOne (h, bs) := ⟨_, rfl⟩
  have hpn := hp.1
  have h29 := hp.2.1
  have loop : ∀ (r K : List Int32) (i : Nat) (pl t h : Nat → Int32) (bs : List (Nat → Int32)) (gx : Nat → Nat → Int32), i + r.length = ps.length → K.length ≤ i → K ++ r.filter (fun p => !decide (p ≤ 0)) = ps.filter (fun p => !decide (p ≤ 0)) → r.foldl doOne (h, bs) = tg → two id pl K r i → qH s t wy h → qX p gx bc bs → V E g N ad 0 0 (zB g ad f c s t p bc co ex rc pl pn wy gx) 4 [some (.ref (ad c)), some (.int (nI K.length)), some (.int (nI i))] [] := by
    intro r
    induction r with
    | nil =>
      intro K i pl t h1 bs1 gx hi hk ht hq h2 hh hx
      refine V_iload_n hC dX0_doPlans_4 rfl rfl ?_
      refine V_aload_n hC dX0_doPlans_5 rfl rfl ?_
      refine V_B_planCount hC hN dX0_doPlans_6 inX0_X0_doPlans (by decide +kernel) ?_
      refine V_icmp_ge_t hC 49 dX0_doPlans_9 (by decide) (by rw [hpn, ← hi]; exact nI_le (Nat.le_refl _) (by simp at hi ⊢; omega)) ?_
      refine V_aload_n hC dX0_doPlans_49 rfl rfl ?_
      refine V_iload_n hC dX0_doPlans_50 rfl rfl ?_
      refine V_B_put_planCount hC hN dX0_doPlans_51 inX0_X0_doPlans (by decide +kernel) ?_
      refine V_vret hC hR dX0_doPlans_54 ⟨rfl, rfl, rfl, ?_⟩
      simp only [List.filter_nil, List.append_nil] at ht
      have hq2 : (h1, bs1) = ps.foldl doOne (h, bs) := hq.trans htg
      have hm : mDo (h, bs, rs, ps) = (h1, bs1, rs, K) := by
        show ((ps.foldl doOne (h, bs)).1, (ps.foldl doOne (h, bs)).2, rs, ps.filter (fun p => !decide (p ≤ 0))) = _
        rw [← hq2, ht]
      rw [hm]
      exact BIs.mk ⟨hh, hx, hr, rfl, (by show K.length ≤ 29; simp at hi; omega), fun j q hq => h2.1 j q hq⟩
    | cons x r ih =>
      intro K i pl t h1 bs1 gx hi hk ht hq h2 hh hx
      simp only [List.length_cons] at hi
      have e := h2.hd
      refine V_iload_n hC dX0_doPlans_4 rfl rfl ?_
      refine V_aload_n hC dX0_doPlans_5 rfl rfl ?_
      refine V_B_planCount hC hN dX0_doPlans_6 inX0_X0_doPlans (by decide +kernel) ?_
      refine V_icmp_ge_f (tgt := 49) hC dX0_doPlans_9 (by decide) (by rw [hpn]; exact nI_ge (by omega) (by omega)) ?_
      refine V_aload_n hC dX0_doPlans_12 rfl rfl ?_
      refine V_B_plans hC hN dX0_doPlans_13 inX0_X0_doPlans (by decide +kernel) ?_
      refine V_iload_n hC dX0_doPlans_16 rfl rfl ?_
      refine V_B_ld6 hC hN dX0_doPlans_17 (ix_nI (j := i) (by omega) (by decide)) ?_
      refine V_if_gt hC 28 dX0_doPlans_18 (by decide) (fun c18 => ?_) (fun c18 => ?_)
      · refine V_aload_n hC dX0_doPlans_28 rfl rfl ?_
        refine V_B_plans hC hN dX0_doPlans_29 inX0_X0_doPlans (by decide +kernel) ?_
        refine V_iload_n hC dX0_doPlans_32 rfl rfl ?_
        refine V_aload_n hC dX0_doPlans_33 rfl rfl ?_
        refine V_B_plans hC hN dX0_doPlans_34 inX0_X0_doPlans (by decide +kernel) ?_
        refine V_iload_n hC dX0_doPlans_37 rfl rfl ?_
        refine V_B_ld6 hC hN dX0_doPlans_38 (ix_nI (j := i) (by omega) (by decide)) ?_
        refine V_B_st6 hC hN dX0_doPlans_39 (ix_nI (j := K.length) (by omega) (by decide)) ?_
        refine V_iinc1 hC (nI (K ++ [x]).length) dX0_doPlans_40 len_s (by rw [hnl]; decide) rfl ?_
        refine V_iinc2 hC (nI (i + 1)) dX0_doPlans_43 (nI_1 i) (by rw [hnl]; decide) rfl ?_
        refine V_goto hC 4 dX0_doPlans_46 (by decide) ?_
        have hu : decide (x ≤ 0) = false := decide_eq_false (by rw [e] at c18; exact Int32.not_le.mpr c18)
        simp only [List.filter_cons, hu, Bool.not_false, if_true] at ht
        refine ih (K ++ [x]) (i + 1) _ t h1 bs1 gx (by omega) (by simp; omega) (by rw [List.append_assoc]; exact ht) ?_ (h2.keep hk e) hh hx
        rw [List.foldl_cons] at hq
        rw [show doOne (h1, bs1) x = (h1, bs1) by unfold doOne; rw [if_neg (of_decide_eq_false hu)]] at hq
        exact hq
      · refine V_aload_n hC dX0_doPlans_21 rfl rfl ?_
        refine V_cvV (n := 0) hC (c_X0_useLabel g (eL E) hN hh hx) dX0_doPlans_22 gX0_doPlans_X0_useLabel rfl rfl rfl ⟨rfl, rfl⟩ (by decide +kernel) (by decide +kernel) (by omega) zB_0 rfl (Nat.le_of_ble_eq_true rfl) (by decide) (fun u22 h22 => ?_)
        obtain ⟨t2, gx2, rfl, k1, k2⟩ := h22
        refine V_goto hC 43 dX0_doPlans_25 (by decide) ?_
        refine V_iinc2 hC (nI (i + 1)) dX0_doPlans_43 (nI_1 i) (by rw [hnl]; decide) rfl ?_
        refine V_goto hC 4 dX0_doPlans_46 (by decide) ?_
        have hu : x ≤ 0 := by rw [e] at c18; exact Int32.not_lt.mp c18
        simp only [List.filter_cons, decide_eq_true hu, Bool.not_true, Bool.false_eq_true, if_false] at ht
        refine ih K (i + 1) pl t2 _ _ gx2 (by omega) (by omega) ht ?_ h2.skip k1 k2
        rw [List.foldl_cons] at hq
        rw [show doOne (h1, bs1) x = mMark (h1, bs1) by unfold doOne; rw [if_pos hu]] at hq
        exact hq
  refine V_iconst hC 0 dX0_doPlans_0 (by decide) ?_
  refine V_istore_n1 hC dX0_doPlans_1 rfl (by rw [hnl]; decide) rfl ?_
  refine V_iconst hC 0 dX0_doPlans_2 (by decide) ?_
  refine V_istore_n2 hC dX0_doPlans_3 rfl (by rw [hnl]; decide) rfl ?_
  exact loop ps [] 0 pl t h bs gx (by omega) (Nat.le_refl _) rfl htg.symm ⟨fun j q hq => by simp at hq, fun j q hq => by rw [Nat.zero_add]; exact hp.2.2 j q hq⟩ hh hx
theorem inX0_X0_feed : ∀ w ∈ wsX00, w ∈ wsX0_feed := by decide +kernel
abbrev rmX0_feed : Room := { frames := 1, cells := 0, slots := 0, locals := 40 }
set_option maxHeartbeats 4000000 in
set_option maxRecDepth 100000 in
theorem c_X0_feed (g : GE) (lau : Launch) {N : Nat} {ad : Nat → Nat} {f : Nat → va_E} {c : Nat} {s t : Nat → Int32} {p : Nat → Nat} {bc : Int32} {co ex : Nat → Int32} {rc : Int32} {pl : Nat → Int32} {pn : Int32} {wy : Nat → Int32} {gx : Nat → Nat → Int32} (hN : c + 16 ≤ N) {h : Nat → Int32} {bs : List (Nat → Int32)} {rs : List (Int32 × Int32)} {ps : List Int32} (hh : qH s t wy h) (hx : qX p gx bc bs) (hr : qR co ex rc rs) (hp : qP pl pn ps) : Ct g lau yX0_feed wsX0_feed rmX0_feed N ad [.ref (ad c)] (zB g ad f c s t p bc co ex rc pl pn wy gx) (pV N ad (fun u => BIs g ad f c (mFeed (h, bs, rs, ps)) u)) 0 0 := by
  refine Ct.of (maxL := 1) rfl (by decide +kernel) [some (.ref (ad c))] (Nat.le_of_ble_eq_true rfl) (by simp [lvo, lv_args, Value.category]) (fun E hnl _ hC hR => ?_)
  have e10 := hh.2.1 10 (by decide) (by decide) (by decide) (by decide)
  have e6 := hh.1 6 (by decide)
  have e5 := hh.1 5 (by decide)
  refine V_aload_n hC dX0_feed_0 rfl rfl ?_
  refine V_B_tallies hC hN dX0_feed_1 inX0_X0_feed (by decide +kernel) ?_
  refine V_bipush hC 10 dX0_feed_4 (by decide) ?_
  refine V_aload_n hC dX0_feed_6 rfl rfl ?_
  refine V_B_tallies hC hN dX0_feed_7 inX0_X0_feed (by decide +kernel) ?_
  refine V_bipush hC 10 dX0_feed_10 (by decide) ?_
  refine V_B_ld2 hC hN (k := 10) dX0_feed_12 (ix_c (by decide)) ?_
  refine V_aload_n hC dX0_feed_13 rfl rfl ?_
  refine V_B_settings hC hN dX0_feed_14 inX0_X0_feed (by decide +kernel) ?_
  refine V_bipush hC 6 dX0_feed_17 (by decide) ?_
  refine V_B_ld1 hC hN (k := 6) dX0_feed_19 (ix_c (by decide)) ?_
  refine V_iadd hC dX0_feed_20 ?_
  refine V_aload_n hC dX0_feed_21 rfl rfl ?_
  refine V_B_settings hC hN dX0_feed_22 inX0_X0_feed (by decide +kernel) ?_
  refine V_iconst hC 5 dX0_feed_25 (by decide) ?_
  refine V_B_ld1 hC hN (k := 5) dX0_feed_26 (ix_c (by decide)) ?_
  refine V_min hC dX0_feed_27 (by decide +kernel) (by decide +kernel) (by decide +kernel) (by decide +kernel) (by decide) (Nat.le_of_ble_eq_true rfl) (by decide) ?_
  refine V_B_st2 (k := 10) hC hN dX0_feed_30 (ix_c (by decide)) ?_
  refine V_vret hC hR dX0_feed_31 ⟨rfl, rfl, rfl, ?_⟩
  refine BIs.mk ⟨?_, hx, hr, hp⟩
  show qH s _ wy (hFeed h)
  unfold hFeed
  rw [e10, e6, e5]
  exact hh.t (k := 10) (by decide)
theorem inX0_X0_fate : ∀ w ∈ wsX00, w ∈ wsX0_fate := by decide +kernel
theorem inX1_X0_fate : ∀ w ∈ wsX10, w ∈ wsX0_fate := by decide +kernel
abbrev rmX0_fate : Room := { frames := 1, cells := 0, slots := 0, locals := 40 }
set_option maxHeartbeats 4000000 in
set_option maxRecDepth 100000 in
theorem c_X0_fate (g : GE) (lau : Launch) {N : Nat} {ad : Nat → Nat} {f : Nat → va_E} {c : Nat} {s t : Nat → Int32} {p : Nat → Nat} {bc : Int32} {co ex : Nat → Int32} {rc : Int32} {pl : Nat → Int32} {pn : Int32} {wy : Nat → Int32} {gx : Nat → Nat → Int32} (hN : c + 16 ≤ N) {h : Nat → Int32} (hh : qH s t wy h) {q : Nat} (hq : q < 8) {x : Nat → Int32} (hy : isX (gx q) x) (hm3 : x 3 = -6 ∨ 0 ≤ (x 3).toInt) (hr3 : 0 ≤ (h 3).toInt ∧ (h 3).toInt ≤ 20) (hr7 : 0 ≤ (h 7).toInt ∧ (h 7).toInt ≤ 9) : Ct g lau yX0_fate wsX0_fate rmX0_fate N ad [.ref (ad c), .ref (ad (c + 8 + q))] (zB g ad f c s t p bc co ex rc pl pn wy gx) (pI N ad (fun x_ u => x_ = nI (fate h x - 8) ∧ u = (zB g ad f c s t p bc co ex rc pl pn wy gx))) 0 0 := by
  refine Ct.of (maxL := 3) rfl (by decide +kernel) [some (.ref (ad c)), some (.ref (ad (c + 8 + q))), none] (Nat.le_of_ble_eq_true rfl) (by simp [lvo, lv_args, Value.category]) (fun E hnl _ hC hR => ?_)
  have e3 := hh.1 3 (by decide)
  have e7 := hh.1 7 (by decide)
  refine V_aload_n hC dX0_fate_0 rfl rfl ?_
  refine V_X_marked hC (by omega) (zB_box hq) dX0_fate_1 inX1_X0_fate (by decide +kernel) ?_
  refine V_if_ne hC 9 dX0_fate_4 (by decide) (fun c4 => ?_) (fun c4 => ?_)
  · have k3 : ¬ x 3 = -6 := by
      rcases hy.m3 with k | k
      · exact absurd k.2 c4
      · exact k.1
    have k4 : gx q 4 = x 3 := by
      rcases hy.m3 with k | k
      · exact absurd k.1 k3
      · exact k.2.2
    have hx3 : 0 ≤ (x 3).toInt := by
      rcases hm3 with k | k
      · exact absurd k k3
      · exact k
    have hin : ¬ h 7 < (if 0 ≤ x 3 - h 3 then x 3 - h 3 else 0 - (x 3 - h 3)) ↔ (-(h 7) ≤ x 3 - h 3 ∧ x 3 - h 3 ≤ h 7) := abs_in (by rw [i_sub (by have := (x 3).toInt_lt; omega) (by have := (x 3).toInt_lt; omega)]; omega) hr7
    refine V_aload_n hC dX0_fate_9 rfl rfl ?_
    refine V_X_mark hC (by omega) (zB_box hq) dX0_fate_10 inX1_X0_fate (by decide +kernel) ?_
    refine V_aload_n hC dX0_fate_13 rfl rfl ?_
    refine V_B_settings hC hN dX0_fate_14 inX0_X0_fate (by decide +kernel) ?_
    refine V_iconst hC 3 dX0_fate_17 (by decide) ?_
    refine V_B_ld1 hC hN (k := 3) dX0_fate_18 (ix_c (by decide)) ?_
    refine V_isub hC dX0_fate_19 ?_
    refine V_eqt (x 3 - h 3) (by rw [e3, k4]) ?_
    refine V_abs hC dX0_fate_20 (by decide +kernel) (by decide +kernel) (by decide +kernel) (by decide +kernel) (by decide) (Nat.le_of_ble_eq_true rfl) (by decide) ?_
    refine V_aload_n hC dX0_fate_23 rfl rfl ?_
    refine V_B_settings hC hN dX0_fate_24 inX0_X0_fate (by decide +kernel) ?_
    refine V_bipush hC 7 dX0_fate_27 (by decide) ?_
    refine V_B_ld1 hC hN (k := 7) dX0_fate_29 (ix_c (by decide)) ?_
    refine V_icmp_gt hC 37 dX0_fate_30 (by decide) (fun c30 => ?_) (fun c30 => ?_)
    · have hno : ¬ (-(h 7) ≤ x 3 - h 3 ∧ x 3 - h 3 ≤ h 7) := by rw [e7] at c30; exact fun w => hin.mpr w c30
      refine V_iconst hC 0 dX0_fate_37 (by decide) ?_
      refine V_istore_n2 hC dX0_fate_38 rfl (by rw [hnl]; decide) rfl ?_
      refine V_iload_n hC dX0_fate_39 rfl rfl ?_
      refine V_if_eq_t hC 54 dX0_fate_40 (by decide) rfl ?_
      refine V_iconst hC 4 dX0_fate_54 (by decide) ?_
      refine V_iret hC hR dX0_fate_55 ⟨rfl, rfl, _, rfl, ?_⟩
      refine ⟨?_, rfl⟩
      first | (rw [show fate h x = 12 by unfold fate; rw [if_neg k3, if_neg (fun w => hno w.2)]]; rfl) | (rw [show fate h x = 12 by unfold fate; rw [if_neg k3, if_neg (fun w => c47 (hy.2.2.2.1.trans w.1))]]; rfl) | (rw [show fate h x = 11 by unfold fate; rw [if_neg k3, if_pos ⟨hy.2.2.2.1.symm.trans c47, hyes⟩]]; rfl)
    · have hyes : -(h 7) ≤ x 3 - h 3 ∧ x 3 - h 3 ≤ h 7 := by rw [e7] at c30; exact hin.mp c30
      refine V_iconst hC 1 dX0_fate_33 (by decide) ?_
      refine V_goto hC 38 dX0_fate_34 (by decide) ?_
      refine V_istore_n2 hC dX0_fate_38 rfl (by rw [hnl]; decide) rfl ?_
      refine V_iload_n hC dX0_fate_39 rfl rfl ?_
      refine V_if_eq_f (tgt := 54) hC dX0_fate_40 (by decide) (by decide) ?_
      refine V_aload_n hC dX0_fate_43 rfl rfl ?_
      refine V_X_twice hC (by omega) (zB_box hq) dX0_fate_44 inX1_X0_fate (by decide +kernel) ?_
      refine V_if_ne hC 54 dX0_fate_47 (by decide) (fun c47 => ?_) (fun c47 => ?_)
      · refine V_iconst hC 4 dX0_fate_54 (by decide) ?_
        refine V_iret hC hR dX0_fate_55 ⟨rfl, rfl, _, rfl, ?_⟩
        refine ⟨?_, rfl⟩
        first | (rw [show fate h x = 12 by unfold fate; rw [if_neg k3, if_neg (fun w => hno w.2)]]; rfl) | (rw [show fate h x = 12 by unfold fate; rw [if_neg k3, if_neg (fun w => c47 (hy.2.2.2.1.trans w.1))]]; rfl) | (rw [show fate h x = 11 by unfold fate; rw [if_neg k3, if_pos ⟨hy.2.2.2.1.symm.trans c47, hyes⟩]]; rfl)
      · refine V_iconst hC 3 dX0_fate_50 (by decide) ?_
        refine V_goto hC 55 dX0_fate_51 (by decide) ?_
        refine V_iret hC hR dX0_fate_55 ⟨rfl, rfl, _, rfl, ?_⟩
        refine ⟨?_, rfl⟩
        first | (rw [show fate h x = 12 by unfold fate; rw [if_neg k3, if_neg (fun w => hno w.2)]]; rfl) | (rw [show fate h x = 12 by unfold fate; rw [if_neg k3, if_neg (fun w => c47 (hy.2.2.2.1.trans w.1))]]; rfl) | (rw [show fate h x = 11 by unfold fate; rw [if_neg k3, if_pos ⟨hy.2.2.2.1.symm.trans c47, hyes⟩]]; rfl)
  · have k3 : x 3 = -6 := by
      rcases hy.m3 with k | k
      · exact k.1
      · rw [k.2.1] at c4; exact absurd c4 (by decide)
    refine V_iconst hC 5 dX0_fate_7 (by decide) ?_
    refine V_iret hC hR dX0_fate_8 ⟨rfl, rfl, _, rfl, ?_⟩
    refine ⟨?_, rfl⟩
    rw [show fate h x = 13 by unfold fate; rw [if_pos k3]]
    rfl
