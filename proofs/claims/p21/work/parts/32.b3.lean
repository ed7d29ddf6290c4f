theorem isX.move {y x : Nat → Int32} {v : Int32} (q : isX y x) : isX (upd y 0 (y 0 + v)) (xMove v x) := by
  obtain ⟨e0, e1, e2, e5, e6, e3, hb2, hb4⟩ := q
  refine ⟨?_, e1, e2, e5, e6, e3, hb2, hb4⟩
  show y 0 + v = x 0 + v
  rw [e0]
theorem isX.see {y x : Nat → Int32} (q : isX y x) : isX (upd y 2 1) (upd x 2 1) := by
  obtain ⟨e0, e1, e2, e5, e6, e3, hb2, hb4⟩ := q
  exact ⟨e0, e1, rfl, e5, e6, e3, Or.inr rfl, hb4⟩
theorem qR.push {co ex : Nat → Int32} {rc : Int32} {rs : List (Int32 × Int32)} (q : qR co ex rc rs) (h : rs.length < 28) (a b : Int32) : qR (upd co rs.length a) (upd ex rs.length b) (rc + 1) (rs ++ [(a, b)]) := by
  refine ⟨by rw [q.1, List.length_append]; exact nI_1 _, by rw [List.length_append]; simp; omega, fun j w hw => ?_⟩
  have hj : j < rs.length + 1 := by simpa using (List.getElem?_eq_some_iff.mp hw).1
  by_cases h2 : j < rs.length
  · rw [pk_un (by omega), pk_un (by omega)]
    exact q.2.2 j w ((cut_s h2).mp hw)
  · have : j = rs.length := by omega
    subst this
    rw [cut_m] at hw
    cases hw
    rw [pk_us, pk_us]
    exact ⟨rfl, rfl⟩
theorem qP.push {pl : Nat → Int32} {pn : Int32} {ps : List Int32} (q : qP pl pn ps) (h : ps.length < 29) (a : Int32) : qP (upd pl ps.length a) (pn + 1) (ps ++ [a]) := by
  refine ⟨by rw [q.1, List.length_append]; exact nI_1 _, by rw [List.length_append]; simp; omega, fun j w hw => ?_⟩
  have hj : j < ps.length + 1 := by simpa using (List.getElem?_eq_some_iff.mp hw).1
  by_cases h2 : j < ps.length
  · rw [pk_un (by omega)]
    exact q.2.2 j w ((cut_s h2).mp hw)
  · have : j = ps.length := by omega
    subst this
    rw [cut_m] at hw
    cases hw
    exact pk_us ..
theorem qP.set {pl : Nat → Int32} {pn : Int32} {d r : List Int32} {x z : Int32} (q : qP pl pn (d ++ x :: r)) : qP (upd pl d.length z) pn (d ++ z :: r) := by
  refine ⟨by rw [q.1]; simp, by have := q.2.1; simpa using this, fun j w hw => ?_⟩
  by_cases hj : j = d.length
  · subst hj
    rw [cut_m] at hw
    cases hw
    exact pk_us ..
  · rw [pk_un hj]
    refine q.2.2 j w ?_
    rcases Nat.lt_or_gt_of_ne hj with h3 | h3
    · exact (cut_l h3).mpr ((cut_l h3).mp hw)
    · exact (cut_r h3).mpr ((cut_r h3).mp hw)
theorem qP.get {pl : Nat → Int32} {pn : Int32} {d r : List Int32} {x : Int32} (q : qP pl pn (d ++ x :: r)) : pl d.length = x := q.2.2 _ _ cut_m
/-- an array of two parts: the first as K, from i on as r -/
def two {α : Type} (φ : α → Int32) (a : Nat → Int32) (K r : List α) (i : Nat) : Prop := (∀ j q, K[j]? = some q → a j = φ q) ∧ ∀ j q, r[j]? = some q → a (i + j) = φ q
theorem two.hd {α : Type} {φ : α → Int32} {a : Nat → Int32} {K r : List α} {x : α} {i : Nat} (h : two φ a K (x :: r) i) : a i = φ x := h.2 0 x rfl
theorem two.skip {α : Type} {φ : α → Int32} {a : Nat → Int32} {K r : List α} {x : α} {i : Nat} (h : two φ a K (x :: r) i) : two φ a K r (i + 1) := ⟨h.1, fun j q hq => by rw [show i + 1 + j = i + (j + 1) by omega]; exact h.2 (j + 1) q hq⟩
theorem two.keep {α : Type} {φ : α → Int32} {a : Nat → Int32} {K r : List α} {x : α} {i : Nat} {z : Int32} (h : two φ a K (x :: r) i) (hk : K.length ≤ i) (hz : z = φ x) : two φ (upd a K.length z) (K ++ [x]) r (i + 1) := by
  refine ⟨fun j q hq => ?_, fun j q hq => ?_⟩
  · have hj : j < K.length + 1 := by simpa using (List.getElem?_eq_some_iff.mp hq).1
    by_cases h2 : j < K.length
    · rw [pk_un (by omega)]
      exact h.1 j q ((cut_s h2).mp hq)
    · have : j = K.length := by omega
      subst this
      rw [cut_m] at hq
      cases hq
      rw [pk_us, hz]
  · rw [pk_un (by omega), show i + 1 + j = i + (j + 1) by omega]
    exact h.2 (j + 1) q hq
theorem inX0_X0_addReport : ∀ w ∈ wsX00, w ∈ wsX0_addReport := by decide +kernel
abbrev rmX0_addReport : Room := { frames := 0, cells := 0, slots := 0, locals := 0 }
set_option maxHeartbeats 4000000 in
set_option maxRecDepth 100000 in
theorem c_X0_addReport (g : GE) (lau : Launch) {N : Nat} {ad : Nat → Nat} {f : Nat → va_E} {c : Nat} {s t : Nat → Int32} {p : Nat → Nat} {bc : Int32} {co ex : Nat → Int32} {rc : Int32} {pl : Nat → Int32} {pn : Int32} {wy : Nat → Int32} {gx : Nat → Nat → Int32} (hN : c + 16 ≤ N) {n : Nat} (hn : rc = nI n) (h28 : n < 28) (v : Int32) : Ct g lau yX0_addReport wsX0_addReport rmX0_addReport N ad [.ref (ad c), .int (v)] (zB g ad f c s t p bc co ex rc pl pn wy gx) (pV N ad (fun u => u = (zB g ad f c s t p bc (upd co n (t 0 + s 1)) (upd ex n v) (rc + 1) pl pn wy gx))) 0 0 := by
  refine Ct.of (maxL := 2) rfl (by decide +kernel) [some (.ref (ad c)), some (.int (v))] (Nat.le_of_ble_eq_true rfl) (by simp [lvo, lv_args, Value.category]) (fun E hnl _ hC hR => ?_)
  refine V_aload_n hC dX0_addReport_0 rfl rfl ?_
  refine V_B_reportCount hC hN dX0_addReport_1 inX0_X0_addReport (by decide +kernel) ?_
  refine V_bipush hC 32 dX0_addReport_4 (by decide) ?_
  refine V_icmp_ge_f (tgt := 51) hC dX0_addReport_6 (by decide) (by rw [hn]; exact nI_ge (b := 32) (by omega) (by decide)) ?_
  refine V_aload_n hC dX0_addReport_9 rfl rfl ?_
  refine V_B_comes hC hN dX0_addReport_10 inX0_X0_addReport (by decide +kernel) ?_
  refine V_aload_n hC dX0_addReport_13 rfl rfl ?_
  refine V_B_reportCount hC hN dX0_addReport_14 inX0_X0_addReport (by decide +kernel) ?_
  refine V_aload_n hC dX0_addReport_17 rfl rfl ?_
  refine V_B_tallies hC hN dX0_addReport_18 inX0_X0_addReport (by decide +kernel) ?_
  refine V_iconst hC 0 dX0_addReport_21 (by decide) ?_
  refine V_B_ld2 hC hN (k := 0) dX0_addReport_22 (ix_c (by decide)) ?_
  refine V_aload_n hC dX0_addReport_23 rfl rfl ?_
  refine V_B_settings hC hN dX0_addReport_24 inX0_X0_addReport (by decide +kernel) ?_
  refine V_iconst hC 1 dX0_addReport_27 (by decide) ?_
  refine V_B_ld1 hC hN (k := 1) dX0_addReport_28 (ix_c (by decide)) ?_
  refine V_iadd hC dX0_addReport_29 ?_
  refine V_B_st4 hC hN dX0_addReport_30 (ix_of (j := n) hn (by omega) (by decide)) ?_
  refine V_aload_n hC dX0_addReport_31 rfl rfl ?_
  refine V_B_excesses hC hN dX0_addReport_32 inX0_X0_addReport (by decide +kernel) ?_
  refine V_aload_n hC dX0_addReport_35 rfl rfl ?_
  refine V_B_reportCount hC hN dX0_addReport_36 inX0_X0_addReport (by decide +kernel) ?_
  refine V_iload_n hC dX0_addReport_39 rfl rfl ?_
  refine V_B_st5 hC hN dX0_addReport_40 (ix_of (j := n) hn (by omega) (by decide)) ?_
  refine V_aload_n hC dX0_addReport_41 rfl rfl ?_
  refine V_dup hC dX0_addReport_42 rfl ?_
  refine V_B_reportCount hC hN dX0_addReport_43 inX0_X0_addReport (by decide +kernel) ?_
  refine V_iconst hC 1 dX0_addReport_46 (by decide) ?_
  refine V_iadd hC dX0_addReport_47 ?_
  refine V_B_put_reportCount hC hN dX0_addReport_48 inX0_X0_addReport (by decide +kernel) ?_
  refine V_vret hC hR dX0_addReport_51 ⟨rfl, rfl, rfl, ?_⟩
  exact rfl
theorem inX0_X0_moveOn : ∀ w ∈ wsX00, w ∈ wsX0_moveOn := by decide +kernel
theorem inX1_X0_moveOn : ∀ w ∈ wsX10, w ∈ wsX0_moveOn := by decide +kernel
abbrev rmX0_moveOn : Room := { frames := 0, cells := 0, slots := 0, locals := 0 }
set_option maxHeartbeats 4000000 in
set_option maxRecDepth 100000 in
theorem c_X0_moveOn (g : GE) (lau : Launch) {N : Nat} {ad : Nat → Nat} {f : Nat → va_E} {c : Nat} {s t : Nat → Int32} {p : Nat → Nat} {bc : Int32} {co ex : Nat → Int32} {rc : Int32} {pl : Nat → Int32} {pn : Int32} {wy : Nat → Int32} {gx : Nat → Nat → Int32} (hN : c + 16 ≤ N) {h : Nat → Int32} {bs : List (Nat → Int32)} {rs : List (Int32 × Int32)} {ps : List Int32} (hh : qH s t wy h) (hx : qX p gx bc bs) (hr : qR co ex rc rs) (hp : qP pl pn ps) : Ct g lau yX0_moveOn wsX0_moveOn rmX0_moveOn N ad [.ref (ad c)] (zB g ad f c s t p bc co ex rc pl pn wy gx) (pV N ad (fun u => BIs g ad f c (mMove (h, bs, rs, ps)) u)) 0 0 := by
  refine Ct.of (maxL := 3) rfl (by decide +kernel) [some (.ref (ad c)), none, none] (Nat.le_of_ble_eq_true rfl) (by simp [lvo, lv_args, Value.category]) (fun E hnl _ hC hR => ?_)
  have loop : ∀ (r d : List (Nat → Int32)) (gx : Nat → Nat → Int32), d ++ r.map (xMove (h 0)) = bs.map (xMove (h 0)) → qX p gx bc (d ++ r) → V E g N ad 0 0 (zB g ad f c s t p bc co ex rc pl pn wy gx) 9 [some (.ref (ad c)), some (.int (s 0)), some (.int (nI d.length))] [] := by
    intro r
    induction r with
    | nil =>
      intro d gx ht hx
      refine V_iload_n hC dX0_moveOn_9 rfl rfl ?_
      refine V_aload_n hC dX0_moveOn_10 rfl rfl ?_
      refine V_B_boxCount hC hN dX0_moveOn_11 inX0_X0_moveOn (by decide +kernel) ?_
      refine V_icmp_ge_t hC 38 dX0_moveOn_14 (by decide) (lp_end hx.1 (Nat.le_trans hx.2.1 (by decide))) ?_
      refine V_aload_n hC dX0_moveOn_38 rfl rfl ?_
      refine V_B_tallies hC hN dX0_moveOn_39 inX0_X0_moveOn (by decide +kernel) ?_
      refine V_bipush hC 13 dX0_moveOn_42 (by decide) ?_
      refine V_dup2 hC dX0_moveOn_44 rfl rfl ?_
      refine V_B_ld2 hC hN (k := 13) dX0_moveOn_45 (ix_c (by decide)) ?_
      refine V_iload_n hC dX0_moveOn_46 rfl rfl ?_
      refine V_iadd hC dX0_moveOn_47 ?_
      refine V_B_st2 (k := 13) hC hN dX0_moveOn_48 (ix_c (by decide)) ?_
      refine V_aload_n hC dX0_moveOn_49 rfl rfl ?_
      refine V_B_ways hC hN dX0_moveOn_50 inX0_X0_moveOn (by decide +kernel) ?_
      refine V_B_len7 hC hN 5 dX0_moveOn_53 rfl ?_
      refine V_iconst hC 1 dX0_moveOn_54 (by decide) ?_
      refine V_isub hC dX0_moveOn_55 ?_
      refine V_eqt (4) (by decide) ?_
      refine V_istore_n2 hC dX0_moveOn_56 rfl (by rw [hnl]; decide) rfl ?_
      refine V_iload_n hC dX0_moveOn_57 rfl rfl ?_
      refine V_if_le_f (tgt := 81) hC dX0_moveOn_58 (by decide) (by decide) ?_
      refine V_aload_n hC dX0_moveOn_61 rfl rfl ?_
      refine V_B_ways hC hN dX0_moveOn_62 inX0_X0_moveOn (by decide +kernel) ?_
      refine V_iload_n hC dX0_moveOn_65 rfl rfl ?_
      refine V_aload_n hC dX0_moveOn_66 rfl rfl ?_
      refine V_B_ways hC hN dX0_moveOn_67 inX0_X0_moveOn (by decide +kernel) ?_
      refine V_iload_n hC dX0_moveOn_70 rfl rfl ?_
      refine V_iconst hC 1 dX0_moveOn_71 (by decide) ?_
      refine V_isub hC dX0_moveOn_72 ?_
      refine V_eqt (3) (by decide) ?_
      refine V_B_ld7 hC hN dX0_moveOn_73 (show ix _ 3 5 from ix_c (by decide)) ?_
      refine V_B_st7 hC hN dX0_moveOn_74 (show ix _ 4 5 from ix_c (by decide)) ?_
      refine V_iinc2 hC 3 dX0_moveOn_75 (by decide) (by rw [hnl]; decide) rfl ?_
      refine V_goto hC 57 dX0_moveOn_78 (by decide) ?_
      refine V_iload_n hC dX0_moveOn_57 rfl rfl ?_
      refine V_if_le_f (tgt := 81) hC dX0_moveOn_58 (by decide) (by decide) ?_
      refine V_aload_n hC dX0_moveOn_61 rfl rfl ?_
      refine V_B_ways hC hN dX0_moveOn_62 inX0_X0_moveOn (by decide +kernel) ?_
      refine V_iload_n hC dX0_moveOn_65 rfl rfl ?_
      refine V_aload_n hC dX0_moveOn_66 rfl rfl ?_
      refine V_B_ways hC hN dX0_moveOn_67 inX0_X0_moveOn (by decide +kernel) ?_
      refine V_iload_n hC dX0_moveOn_70 rfl rfl ?_
      refine V_iconst hC 1 dX0_moveOn_71 (by decide) ?_
      refine V_isub hC dX0_moveOn_72 ?_
      refine V_eqt (2) (by decide) ?_
      refine V_B_ld7 hC hN dX0_moveOn_73 (show ix _ 2 5 from ix_c (by decide)) ?_
      refine V_B_st7 hC hN dX0_moveOn_74 (show ix _ 3 5 from ix_c (by decide)) ?_
      refine V_iinc2 hC 2 dX0_moveOn_75 (by decide) (by rw [hnl]; decide) rfl ?_
      refine V_goto hC 57 dX0_moveOn_78 (by decide) ?_
      refine V_iload_n hC dX0_moveOn_57 rfl rfl ?_
      refine V_if_le_f (tgt := 81) hC dX0_moveOn_58 (by decide) (by decide) ?_
      refine V_aload_n hC dX0_moveOn_61 rfl rfl ?_
      refine V_B_ways hC hN dX0_moveOn_62 inX0_X0_moveOn (by decide +kernel) ?_
      refine V_iload_n hC dX0_moveOn_65 rfl rfl ?_
      refine V_aload_n hC dX0_moveOn_66 rfl rfl ?_
      refine V_B_ways hC hN dX0_moveOn_67 inX0_X0_moveOn (by decide +kernel) ?_
      refine V_iload_n hC dX0_moveOn_70 rfl rfl ?_
      refine V_iconst hC 1 dX0_moveOn_71 (by decide) ?_
      refine V_isub hC dX0_moveOn_72 ?_
      refine V_eqt (1) (by decide) ?_
      refine V_B_ld7 hC hN dX0_moveOn_73 (show ix _ 1 5 from ix_c (by decide)) ?_
      refine V_B_st7 hC hN dX0_moveOn_74 (show ix _ 2 5 from ix_c (by decide)) ?_
      refine V_iinc2 hC 1 dX0_moveOn_75 (by decide) (by rw [hnl]; decide) rfl ?_
      refine V_goto hC 57 dX0_moveOn_78 (by decide) ?_
      refine V_iload_n hC dX0_moveOn_57 rfl rfl ?_
      refine V_if_le_f (tgt := 81) hC dX0_moveOn_58 (by decide) (by decide) ?_
      refine V_aload_n hC dX0_moveOn_61 rfl rfl ?_
      refine V_B_ways hC hN dX0_moveOn_62 inX0_X0_moveOn (by decide +kernel) ?_
      refine V_iload_n hC dX0_moveOn_65 rfl rfl ?_
      refine V_aload_n hC dX0_moveOn_66 rfl rfl ?_
      refine V_B_ways hC hN dX0_moveOn_67 inX0_X0_moveOn (by decide +kernel) ?_
      refine V_iload_n hC dX0_moveOn_70 rfl rfl ?_
      refine V_iconst hC 1 dX0_moveOn_71 (by decide) ?_
      refine V_isub hC dX0_moveOn_72 ?_
      refine V_eqt (0) (by decide) ?_
      refine V_B_ld7 hC hN dX0_moveOn_73 (show ix _ 0 5 from ix_c (by decide)) ?_
      refine V_B_st7 hC hN dX0_moveOn_74 (show ix _ 1 5 from ix_c (by decide)) ?_
      refine V_iinc2 hC 0 dX0_moveOn_75 (by decide) (by rw [hnl]; decide) rfl ?_
      refine V_goto hC 57 dX0_moveOn_78 (by decide) ?_
      refine V_iload_n hC dX0_moveOn_57 rfl rfl ?_
      refine V_if_le_t hC 81 dX0_moveOn_58 (by decide) (by decide) ?_
      refine V_aload_n hC dX0_moveOn_81 rfl rfl ?_
      refine V_B_ways hC hN dX0_moveOn_82 inX0_X0_moveOn (by decide +kernel) ?_
      refine V_iconst hC 0 dX0_moveOn_85 (by decide) ?_
      refine V_iload_n hC dX0_moveOn_86 rfl rfl ?_
      refine V_B_st7 (k := 0) hC hN dX0_moveOn_87 (ix_c (by decide)) ?_
      refine V_vret hC hR dX0_moveOn_88 ⟨rfl, rfl, rfl, ?_⟩
      rw [List.append_nil] at hx
      rw [List.map_nil, List.append_nil] at ht
      subst ht
      refine BIs.mk ⟨⟨fun i hi => ?_, fun i h1 h2 h3 h4 => ?_, fun k hk => ?_⟩, hx, hr, hp⟩
      · show s i = hMove h i
        rw [hh.1 i hi]
        unfold hMove
        rw [if_neg (by omega), if_neg (by omega), if_neg (by omega)]
      · show (upd t 13 (t 13 + s 0)) i = hMove h (8 + i)
        by_cases hi : i = 13
        · subst hi
          rw [pk_us, hh.1 0 (by decide), hh.2.1 13 (by decide) (by decide) (by decide) (by decide)]
          rfl
        · rw [pk_un hi, hh.2.1 i h1 h2 h3 h4]
          unfold hMove
          rw [if_neg (by omega), if_neg (by omega), if_neg (by omega)]
      · have e0 := hh.1 0 (by decide)
        have w0 := hh.2.2 0 (by decide)
        have w1 := hh.2.2 1 (by decide)
        have w2 := hh.2.2 2 (by decide)
        have w3 := hh.2.2 3 (by decide)
        rcases (show k = 0 ∨ k = 1 ∨ k = 2 ∨ k = 3 ∨ k = 4 by omega) with rfl | rfl | rfl | rfl | rfl
        · exact e0
        · exact w0
        · exact w1
        · exact w2
        · exact w3
    | cons x r ih =>
      intro d gx ht hx
      have hlt := hx.lt
      have hpl := hx.p8 hlt
      have ex0 := hx.get
      refine V_iload_n hC dX0_moveOn_9 rfl rfl ?_
      refine V_aload_n hC dX0_moveOn_10 rfl rfl ?_
      refine V_B_boxCount hC hN dX0_moveOn_11 inX0_X0_moveOn (by decide +kernel) ?_
      refine V_icmp_ge_f (tgt := 38) hC dX0_moveOn_14 (by decide) (lp_go hx.1 (Nat.le_trans hx.2.1 (by decide))) ?_
      refine V_aload_n hC dX0_moveOn_17 rfl rfl ?_
      refine V_B_boxes hC hN dX0_moveOn_18 inX0_X0_moveOn (by decide +kernel) ?_
      refine V_iload_n hC dX0_moveOn_21 rfl rfl ?_
      refine V_B_ld3 hC hN dX0_moveOn_22 (ix_nI (j := d.length) hlt (by decide)) ?_
      refine V_dup hC dX0_moveOn_23 rfl ?_
      refine V_X_front hC (by have := hpl; omega) (zB_box hpl) dX0_moveOn_24 inX1_X0_moveOn (by decide +kernel) ?_
      refine V_iload_n hC dX0_moveOn_27 rfl rfl ?_
      refine V_iadd hC dX0_moveOn_28 ?_
      refine V_X_put_front hC (by have := hpl; omega) (zB_box hpl) dX0_moveOn_29 inX1_X0_moveOn (by decide +kernel) ?_
      refine V_f (zB_ubox hpl) ?_
      refine V_iinc2 hC (nI (d ++ [xMove (h 0) x]).length) dX0_moveOn_32 len_s (by rw [hnl]; decide) rfl ?_
      refine V_goto hC 9 dX0_moveOn_35 (by decide) ?_
      rw [hh.1 0 (by decide)]
      refine V_lo (by rw [hh.1 0 (by decide)]; exact fun _ q => q) (ih (d ++ [xMove (h 0) x]) _ (by rw [List.append_assoc]; exact ht) ?_)
      rw [List.append_assoc]
      exact hx.set ex0.move
  refine V_aload_n hC dX0_moveOn_0 rfl rfl ?_
  refine V_B_settings hC hN dX0_moveOn_1 inX0_X0_moveOn (by decide +kernel) ?_
  refine V_iconst hC 0 dX0_moveOn_4 (by decide) ?_
  refine V_B_ld1 hC hN (k := 0) dX0_moveOn_5 (ix_c (by decide)) ?_
  refine V_istore_n1 hC dX0_moveOn_6 rfl (by rw [hnl]; decide) rfl ?_
  refine V_iconst hC 0 dX0_moveOn_7 (by decide) ?_
  refine V_istore_n2 hC dX0_moveOn_8 rfl (by rw [hnl]; decide) rfl ?_
  exact loop bs [] gx rfl hx
theorem inX0_X0_seeBoxes : ∀ w ∈ wsX00, w ∈ wsX0_seeBoxes := by decide +kernel
theorem inX1_X0_seeBoxes : ∀ w ∈ wsX10, w ∈ wsX0_seeBoxes := by decide +kernel
abbrev rmX0_seeBoxes : Room := { frames := 1, cells := 0, slots := 0, locals := 21 }
set_option maxHeartbeats 4000000 in
set_option maxRecDepth 100000 in
theorem c_X0_seeBoxes (g : GE) (lau : Launch) {N : Nat} {ad : Nat → Nat} {f : Nat → va_E} {c : Nat} {s t : Nat → Int32} {p : Nat → Nat} {bc : Int32} {co ex : Nat → Int32} {rc : Int32} {pl : Nat → Int32} {pn : Int32} {wy : Nat → Int32} {gx : Nat → Nat → Int32} (hN : c + 16 ≤ N) {h : Nat → Int32} {bs : List (Nat → Int32)} {rs : List (Int32 × Int32)} {ps : List Int32} (hh : qH s t wy h) (hx : qX p gx bc bs) (hr : qR co ex rc rs) (hp : qP pl pn ps) (hn : rs.length + (bs.filter unseen).length ≤ 28) : Ct g lau yX0_seeBoxes wsX0_seeBoxes rmX0_seeBoxes N ad [.ref (ad c)] (zB g ad f c s t p bc co ex rc pl pn wy gx) (pV N ad (fun u => BIs g ad f c (mSee (h, bs, rs, ps)) u)) 0 0 := by
  refine Ct.of (maxL := 3) rfl (by decide +kernel) [some (.ref (ad c)), none, none] (Nat.le_of_ble_eq_true rfl) (by simp [lvo, lv_args, Value.category]) (fun E hnl _ hC hR => ?_)
  obtain ⟨tg, htg⟩ : ∃ z, z = rs ++ (bs.filter unseen).map (mkRep h) := ⟨_, rfl⟩
  have loop : ∀ (r d : List (Nat → Int32)) (gx : Nat → Nat → Int32) (co ex : Nat → Int32) (rc : Int32) (rs : List (Int32 × Int32)) (w2 : Option Value), d ++ r.map xSee = bs.map xSee → rs ++ (r.filter unseen).map (mkRep h) = tg → rs.length + (r.filter unseen).length ≤ 28 → qX p gx bc (d ++ r) → qR co ex rc rs → V E g N ad 0 0 (zB g ad f c s t p bc co ex rc pl pn wy gx) 2 [some (.ref (ad c)), some (.int (nI d.length)), w2] [] := by
    intro r
    induction r with
    | nil =>
      intro d gx co ex rc rs w2 ht hq hn hx hr
      refine V_iload_n hC dX0_seeBoxes_2 rfl rfl ?_
      refine V_aload_n hC dX0_seeBoxes_3 rfl rfl ?_
      refine V_B_boxCount hC hN dX0_seeBoxes_4 inX0_X0_seeBoxes (by decide +kernel) ?_
      refine V_icmp_ge_t hC 55 dX0_seeBoxes_7 (by decide) (lp_end hx.1 (Nat.le_trans hx.2.1 (by decide))) ?_
      refine V_vret hC hR dX0_seeBoxes_55 ⟨rfl, rfl, rfl, ?_⟩
      rw [List.append_nil] at hx
      rw [List.map_nil, List.append_nil] at ht
      simp only [List.filter_nil, List.map_nil, List.append_nil] at hq
      subst ht
      exact BIs.mk ⟨hh, hx, (by have q := hr; rw [hq.trans htg] at q; exact q), hp⟩
    | cons x r ih =>
      intro d gx co ex rc rs w2 ht hq hn hx hr
      have hlt := hx.lt
      have hpl := hx.p8 hlt
      have e := hx.get
      refine V_iload_n hC dX0_seeBoxes_2 rfl rfl ?_
      refine V_aload_n hC dX0_seeBoxes_3 rfl rfl ?_
      refine V_B_boxCount hC hN dX0_seeBoxes_4 inX0_X0_seeBoxes (by decide +kernel) ?_
      refine V_icmp_ge_f (tgt := 55) hC dX0_seeBoxes_7 (by decide) (lp_go hx.1 (Nat.le_trans hx.2.1 (by decide))) ?_
      refine V_aload_n hC dX0_seeBoxes_10 rfl rfl ?_
      refine V_B_boxes hC hN dX0_seeBoxes_11 inX0_X0_seeBoxes (by decide +kernel) ?_
      refine V_iload_n hC dX0_seeBoxes_14 rfl rfl ?_
      refine V_B_ld3 hC hN dX0_seeBoxes_15 (ix_nI (j := d.length) hlt (by decide)) ?_
      refine V_astore_n2 hC dX0_seeBoxes_16 rfl (by rw [hnl]; decide) rfl ?_
      refine V_aload_n hC dX0_seeBoxes_17 rfl rfl ?_
      refine V_X_seen hC (by have := hpl; omega) (zB_box hpl) dX0_seeBoxes_18 inX1_X0_seeBoxes (by decide +kernel) ?_
      refine V_if_ne hC 49 dX0_seeBoxes_21 (by decide) (fun c21 => ?_) (fun c21 => ?_)
      · have hu : unseen x = false := by rw [e.2.2.1] at c21; simp [unseen, c21]
        refine V_iinc1 hC (nI (d ++ [x]).length) dX0_seeBoxes_49 len_s (by rw [hnl]; decide) rfl ?_
        refine V_goto hC 2 dX0_seeBoxes_52 (by decide) ?_
        simp only [List.map_cons, List.filter_cons, hu, xSee_no hu, Bool.false_eq_true, if_false] at ht hq hn
        exact ih (d ++ [x]) gx co ex rc rs _ (by rw [List.append_assoc]; exact ht) hq hn (by rw [List.append_assoc]; exact hx) hr
      · refine V_aload_n hC dX0_seeBoxes_24 rfl rfl ?_
        refine V_X_front hC (by have := hpl; omega) (zB_box hpl) dX0_seeBoxes_25 inX1_X0_seeBoxes (by decide +kernel) ?_
        refine V_bipush hC 20 dX0_seeBoxes_28 (by decide) ?_
        refine V_icmp_lt hC 49 dX0_seeBoxes_30 (by decide) (fun c30 => ?_) (fun c30 => ?_)
        · have hu : unseen x = false := by rw [e.1] at c30; simp [unseen]; intro _; exact c30
          refine V_iinc1 hC (nI (d ++ [x]).length) dX0_seeBoxes_49 len_s (by rw [hnl]; decide) rfl ?_
          refine V_goto hC 2 dX0_seeBoxes_52 (by decide) ?_
          simp only [List.map_cons, List.filter_cons, hu, xSee_no hu, Bool.false_eq_true, if_false] at ht hq hn
          exact ih (d ++ [x]) gx co ex rc rs _ (by rw [List.append_assoc]; exact ht) hq hn (by rw [List.append_assoc]; exact hx) hr
        · have hu : unseen x = true := by rw [e.1] at c30; rw [e.2.2.1] at c21; simp [unseen, c21]; exact Int32.not_lt.mp c30
          have hl28 : rs.length < 28 := by simp only [List.filter_cons, hu, if_true, List.length_cons] at hn; omega
          have hn2 : rs.length + 1 + (r.filter unseen).length ≤ 28 := by simp only [List.filter_cons, hu, if_true, List.length_cons] at hn; omega
          refine V_aload_n hC dX0_seeBoxes_33 rfl rfl ?_
          refine V_iconst hC 1 dX0_seeBoxes_34 (by decide) ?_
          refine V_X_put_seen hC (by omega) (zB_box hpl) (Or.inr rfl) dX0_seeBoxes_35 inX1_X0_seeBoxes (by decide +kernel) ?_
          refine V_f (zB_ubox hpl) ?_
          refine V_aload_n hC dX0_seeBoxes_38 rfl rfl ?_
          refine V_aload_n hC dX0_seeBoxes_39 rfl rfl ?_
          refine V_X_front hC (by omega) (zB_box hpl) dX0_seeBoxes_40 inX1_X0_seeBoxes (by decide +kernel) ?_
          refine V_eqt (upd (gx (p d.length)) 2 1 0) (by simp [va_up]) ?_
          refine V_bipush hC 20 dX0_seeBoxes_43 (by decide) ?_
          refine V_isub hC dX0_seeBoxes_45 ?_
          refine V_cvV (n := 1) hC (c_X0_addReport g (eL E) hN hr.1 hl28 _) dX0_seeBoxes_46 gX0_seeBoxes_X0_addReport rfl rfl rfl ⟨rfl, rfl⟩ (by decide +kernel) (by decide +kernel) (by omega) zB_0 rfl (Nat.le_of_ble_eq_true rfl) (by decide) (fun u46 h46 => ?_)
          obtain rfl := h46
          refine V_iinc1 hC (nI (d ++ [upd x 2 1]).length) dX0_seeBoxes_49 len_s (by rw [hnl]; decide) rfl ?_
          refine V_goto hC 2 dX0_seeBoxes_52 (by decide) ?_
          simp only [List.map_cons, List.filter_cons, hu, xSee_yes hu, if_true] at ht hq
          have er : mkRep h x = (t 0 + s 1, upd (gx (p d.length)) 2 1 0 - 20) := by
            rw [hh.1 1 (by decide), hh.2.1 0 (by decide) (by decide) (by decide) (by decide), pk_un (by decide), e.1]
            rfl
          refine ih (d ++ [upd x 2 1]) _ _ _ _ (rs ++ [mkRep h x]) _ (by rw [List.append_assoc]; exact ht) (by rw [List.append_assoc]; exact hq) (by rw [List.length_append]; simp only [List.length_singleton]; omega) ?_ ?_
          · rw [List.append_assoc]
            exact hx.set e.see
          · rw [er]
            exact hr.push hl28 _ _
  refine V_iconst hC 0 dX0_seeBoxes_0 (by decide) ?_
  refine V_istore_n1 hC dX0_seeBoxes_1 rfl (by rw [hnl]; decide) rfl ?_
  exact loop bs [] gx co ex rc rs _ rfl htg.symm hn hx hr
theorem inX0_X0_countPlansDown : ∀ w ∈ wsX00, w ∈ wsX0_countPlansDown := by decide +kernel
abbrev rmX0_countPlansDown : Room := { frames := 0, cells := 0, slots := 0, locals := 0 }
set_option maxHeartbeats 4000000 in
set_option maxRecDepth 100000 in
theorem c_X0_countPlansDown (g : GE) (lau : Launch) {N : Nat} {ad : Nat → Nat} {f : Nat → va_E} {c : Nat} {s t : Nat → Int32} {p : Nat → Nat} {bc : Int32} {co ex : Nat → Int32} {rc : Int32} {pl : Nat → Int32} {pn : Int32} {wy : Nat → Int32} {gx : Nat → Nat → Int32} (hN : c + 16 ≤ N) {h : Nat → Int32} {bs : List (Nat → Int32)} {rs : List (Int32 × Int32)} {ps : List Int32} (hh : qH s t wy h) (hx : qX p gx bc bs) (hr : qR co ex rc rs) (hp : qP pl pn ps) : Ct g lau yX0_countPlansDown wsX0_countPlansDown rmX0_countPlansDown N ad [.ref (ad c)] (zB g ad f c s t p bc co ex rc pl pn wy gx) (pV N ad (fun u => BIs g ad f c (mCount (h, bs, rs, ps)) u)) 0 0 := by
  refine Ct.of (maxL := 2) rfl (by decide +kernel) [some (.ref (ad c)), none] (Nat.le_of_ble_eq_true rfl) (by simp [lvo, lv_args, Value.category]) (fun E hnl _ hC hR => ?_)
  have loop : ∀ (r d : List Int32) (pl : Nat → Int32), d ++ r.map (fun p => p - h 0) = ps.map (fun p => p - h 0) → qP pl pn (d ++ r) → V E g N ad 0 0 (zB g ad f c s t p bc co ex rc pl pn wy gx) 2 [some (.ref (ad c)), some (.int (nI d.length))] [] := by
    intro r
    induction r with
    | nil =>
      intro d pl ht hp
      refine V_iload_n hC dX0_countPlansDown_2 rfl rfl ?_
      refine V_aload_n hC dX0_countPlansDown_3 rfl rfl ?_
      refine V_B_planCount hC hN dX0_countPlansDown_4 inX0_X0_countPlansDown (by decide +kernel) ?_
      refine V_icmp_ge_t hC 31 dX0_countPlansDown_7 (by decide) (lp_end hp.1 (Nat.le_trans hp.2.1 (by decide))) ?_
      refine V_vret hC hR dX0_countPlansDown_31 ⟨rfl, rfl, rfl, ?_⟩
      rw [List.append_nil] at hp
      rw [List.map_nil, List.append_nil] at ht
      subst ht
      exact BIs.mk ⟨hh, hx, hr, hp⟩
    | cons x r ih =>
      intro d pl ht hp
      have hlt : d.length < 32 := by have := hp.2.1; simp at this; omega
      have e := hp.get
      have e0 := hh.1 0 (by decide)
      refine V_iload_n hC dX0_countPlansDown_2 rfl rfl ?_
      refine V_aload_n hC dX0_countPlansDown_3 rfl rfl ?_
      refine V_B_planCount hC hN dX0_countPlansDown_4 inX0_X0_countPlansDown (by decide +kernel) ?_
      refine V_icmp_ge_f (tgt := 31) hC dX0_countPlansDown_7 (by decide) (lp_go hp.1 (Nat.le_trans hp.2.1 (by decide))) ?_
      refine V_aload_n hC dX0_countPlansDown_10 rfl rfl ?_
      refine V_B_plans hC hN dX0_countPlansDown_11 inX0_X0_countPlansDown (by decide +kernel) ?_
      refine V_iload_n hC dX0_countPlansDown_14 rfl rfl ?_
      refine V_dup2 hC dX0_countPlansDown_15 rfl rfl ?_
      refine V_B_ld6 hC hN dX0_countPlansDown_16 (ix_nI (j := d.length) hlt (by decide)) ?_
      refine V_aload_n hC dX0_countPlansDown_17 rfl rfl ?_
      refine V_B_settings hC hN dX0_countPlansDown_18 inX0_X0_countPlansDown (by decide +kernel) ?_
      refine V_iconst hC 0 dX0_countPlansDown_21 (by decide) ?_
      refine V_B_ld1 hC hN (k := 0) dX0_countPlansDown_22 (ix_c (by decide)) ?_
      refine V_isub hC dX0_countPlansDown_23 ?_
      refine V_eqt (x - h 0) (by rw [e, e0]) ?_
      refine V_B_st6 hC hN dX0_countPlansDown_24 (ix_nI (j := d.length) hlt (by decide)) ?_
      refine V_iinc1 hC (nI (d ++ [x - h 0]).length) dX0_countPlansDown_25 len_s (by rw [hnl]; decide) rfl ?_
      refine V_goto hC 2 dX0_countPlansDown_28 (by decide) ?_
      refine ih (d ++ [x - h 0]) _ (by rw [List.append_assoc]; exact ht) ?_
      rw [List.append_assoc]
      exact hp.set
  refine V_iconst hC 0 dX0_countPlansDown_0 (by decide) ?_
  refine V_istore_n1 hC dX0_countPlansDown_1 rfl (by rw [hnl]; decide) rfl ?_
  exact loop ps [] pl rfl hp
theorem inX0_X0_guessedWay : ∀ w ∈ wsX00, w ∈ wsX0_guessedWay := by decide +kernel
abbrev rmX0_guessedWay : Room := { frames := 0, cells := 0, slots := 0, locals := 0 }
set_option maxHeartbeats 4000000 in
set_option maxRecDepth 100000 in
theorem c_X0_guessedWay (g : GE) (lau : Launch) {N : Nat} {ad : Nat → Nat} {f : Nat → va_E} {c : Nat} {s t : Nat → Int32} {p : Nat → Nat} {bc : Int32} {co ex : Nat → Int32} {rc : Int32} {pl : Nat → Int32} {pn : Int32} {wy : Nat → Int32} {gx : Nat → Nat → Int32} (hN : c + 16 ≤ N) {h : Nat → Int32} (hh : qH s t wy h) {G : Nat} (hG : G ≤ 5) (hg : h 2 = nI G) : Ct g lau yX0_guessedWay wsX0_guessedWay rmX0_guessedWay N ad [.ref (ad c)] (zB g ad f c s t p bc co ex rc pl pn wy gx) (pI N ad (fun x u => x = gw h ∧ u = (zB g ad f c s t p bc co ex rc pl pn wy gx))) 0 0 := by
  refine Ct.of (maxL := 3) rfl (by decide +kernel) [some (.ref (ad c)), none, none] (Nat.le_of_ble_eq_true rfl) (by simp [lvo, lv_args, Value.category]) (fun E hnl _ hC hR => ?_)
  have e2 := hh.1 2 (by decide)
  have loop : ∀ (n k : Nat), k + n = G → V E g N ad 0 0 (zB g ad f c s t p bc co ex rc pl pn wy gx) 4 [some (.ref (ad c)), some (.int (gwN h k)), some (.int (nI k))] [] := by
    intro n
    induction n with
    | zero =>
      intro k hk
      have hk : k = G := by omega
      subst hk
      refine V_iload_n hC dX0_guessedWay_4 rfl rfl ?_
      refine V_aload_n hC dX0_guessedWay_5 rfl rfl ?_
      refine V_B_settings hC hN dX0_guessedWay_6 inX0_X0_guessedWay (by decide +kernel) ?_
      refine V_iconst hC 2 dX0_guessedWay_9 (by decide) ?_
      refine V_B_ld1 hC hN (k := 2) dX0_guessedWay_10 (ix_c (by decide)) ?_
      refine V_icmp_ge_t hC 38 dX0_guessedWay_11 (by decide) (by rw [e2, hg]; exact Int32.le_refl _) ?_
      refine V_iload_n hC dX0_guessedWay_38 rfl rfl ?_
      refine V_iret hC hR dX0_guessedWay_39 ⟨rfl, rfl, _, rfl, ?_⟩
      exact ⟨by rw [gw, hg, nI_clamp (by omega)], rfl⟩
    | succ n ih =>
      intro k hk
      have ek := hh.2.2 k (by omega)
      refine V_iload_n hC dX0_guessedWay_4 rfl rfl ?_
      refine V_aload_n hC dX0_guessedWay_5 rfl rfl ?_
      refine V_B_settings hC hN dX0_guessedWay_6 inX0_X0_guessedWay (by decide +kernel) ?_
      refine V_iconst hC 2 dX0_guessedWay_9 (by decide) ?_
      refine V_B_ld1 hC hN (k := 2) dX0_guessedWay_10 (ix_c (by decide)) ?_
      refine V_icmp_ge_f (tgt := 38) hC dX0_guessedWay_11 (by decide) (by rw [e2, hg]; exact nI_ge (by omega) (by omega)) ?_
      refine V_iload_n hC dX0_guessedWay_14 rfl rfl ?_
      refine V_aload_n hC dX0_guessedWay_15 rfl rfl ?_
      refine V_B_ways hC hN dX0_guessedWay_16 inX0_X0_guessedWay (by decide +kernel) ?_
      refine V_B_len7 hC hN 5 dX0_guessedWay_19 rfl ?_
      refine V_icmp_ge_f (tgt := 38) hC dX0_guessedWay_20 (by decide) (nI_ge (b := 5) (by omega) (by omega)) ?_
      refine V_iload_n hC dX0_guessedWay_23 rfl rfl ?_
      refine V_aload_n hC dX0_guessedWay_24 rfl rfl ?_
      refine V_B_ways hC hN dX0_guessedWay_25 inX0_X0_guessedWay (by decide +kernel) ?_
      refine V_iload_n hC dX0_guessedWay_28 rfl rfl ?_
      refine V_B_ld7 hC hN dX0_guessedWay_29 (ix_nI (j := k) (by omega) (by decide)) ?_
      refine V_iadd hC dX0_guessedWay_30 ?_
      refine V_eqt (gwN h (k + 1)) (by rw [ek]; rfl) ?_
      refine V_istore_n1 hC dX0_guessedWay_31 rfl (by rw [hnl]; decide) rfl ?_
      refine V_iinc2 hC (nI (k + 1)) dX0_guessedWay_32 (nI_1 k) (by rw [hnl]; decide) rfl ?_
      refine V_goto hC 4 dX0_guessedWay_35 (by decide) ?_
      exact ih (k + 1) (by omega)
  refine V_iconst hC 0 dX0_guessedWay_0 (by decide) ?_
  refine V_istore_n1 hC dX0_guessedWay_1 rfl (by rw [hnl]; decide) rfl ?_
  refine V_iconst hC 0 dX0_guessedWay_2 (by decide) ?_
  refine V_istore_n2 hC dX0_guessedWay_3 rfl (by rw [hnl]; decide) rfl ?_
  exact loop G 0 (by omega)
theorem inX0_X0_addPlan : ∀ w ∈ wsX00, w ∈ wsX0_addPlan := by decide +kernel
abbrev rmX0_addPlan : Room := { frames := 1, cells := 0, slots := 0, locals := 22 }
set_option maxHeartbeats 4000000 in
set_option maxRecDepth 100000 in
theorem c_X0_addPlan (g : GE) (lau : Launch) {N : Nat} {ad : Nat → Nat} {f : Nat → va_E} {c : Nat} {s t : Nat → Int32} {p : Nat → Nat} {bc : Int32} {co ex : Nat → Int32} {rc : Int32} {pl : Nat → Int32} {pn : Int32} {wy : Nat → Int32} {gx : Nat → Nat → Int32} (hN : c + 16 ≤ N) {h : Nat → Int32} (hh : qH s t wy h) {G : Nat} (hG : G ≤ 5) (hg : h 2 = nI G) {n : Nat} (hn : pn = nI n) (h29 : n < 29) (v : Int32) : Ct g lau yX0_addPlan wsX0_addPlan rmX0_addPlan N ad [.ref (ad c), .int (v)] (zB g ad f c s t p bc co ex rc pl pn wy gx) (pV N ad (fun u => u = (zB g ad f c s t p bc co ex rc (upd pl n (40 + h 3 - v - gw h)) (pn + 1) wy gx))) 0 0 := by
  refine Ct.of (maxL := 2) rfl (by decide +kernel) [some (.ref (ad c)), some (.int (v))] (Nat.le_of_ble_eq_true rfl) (by simp [lvo, lv_args, Value.category]) (fun E hnl _ hC hR => ?_)
  have e3 := hh.1 3 (by decide)
  refine V_aload_n hC dX0_addPlan_0 rfl rfl ?_
  refine V_B_planCount hC hN dX0_addPlan_1 inX0_X0_addPlan (by decide +kernel) ?_
  refine V_bipush hC 32 dX0_addPlan_4 (by decide) ?_
  refine V_icmp_ge_f (tgt := 44) hC dX0_addPlan_6 (by decide) (by rw [hn]; exact nI_ge (b := 32) (by omega) (by decide)) ?_
  refine V_aload_n hC dX0_addPlan_9 rfl rfl ?_
  refine V_B_plans hC hN dX0_addPlan_10 inX0_X0_addPlan (by decide +kernel) ?_
  refine V_aload_n hC dX0_addPlan_13 rfl rfl ?_
  refine V_B_planCount hC hN dX0_addPlan_14 inX0_X0_addPlan (by decide +kernel) ?_
  refine V_bipush hC 40 dX0_addPlan_17 (by decide) ?_
  refine V_aload_n hC dX0_addPlan_19 rfl rfl ?_
  refine V_B_settings hC hN dX0_addPlan_20 inX0_X0_addPlan (by decide +kernel) ?_
  refine V_iconst hC 3 dX0_addPlan_23 (by decide) ?_
  refine V_B_ld1 hC hN (k := 3) dX0_addPlan_24 (ix_c (by decide)) ?_
  refine V_iadd hC dX0_addPlan_25 ?_
  refine V_eqt (40 + h 3) (by rw [e3]) ?_
  refine V_iload_n hC dX0_addPlan_26 rfl rfl ?_
  refine V_isub hC dX0_addPlan_27 ?_
  refine V_aload_n hC dX0_addPlan_28 rfl rfl ?_
  refine V_cvI (n := 0) hC (c_X0_guessedWay g (eL E) hN hh hG hg) dX0_addPlan_29 gX0_addPlan_X0_guessedWay rfl rfl rfl ⟨rfl, rfl⟩ (by decide +kernel) (by decide +kernel) (by omega) zB_0 rfl (Nat.le_of_ble_eq_true rfl) (by decide) (fun x29 u29 h29 => ?_)
  obtain ⟨rfl, rfl⟩ := h29
  refine V_isub hC dX0_addPlan_32 ?_
  refine V_B_st6 hC hN dX0_addPlan_33 (ix_of (j := n) hn (by omega) (by decide)) ?_
  refine V_aload_n hC dX0_addPlan_34 rfl rfl ?_
  refine V_dup hC dX0_addPlan_35 rfl ?_
  refine V_B_planCount hC hN dX0_addPlan_36 inX0_X0_addPlan (by decide +kernel) ?_
  refine V_iconst hC 1 dX0_addPlan_39 (by decide) ?_
  refine V_iadd hC dX0_addPlan_40 ?_
  refine V_B_put_planCount hC hN dX0_addPlan_41 inX0_X0_addPlan (by decide +kernel) ?_
  refine V_vret hC hR dX0_addPlan_44 ⟨rfl, rfl, rfl, ?_⟩
  exact rfl
theorem inX0_X0_takeReports : ∀ w ∈ wsX00, w ∈ wsX0_takeReports := by decide +kernel
abbrev rmX0_takeReports : Room := { frames := 2, cells := 0, slots := 0, locals := 43 }
set_option maxHeartbeats 4000000 in
set_option maxRecDepth 100000 in
theorem c_X0_takeReports (g : GE) (lau : Launch) {N : Nat} {ad : Nat → Nat} {f : Nat → va_E} {c : Nat} {s t : Nat → Int32} {p : Nat → Nat} {bc : Int32} {co ex : Nat → Int32} {rc : Int32} {pl : Nat → Int32} {pn : Int32} {wy : Nat → Int32} {gx : Nat → Nat → Int32} (hN : c + 16 ≤ N) {h : Nat → Int32} {bs : List (Nat → Int32)} {rs : List (Int32 × Int32)} {ps : List Int32} (hh : qH s t wy h) (hx : qX p gx bc bs) (hr : qR co ex rc rs) (hp : qP pl pn ps) {G : Nat} (hG : G ≤ 5) (hg : h 2 = nI G) (hlen : rs.length + ps.length ≤ 28) : Ct g lau yX0_takeReports wsX0_takeReports rmX0_takeReports N ad [.ref (ad c)] (zB g ad f c s t p bc co ex rc pl pn wy gx) (pV N ad (fun u => BIs g ad f c (mTake (h, bs, rs, ps)) u)) 0 0 := by
  refine Ct.of (maxL := 3) rfl (by decide +kernel) [some (.ref (ad c)), none, none] (Nat.le_of_ble_eq_true rfl) (by simp [lvo, lv_args, Value.category]) (fun E hnl _ hC hR => ?_)
  obtain ⟨ps00, hps00⟩ : ∃ z, z = ps := ⟨_, rfl⟩
  have hB : ∀ u, BIs g ad f c (mTake (h, bs, rs, ps00)) u → BIs g ad f c (mTake (h, bs, rs, ps)) u := fun u q => hps00 ▸ q
  obtain ⟨tg, htg⟩ : ∃ z, z = ps00 ++ (rs.filter (isDue h)).map (mkPlan h) := ⟨_, rfl⟩
  have hrc := hr.1
  have h28 := hr.2.1
  have loop : ∀ (r K : List (Int32 × Int32)) (i : Nat) (co ex pl : Nat → Int32) (pn : Int32) (ps : List Int32), i + r.length = rs.length → K.length ≤ i → K ++ r.filter (fun q => !isDue h q) = rs.filter (fun q => !isDue h q) → ps ++ (r.filter (isDue h)).map (mkPlan h) = tg → r.length + ps.length ≤ 28 → two Prod.fst co K r i → two Prod.snd ex K r i → qP pl pn ps → V E g N ad 0 0 (zB g ad f c s t p bc co ex rc pl pn wy gx) 4 [some (.ref (ad c)), some (.int (nI K.length)), some (.int (nI i))] [] := by
    intro r
    induction r with
    | nil =>
      intro K i co ex pl pn ps hi hk ht hq hn h1 h2 hp
      refine V_iload_n hC dX0_takeReports_4 rfl rfl ?_
      refine V_aload_n hC dX0_takeReports_5 rfl rfl ?_
      refine V_B_reportCount hC hN dX0_takeReports_6 inX0_X0_takeReports (by decide +kernel) ?_
      refine V_icmp_ge_t hC 73 dX0_takeReports_9 (by decide) (by rw [hrc, ← hi]; exact nI_le (Nat.le_refl _) (by simp at hi ⊢; omega)) ?_
      refine V_aload_n hC dX0_takeReports_73 rfl rfl ?_
      refine V_iload_n hC dX0_takeReports_74 rfl rfl ?_
      refine V_B_put_reportCount hC hN dX0_takeReports_75 inX0_X0_takeReports (by decide +kernel) ?_
      refine V_vret hC hR dX0_takeReports_78 ⟨rfl, rfl, rfl, ?_⟩
      simp only [List.filter_nil, List.map_nil, List.append_nil] at ht hq
      refine hB _ (BIs.mk ⟨hh, hx, ?_, ?_⟩)
      · show qR co ex _ (rs.filter (fun q => !isDue h q))
        rw [← ht]
        exact ⟨rfl, by simp at hi; omega, fun j q hq => ⟨h1.1 j q hq, h2.1 j q hq⟩⟩
      · have q := hp
        rw [hq.trans htg] at q
        exact q
    | cons x r ih =>
      intro K i co ex pl pn ps hi hk ht hq hn h1 h2 hp
      simp only [List.length_cons] at hi hn
      have e8 := hh.2.1 0 (by decide) (by decide) (by decide) (by decide)
      have ec := h1.hd
      have ee := h2.hd
      refine V_iload_n hC dX0_takeReports_4 rfl rfl ?_
      refine V_aload_n hC dX0_takeReports_5 rfl rfl ?_
      refine V_B_reportCount hC hN dX0_takeReports_6 inX0_X0_takeReports (by decide +kernel) ?_
      refine V_icmp_ge_f (tgt := 73) hC dX0_takeReports_9 (by decide) (by rw [hrc]; exact nI_ge (by omega) (by omega)) ?_
      refine V_aload_n hC dX0_takeReports_12 rfl rfl ?_
      refine V_B_comes hC hN dX0_takeReports_13 inX0_X0_takeReports (by decide +kernel) ?_
      refine V_iload_n hC dX0_takeReports_16 rfl rfl ?_
      refine V_B_ld4 hC hN dX0_takeReports_17 (ix_nI (j := i) (by omega) (by decide)) ?_
      refine V_aload_n hC dX0_takeReports_18 rfl rfl ?_
      refine V_B_tallies hC hN dX0_takeReports_19 inX0_X0_takeReports (by decide +kernel) ?_
      refine V_iconst hC 0 dX0_takeReports_22 (by decide) ?_
      refine V_B_ld2 hC hN (k := 0) dX0_takeReports_23 (ix_c (by decide)) ?_
      refine V_icmp_gt hC 40 dX0_takeReports_24 (by decide) (fun c24 => ?_) (fun c24 => ?_)
      · have hu : isDue h x = false := by rw [ec, e8] at c24; simp [isDue]; exact c24
        refine V_aload_n hC dX0_takeReports_40 rfl rfl ?_
        refine V_B_comes hC hN dX0_takeReports_41 inX0_X0_takeReports (by decide +kernel) ?_
        refine V_iload_n hC dX0_takeReports_44 rfl rfl ?_
        refine V_aload_n hC dX0_takeReports_45 rfl rfl ?_
        refine V_B_comes hC hN dX0_takeReports_46 inX0_X0_takeReports (by decide +kernel) ?_
        refine V_iload_n hC dX0_takeReports_49 rfl rfl ?_
        refine V_B_ld4 hC hN dX0_takeReports_50 (ix_nI (j := i) (by omega) (by decide)) ?_
        refine V_B_st4 hC hN dX0_takeReports_51 (ix_nI (j := K.length) (by omega) (by decide)) ?_
        refine V_aload_n hC dX0_takeReports_52 rfl rfl ?_
        refine V_B_excesses hC hN dX0_takeReports_53 inX0_X0_takeReports (by decide +kernel) ?_
        refine V_iload_n hC dX0_takeReports_56 rfl rfl ?_
        refine V_aload_n hC dX0_takeReports_57 rfl rfl ?_
        refine V_B_excesses hC hN dX0_takeReports_58 inX0_X0_takeReports (by decide +kernel) ?_
        refine V_iload_n hC dX0_takeReports_61 rfl rfl ?_
        refine V_B_ld5 hC hN dX0_takeReports_62 (ix_nI (j := i) (by omega) (by decide)) ?_
        refine V_B_st5 hC hN dX0_takeReports_63 (ix_nI (j := K.length) (by omega) (by decide)) ?_
        refine V_iinc1 hC (nI (K ++ [x]).length) dX0_takeReports_64 len_s (by rw [hnl]; decide) rfl ?_
        refine V_iinc2 hC (nI (i + 1)) dX0_takeReports_67 (nI_1 i) (by rw [hnl]; decide) rfl ?_
        refine V_goto hC 4 dX0_takeReports_70 (by decide) ?_
        simp only [List.filter_cons, hu, Bool.not_false, if_true, Bool.false_eq_true, if_false] at ht hq
        exact ih (K ++ [x]) (i + 1) _ _ pl pn ps (by omega) (by simp; omega) (by rw [List.append_assoc]; exact ht) hq (by omega) (h1.keep hk ec) (h2.keep hk ee) hp
      · have hu : isDue h x = true := by rw [ec, e8] at c24; simp [isDue]; exact Int32.not_lt.mp c24
        refine V_aload_n hC dX0_takeReports_27 rfl rfl ?_
        refine V_aload_n hC dX0_takeReports_28 rfl rfl ?_
        refine V_B_excesses hC hN dX0_takeReports_29 inX0_X0_takeReports (by decide +kernel) ?_
        refine V_iload_n hC dX0_takeReports_32 rfl rfl ?_
        refine V_B_ld5 hC hN dX0_takeReports_33 (ix_nI (j := i) (by omega) (by decide)) ?_
        refine V_cvV (n := 1) hC (c_X0_addPlan g (eL E) hN hh hG hg hp.1 (by omega) _) dX0_takeReports_34 gX0_takeReports_X0_addPlan rfl rfl rfl ⟨rfl, rfl⟩ (by decide +kernel) (by decide +kernel) (by omega) zB_0 rfl (Nat.le_of_ble_eq_true rfl) (by decide) (fun u34 h34 => ?_)
        obtain rfl := h34
        refine V_goto hC 67 dX0_takeReports_37 (by decide) ?_
        refine V_iinc2 hC (nI (i + 1)) dX0_takeReports_67 (nI_1 i) (by rw [hnl]; decide) rfl ?_
        refine V_goto hC 4 dX0_takeReports_70 (by decide) ?_
        simp only [List.filter_cons, hu, Bool.not_true, if_true, Bool.false_eq_true, if_false, List.map_cons] at ht hq
        have ev : 40 + h 3 - ex i - gw h = mkPlan h x := by rw [ee]; rfl
        refine ih K (i + 1) co ex _ _ (ps ++ [mkPlan h x]) (by omega) (by omega) ht (by rw [List.append_assoc]; exact hq) (by rw [List.length_append]; simp only [List.length_singleton]; omega) h1.skip h2.skip ?_
        rw [ev]
        exact hp.push (by omega) _
  refine V_iconst hC 0 dX0_takeReports_0 (by decide) ?_
  refine V_istore_n1 hC dX0_takeReports_1 rfl (by rw [hnl]; decide) rfl ?_
  refine V_iconst hC 0 dX0_takeReports_2 (by decide) ?_
  refine V_istore_n2 hC dX0_takeReports_3 rfl (by rw [hnl]; decide) rfl ?_
  exact loop rs [] 0 co ex pl pn ps (by omega) (Nat.le_refl _) rfl (by rw [htg, hps00]) hlen ⟨fun j q hq => by simp at hq, fun j q hq => by rw [Nat.zero_add]; exact (hr.2.2 j q hq).1⟩ ⟨fun j q hq => by simp at hq, fun j q hq => by rw [Nat.zero_add]; exact (hr.2.2 j q hq).2⟩ hp
