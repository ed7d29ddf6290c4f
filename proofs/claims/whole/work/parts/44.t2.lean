theorem PAt.keep {g : GE} {ad : Nat → Nat} {z : Nat} {p : List Int32} {u v : Nat → va_E} (h : PAt g ad z p u) (h0 : v z = u z) (h1 : v (z + 1) = u (z + 1)) : PAt g ad z p v := by
  obtain ⟨sg, a, b, d⟩ := h
  exact ⟨sg, h0.trans a, h1.trans b, d⟩
theorem CR.pat {g : GE} {ad : Nat → Nat} {o : Nat} {sl : Nat → Option MT} {pd : List Int32} {u : Nat → va_E} (h : CR g ad o sl pd u) : PAt g ad (o + 181) pd u := h.2.2.2.2
theorem CR.pad {g : GE} {ad : Nat → Nat} {o : Nat} {sl : Nat → Option MT} {pd pd2 : List Int32} {u v : Nat → va_E} (h : CR g ad o sl pd u) (hp : PAt g ad (o + 181) pd2 v) (he : ∀ q, (q = o ∨ (o + 17 ≤ q ∧ q < o + 33) ∨ (o + 147 ≤ q ∧ q < o + 181)) → v q = u q) : CR g ad o sl pd2 v := by
  obtain ⟨h1, ⟨m, hm⟩, h3, ⟨sv, h4, h5⟩, -⟩ := h
  refine ⟨(he _ (by omega)).trans h1, ⟨m, hm.keep fun q a b => he q (by omega)⟩, (he _ (by omega)).trans h3, ⟨sv, (he _ (by omega)).trans h4, fun k hk => ?_⟩, hp⟩
  obtain ⟨m, q1, q2⟩ := h5 k hk
  exact ⟨m, q1.keep fun q a b => he q (by omega), q2⟩
theorem sPut_h {C : Nat} {S : ST} : sPut C S = ((if hmB C = 0 then -2 else if 60 < S.2.2.2.length + cntB 8 C then -4 else nI (S.2.2.2.length + cntB 8 C)), (S.1, S.2.1, S.2.2.1, if hmB C = 0 then S.2.2.2 else if 60 < S.2.2.2.length + cntB 8 C then S.2.2.2 else S.2.2.2 ++ bts C (cntB 8 C))) := by
  unfold sPut
  by_cases h : hmB C = 0
  · rw [if_pos ((hmB_0 C).mp h), if_pos h, if_pos h]
  · rw [if_neg (fun q => h ((hmB_0 C).mpr q)), if_neg h, if_neg h]
    split <;> rfl
theorem tail_d {p : List Int32} {i : Nat} {c : Int32} {t : List Int32} (h : p.drop i = c :: t) : p.drop (i + 1) = t := by
  rw [← List.tail_drop, h]
  rfl
theorem sgn_h {p : List Int32} {i : Nat} {c : Int32} {t : List Int32} (h : p.drop i = c :: t) : sgn p i = c := by
  have := sgn_d p i 0
  rw [h] at this
  exact this.symm
theorem inX3_X4_put : ∀ w ∈ wsX30, w ∈ wsX4_put := by decide +kernel
theorem inX4_X4_put : ∀ w ∈ wsX40, w ∈ wsX4_put := by decide +kernel
abbrev rmX4_put : Room := { frames := 3, cells := 0, slots := 0, locals := 69 }
set_option maxHeartbeats 4000000 in
set_option maxRecDepth 100000 in
theorem c_X4_put (g : GE) (lau : Launch) {N : Nat} {ad : Nat → Nat} {f : Nat → va_E} {o : Nat} (hN : o + 183 ≤ N) {S : ST} (hS : CAt g ad o S f) {C : Nat} (hC64 : C < 2 ^ 64) : Ct g lau yX4_put wsX4_put rmX4_put N ad [.ref (ad o), .long (lN C)] f (pI N ad (fun x u => x = (sPut C S).1 ∧ CAt g ad o (sPut C S).2 u ∧ ∀ q, q < o ∨ o + 183 ≤ q → u q = f q)) 0 0 := by
  refine Ct.of (maxL := 3) rfl (by decide +kernel) [some (.ref (ad o)), some (.long (lN C)), none] (Nat.le_of_ble_eq_true rfl) (by simp [lvo, lv_args, Value.category]) (fun E hnl _ hC hR => ?_)
  have hP := hS.1.pat
  obtain ⟨sg, hp1, hp2, hp3⟩ := id hP
  refine V_aload_n hC dX4_put_0 rfl rfl ?_
  refine V_get hC 5 dX4_put_1 (by omega) hS.1.1 rfl (by decide) inX4_X4_put (by decide +kernel) rfl ?_
  refine V_lload_n hC dX4_put_4 rfl rfl ?_
  refine V_cvI (n := 1) hC (c_X3_append g (eL E) (z := o + 181) (by omega) hP hC64) dX4_put_5 gX4_put_X3_append rfl rfl rfl ⟨rfl, rfl⟩ (by decide +kernel) (by decide +kernel) (by omega) hp1 rfl (Nat.le_of_ble_eq_true rfl) (by decide) (fun x5 u5 h5 => ?_)
  obtain ⟨rfl, k1, k2⟩ := h5
  refine V_iret hC hR dX4_put_8 ⟨rfl, rfl, _, rfl, ?_⟩
  rw [sPut_h]
  exact ⟨rfl, ⟨hS.1.pad k1 fun q hq => k2 q (by omega), hS.2.1.keep fun q a b => k2 q (by omega), hS.2.2.keep fun q a b => k2 q (by omega)⟩, fun q hq => k2 q (by omega)⟩
theorem inX3_X4_wipe : ∀ w ∈ wsX30, w ∈ wsX4_wipe := by decide +kernel
theorem inX4_X4_wipe : ∀ w ∈ wsX40, w ∈ wsX4_wipe := by decide +kernel
abbrev rmX4_wipe : Room := { frames := 1, cells := 0, slots := 0, locals := 21 }
set_option maxHeartbeats 4000000 in
set_option maxRecDepth 100000 in
theorem c_X4_wipe (g : GE) (lau : Launch) {N : Nat} {ad : Nat → Nat} {f : Nat → va_E} {o : Nat} (hN : o + 183 ≤ N) {S : ST} (hS : CAt g ad o S f) : Ct g lau yX4_wipe wsX4_wipe rmX4_wipe N ad [.ref (ad o)] f (pI N ad (fun x u => x = nI S.2.2.2.length ∧ CAt g ad o (S.1, S.2.1, S.2.2.1, []) u ∧ ∀ q, q < o ∨ o + 183 ≤ q → u q = f q)) 0 0 := by
  refine Ct.of (maxL := 1) rfl (by decide +kernel) [some (.ref (ad o))] (Nat.le_of_ble_eq_true rfl) (by simp [lvo, lv_args, Value.category]) (fun E hnl _ hC hR => ?_)
  have hP := hS.1.pat
  obtain ⟨sg, hp1, hp2, hp3⟩ := id hP
  refine V_aload_n hC dX4_wipe_0 rfl rfl ?_
  refine V_get hC 5 dX4_wipe_1 (by omega) hS.1.1 rfl (by decide) inX4_X4_wipe (by decide +kernel) rfl ?_
  refine V_cvI (n := 0) hC (c_X3_empty g (eL E) (z := o + 181) (by omega) hP) dX4_wipe_4 gX4_wipe_X3_empty rfl rfl rfl ⟨rfl, rfl⟩ (by decide +kernel) (by decide +kernel) (by omega) hp1 rfl (Nat.le_of_ble_eq_true rfl) (by decide) (fun x4 u4 h4 => ?_)
  obtain ⟨rfl, k1, k2⟩ := h4
  refine V_iret hC hR dX4_wipe_7 ⟨rfl, rfl, _, rfl, ?_⟩
  exact ⟨rfl, ⟨hS.1.pad k1 fun q hq => k2 q (by omega), hS.2.1.keep fun q a b => k2 q (by omega), hS.2.2.keep fun q a b => k2 q (by omega)⟩, fun q hq => k2 q (by omega)⟩
theorem inX3_X4_fault : ∀ w ∈ wsX30, w ∈ wsX4_fault := by decide +kernel
theorem inX4_X4_fault : ∀ w ∈ wsX40, w ∈ wsX4_fault := by decide +kernel
abbrev rmX4_fault : Room := { frames := 3, cells := 0, slots := 0, locals := 63 }
set_option maxHeartbeats 4000000 in
set_option maxRecDepth 100000 in
theorem c_X4_fault (g : GE) (lau : Launch) {N : Nat} {ad : Nat → Nat} {f : Nat → va_E} {o : Nat} (hN : o + 183 ≤ N) {S : ST} (hS : CAt g ad o S f) : Ct g lau yX4_fault wsX4_fault rmX4_fault N ad [.ref (ad o)] f (pI N ad (fun x u => x = sFault S.2.2.2 ∧ u = f)) 0 0 := by
  refine Ct.of (maxL := 1) rfl (by decide +kernel) [some (.ref (ad o))] (Nat.le_of_ble_eq_true rfl) (by simp [lvo, lv_args, Value.category]) (fun E hnl _ hC hR => ?_)
  have hP := hS.1.pat
  obtain ⟨sg, hp1, hp2, hp3⟩ := id hP
  refine V_aload_n hC dX4_fault_0 rfl rfl ?_
  refine V_get hC 5 dX4_fault_1 (by omega) hS.1.1 rfl (by decide) inX4_X4_fault (by decide +kernel) rfl ?_
  refine V_cvI (n := 0) hC (c_X3_firstFault g (eL E) (z := o + 181) (by omega) hP) dX4_fault_4 gX4_fault_X3_firstFault rfl rfl rfl ⟨rfl, rfl⟩ (by decide +kernel) (by decide +kernel) (by omega) hp1 rfl (Nat.le_of_ble_eq_true rfl) (by decide) (fun x4 u4 h4 => ?_)
  obtain ⟨rfl, he⟩ := h4
  obtain rfl := he.symm
  refine V_iret hC hR dX4_fault_7 ⟨rfl, rfl, _, rfl, ?_⟩
  exact ⟨autoF_s _, rfl⟩
theorem inX0_X4_follow : ∀ w ∈ wsX00, w ∈ wsX4_follow := by decide +kernel
theorem inX1_X4_follow : ∀ w ∈ wsX10, w ∈ wsX4_follow := by decide +kernel
theorem inX3_X4_follow : ∀ w ∈ wsX30, w ∈ wsX4_follow := by decide +kernel
theorem inX4_X4_follow : ∀ w ∈ wsX40, w ∈ wsX4_follow := by decide +kernel
abbrev rmX4_follow : Room := { frames := 5, cells := 0, slots := 0, locals := 129 }
set_option maxHeartbeats 4000000 in
set_option maxRecDepth 100000 in
theorem c_X4_follow (g : GE) (lau : Launch) {N : Nat} {ad : Nat → Nat} {f : Nat → va_E} {o : Nat} (hN : o + 183 ≤ N) (ho : f o = .inr (4, [.ref (ad (o + 1)), .ref (ad (o + 17)), .ref (ad (o + 33)), .ref (ad (o + 147)), .ref (ad (o + 180)), .ref (ad (o + 181))])) {p : List Int32} (hP : PAt g ad (o + 181) p f) (hpo : padOK p) {m : MT} (hb : BAt g ad (o + 1) m f) {i : Nat} {l : List Int32} (hi : i < 60) (hl : p.drop i = l) (h1 : (rdOrder l).1 = true) (hend : l.drop (rdOrder l).2.1 = [] ∨ ∃ r, l.drop (rdOrder l).2.1 = 59 :: r) (hok : ∀ n, n ≤ 99 → TicksOK n m) (hmk : MarkOK m) (hlen : ∀ x ∈ m.2.1, okLen (x 1) = true) : Ct g lau yX4_follow wsX4_follow rmX4_follow N ad [.ref (ad o), .int (nI i)] f (pI N ad (fun x u => x = (ordQ l m).1 ∧ BAt g ad (o + 1) (ordQ l m).2 u ∧ ∀ q, (q < o + 1 ∨ o + 17 ≤ q) → u q = f q)) 0 0 := by
  refine Ct.of (maxL := 2) rfl (by decide +kernel) [some (.ref (ad o)), some (.int (nI i))] (Nat.le_of_ble_eq_true rfl) (by simp [lvo, lv_args, Value.category]) (fun E hnl _ hC hR => ?_)
  obtain ⟨sg, hp1, hp2, hp3⟩ := id hP
  obtain ⟨s7, t7, p7, bc7, co7, ex7, rc7, pl7, pn7, wy7, gx7, hB, hm⟩ := id hb
  obtain ⟨nb, hnb⟩ : ∃ z, z = (rdOrder l).2.2.2.2 := ⟨_, rfl⟩
  rcases rdOrder_is h1 with ⟨c, t, hlc, hc, hn, e⟩ | ⟨b, t, hlc, hbb, hn, e⟩
  · rw [hlc] at hl
    have hd1 := tail_d hl
    have hs := sgn_h hl
    have hnum : numL 0 (p.drop (i + 1)) = nb := by
      rw [hd1, hnb, e]
      refine numL_v hn ?_
      rw [e, hlc] at hend
      simp only [Nat.add_comm 1, List.drop_succ_cons] at hend
      exact hend
    rcases hc with rfl | rfl | rfl
    · have hq : ordQ l m = mArrive nb m := by rw [hnb]; unfold ordQ; rw [e]; rfl
      refine V_aload_n hC dX4_follow_0 rfl rfl ?_
      refine V_get hC 5 dX4_follow_1 (by omega) ho rfl (by decide) inX4_X4_follow (by decide +kernel) rfl ?_
      refine V_iload_n hC dX4_follow_4 rfl rfl ?_
      refine V_cvI (n := 1) hC (c_X3_signAt g (eL E) (z := o + 181) (by omega) hP hpo (i := i) (by omega)) dX4_follow_5 gX4_follow_X3_signAt rfl rfl rfl ⟨rfl, rfl⟩ (by decide +kernel) (by decide +kernel) (by omega) hp1 rfl (Nat.le_of_ble_eq_true rfl) (by decide) (fun x5 u5 h5 => ?_)
      obtain ⟨rfl, he⟩ := h5
      obtain rfl := he.symm
      refine V_eqt 98 hs ?_
      refine V_lookup (off := 36) hC 44 dX4_follow_8 (by decide) (by decide) (by decide) ?_
      refine V_aload_n hC dX4_follow_44 rfl rfl ?_
      refine V_get hC 0 dX4_follow_45 (by omega) ho rfl (by decide) inX4_X4_follow (by decide +kernel) rfl ?_
      refine V_aload_n hC dX4_follow_48 rfl rfl ?_
      refine V_get hC 5 dX4_follow_49 (by omega) ho rfl (by decide) inX4_X4_follow (by decide +kernel) rfl ?_
      refine V_iload_n hC dX4_follow_52 rfl rfl ?_
      refine V_iconst hC 1 dX4_follow_53 (by decide) ?_
      refine V_iadd hC dX4_follow_54 ?_
      refine V_eqt (nI (i + 1)) (nI_1 _) ?_
      refine V_cvI (n := 1) hC (c_X3_numberAt g (eL E) (z := o + 181) (by omega) hP hpo (i := i + 1) (by omega)) dX4_follow_55 gX4_follow_X3_numberAt rfl rfl rfl ⟨rfl, rfl⟩ (by decide +kernel) (by decide +kernel) (by omega) hp1 rfl (Nat.le_of_ble_eq_true rfl) (by decide) (fun x55 u55 h55 => ?_)
      obtain ⟨rfl, he⟩ := h55
      obtain rfl := he.symm
      refine V_eqt nb hnum ?_
      refine V_f hB.self ?_
      refine V_cvI (n := 1) hC (c_X0_takeBox g (eL E) (f := f) (c := o + 1) (by omega) hm nb) dX4_follow_58 gX4_follow_X0_takeBox rfl rfl rfl ⟨rfl, rfl⟩ (by decide +kernel) (by decide +kernel) (by omega) zB_0 rfl (Nat.le_of_ble_eq_true rfl) (by decide) (fun x58 u58 h58 => ?_)
      obtain ⟨rfl, hu⟩ := h58
      obtain ⟨b1, b2⟩ := BIs.at hu
      refine V_iret hC hR dX4_follow_61 ⟨rfl, rfl, _, rfl, ?_⟩
      rw [hq]
      exact ⟨rfl, b1, fun q hq => b2 q (by omega)⟩
    · have hq : ordQ l m = mPass nb m := by rw [hnb]; unfold ordQ; rw [e]; rfl
      refine V_aload_n hC dX4_follow_0 rfl rfl ?_
      refine V_get hC 5 dX4_follow_1 (by omega) ho rfl (by decide) inX4_X4_follow (by decide +kernel) rfl ?_
      refine V_iload_n hC dX4_follow_4 rfl rfl ?_
      refine V_cvI (n := 1) hC (c_X3_signAt g (eL E) (z := o + 181) (by omega) hP hpo (i := i) (by omega)) dX4_follow_5 gX4_follow_X3_signAt rfl rfl rfl ⟨rfl, rfl⟩ (by decide +kernel) (by decide +kernel) (by omega) hp1 rfl (Nat.le_of_ble_eq_true rfl) (by decide) (fun x5 u5 h5 => ?_)
      obtain ⟨rfl, he⟩ := h5
      obtain rfl := he.symm
      refine V_eqt 119 hs ?_
      refine V_lookup (off := 54) hC 62 dX4_follow_8 (by decide) (by decide) (by decide) ?_
      refine V_aload_n hC dX4_follow_62 rfl rfl ?_
      refine V_get hC 0 dX4_follow_63 (by omega) ho rfl (by decide) inX4_X4_follow (by decide +kernel) rfl ?_
      refine V_aload_n hC dX4_follow_66 rfl rfl ?_
      refine V_get hC 5 dX4_follow_67 (by omega) ho rfl (by decide) inX4_X4_follow (by decide +kernel) rfl ?_
      refine V_iload_n hC dX4_follow_70 rfl rfl ?_
      refine V_iconst hC 1 dX4_follow_71 (by decide) ?_
      refine V_iadd hC dX4_follow_72 ?_
      refine V_eqt (nI (i + 1)) (nI_1 _) ?_
      refine V_cvI (n := 1) hC (c_X3_numberAt g (eL E) (z := o + 181) (by omega) hP hpo (i := i + 1) (by omega)) dX4_follow_73 gX4_follow_X3_numberAt rfl rfl rfl ⟨rfl, rfl⟩ (by decide +kernel) (by decide +kernel) (by omega) hp1 rfl (Nat.le_of_ble_eq_true rfl) (by decide) (fun x73 u73 h73 => ?_)
      obtain ⟨rfl, he⟩ := h73
      obtain rfl := he.symm
      refine V_eqt nb hnum ?_
      refine V_f hB.self ?_
      refine V_cvI (n := 1) hC (c_X0_letPass g (eL E) (f := f) (c := o + 1) (by omega) hm nb hok hmk) dX4_follow_76 gX4_follow_X0_letPass rfl rfl rfl ⟨rfl, rfl⟩ (by decide +kernel) (by decide +kernel) (by omega) zB_0 rfl (Nat.le_of_ble_eq_true rfl) (by decide) (fun x76 u76 h76 => ?_)
      obtain ⟨rfl, hu⟩ := h76
      obtain ⟨b1, b2⟩ := BIs.at hu
      refine V_iret hC hR dX4_follow_79 ⟨rfl, rfl, _, rfl, ?_⟩
      rw [hq]
      exact ⟨rfl, b1, fun q hq => b2 q (by omega)⟩
    · have hq : ordQ l m = mSet 0 nb m := by rw [hnb]; unfold ordQ; rw [e]; rfl
      refine V_aload_n hC dX4_follow_0 rfl rfl ?_
      refine V_get hC 5 dX4_follow_1 (by omega) ho rfl (by decide) inX4_X4_follow (by decide +kernel) rfl ?_
      refine V_iload_n hC dX4_follow_4 rfl rfl ?_
      refine V_cvI (n := 1) hC (c_X3_signAt g (eL E) (z := o + 181) (by omega) hP hpo (i := i) (by omega)) dX4_follow_5 gX4_follow_X3_signAt rfl rfl rfl ⟨rfl, rfl⟩ (by decide +kernel) (by decide +kernel) (by omega) hp1 rfl (Nat.le_of_ble_eq_true rfl) (by decide) (fun x5 u5 h5 => ?_)
      obtain ⟨rfl, he⟩ := h5
      obtain rfl := he.symm
      refine V_eqt 115 hs ?_
      refine V_lookup (off := 72) hC 80 dX4_follow_8 (by decide) (by decide) (by decide) ?_
      refine V_aload_n hC dX4_follow_80 rfl rfl ?_
      refine V_get hC 0 dX4_follow_81 (by omega) ho rfl (by decide) inX4_X4_follow (by decide +kernel) rfl ?_
      refine V_iconst hC 0 dX4_follow_84 (by decide) ?_
      refine V_aload_n hC dX4_follow_85 rfl rfl ?_
      refine V_get hC 5 dX4_follow_86 (by omega) ho rfl (by decide) inX4_X4_follow (by decide +kernel) rfl ?_
      refine V_iload_n hC dX4_follow_89 rfl rfl ?_
      refine V_iconst hC 1 dX4_follow_90 (by decide) ?_
      refine V_iadd hC dX4_follow_91 ?_
      refine V_eqt (nI (i + 1)) (nI_1 _) ?_
      refine V_cvI (n := 1) hC (c_X3_numberAt g (eL E) (z := o + 181) (by omega) hP hpo (i := i + 1) (by omega)) dX4_follow_92 gX4_follow_X3_numberAt rfl rfl rfl ⟨rfl, rfl⟩ (by decide +kernel) (by decide +kernel) (by omega) hp1 rfl (Nat.le_of_ble_eq_true rfl) (by decide) (fun x92 u92 h92 => ?_)
      obtain ⟨rfl, he⟩ := h92
      obtain rfl := he.symm
      refine V_eqt nb hnum ?_
      refine V_f hB.self ?_
      refine V_cvI (n := 2) hC (c_X0_choose g (eL E) (f := f) (c := o + 1) (by omega) hm 0 nb) dX4_follow_95 gX4_follow_X0_choose rfl rfl rfl ⟨rfl, rfl⟩ (by decide +kernel) (by decide +kernel) (by omega) zB_0 rfl (Nat.le_of_ble_eq_true rfl) (by decide) (fun x95 u95 h95 => ?_)
      obtain ⟨rfl, hu⟩ := h95
      obtain ⟨b1, b2⟩ := BIs.at hu
      refine V_iret hC hR dX4_follow_98 ⟨rfl, rfl, _, rfl, ?_⟩
      rw [hq]
      exact ⟨rfl, b1, fun q hq => b2 q (by omega)⟩
  · rw [hlc] at hl
    have hs := sgn_h hl
    have hd1 := tail_d hl
    have hs1 := sgn_h hd1
    have hd3 := tail_d (tail_d hd1)
    have hnum : numL 0 (p.drop (i + 3)) = nb := by
      rw [hd3, hnb, e]
      refine numL_v hn ?_
      rw [e, hlc] at hend
      simp only [Nat.add_comm 3, List.drop_succ_cons] at hend
      exact hend
    have hq : ordQ l m = mTurn (b - 48) nb m := by rw [hnb]; unfold ordQ; rw [e]; rfl
    refine V_aload_n hC dX4_follow_0 rfl rfl ?_
    refine V_get hC 5 dX4_follow_1 (by omega) ho rfl (by decide) inX4_X4_follow (by decide +kernel) rfl ?_
    refine V_iload_n hC dX4_follow_4 rfl rfl ?_
    refine V_cvI (n := 1) hC (c_X3_signAt g (eL E) (z := o + 181) (by omega) hP hpo (i := i) (by omega)) dX4_follow_5 gX4_follow_X3_signAt rfl rfl rfl ⟨rfl, rfl⟩ (by decide +kernel) (by decide +kernel) (by omega) hp1 rfl (Nat.le_of_ble_eq_true rfl) (by decide) (fun x5 u5 h5 => ?_)
    obtain ⟨rfl, he⟩ := h5
    obtain rfl := he.symm
    refine V_eqt 116 hs ?_
    refine V_lookup (off := 91) hC 99 dX4_follow_8 (by decide) (by decide) (by decide) ?_
    refine V_aload_n hC dX4_follow_99 rfl rfl ?_
    refine V_get hC 0 dX4_follow_100 (by omega) ho rfl (by decide) inX4_X4_follow (by decide +kernel) rfl ?_
    refine V_aload_n hC dX4_follow_103 rfl rfl ?_
    refine V_get hC 5 dX4_follow_104 (by omega) ho rfl (by decide) inX4_X4_follow (by decide +kernel) rfl ?_
    refine V_iload_n hC dX4_follow_107 rfl rfl ?_
    refine V_iconst hC 1 dX4_follow_108 (by decide) ?_
    refine V_iadd hC dX4_follow_109 ?_
    refine V_eqt (nI (i + 1)) (nI_1 _) ?_
    refine V_cvI (n := 1) hC (c_X3_signAt g (eL E) (z := o + 181) (by omega) hP hpo (i := i + 1) (by omega)) dX4_follow_110 gX4_follow_X3_signAt rfl rfl rfl ⟨rfl, rfl⟩ (by decide +kernel) (by decide +kernel) (by omega) hp1 rfl (Nat.le_of_ble_eq_true rfl) (by decide) (fun x110 u110 h110 => ?_)
    obtain ⟨rfl, he⟩ := h110
    obtain rfl := he.symm
    refine V_eqt b hs1 ?_
    refine V_bipush hC 48 dX4_follow_113 (by decide) ?_
    refine V_isub hC dX4_follow_115 ?_
    refine V_aload_n hC dX4_follow_116 rfl rfl ?_
    refine V_get hC 5 dX4_follow_117 (by omega) ho rfl (by decide) inX4_X4_follow (by decide +kernel) rfl ?_
    refine V_iload_n hC dX4_follow_120 rfl rfl ?_
    refine V_iconst hC 3 dX4_follow_121 (by decide) ?_
    refine V_iadd hC dX4_follow_122 ?_
    refine V_eqt (nI (i + 3)) (by rw [show (3 : Int32) = nI 3 from rfl, nI_add]) ?_
    refine V_cvI (n := 1) hC (c_X3_numberAt g (eL E) (z := o + 181) (by omega) hP hpo (i := i + 3) (by omega)) dX4_follow_123 gX4_follow_X3_numberAt rfl rfl rfl ⟨rfl, rfl⟩ (by decide +kernel) (by decide +kernel) (by omega) hp1 rfl (Nat.le_of_ble_eq_true rfl) (by decide) (fun x123 u123 h123 => ?_)
    obtain ⟨rfl, he⟩ := h123
    obtain rfl := he.symm
    refine V_eqt nb hnum ?_
    refine V_f hB.self ?_
    refine V_cvI (n := 2) hC (c_X0_turnBox g (eL E) (f := f) (c := o + 1) (by omega) hm (b - 48) nb hlen) dX4_follow_126 gX4_follow_X0_turnBox rfl rfl rfl ⟨rfl, rfl⟩ (by decide +kernel) (by decide +kernel) (by omega) zB_0 rfl (Nat.le_of_ble_eq_true rfl) (by decide) (fun x126 u126 h126 => ?_)
    obtain ⟨rfl, hu⟩ := h126
    obtain ⟨b1, b2⟩ := BIs.at hu
    refine V_iret hC hR dX4_follow_129 ⟨rfl, rfl, _, rfl, ?_⟩
    rw [hq]
    exact ⟨rfl, b1, fun q hq => b2 q (by omega)⟩
theorem inX0_X4_carryOut : ∀ w ∈ wsX00, w ∈ wsX4_carryOut := by decide +kernel
theorem inX1_X4_carryOut : ∀ w ∈ wsX10, w ∈ wsX4_carryOut := by decide +kernel
theorem inX2_X4_carryOut : ∀ w ∈ wsX20, w ∈ wsX4_carryOut := by decide +kernel
theorem inX3_X4_carryOut : ∀ w ∈ wsX30, w ∈ wsX4_carryOut := by decide +kernel
theorem inX4_X4_carryOut : ∀ w ∈ wsX40, w ∈ wsX4_carryOut := by decide +kernel
abbrev rmX4_carryOut : Room := { frames := 6, cells := 0, slots := 0, locals := 150 }
set_option maxHeartbeats 4000000 in
set_option maxRecDepth 100000 in
theorem c_X4_carryOut (g : GE) (lau : Launch) {N : Nat} {ad : Nat → Nat} {f : Nat → va_E} {o : Nat} (hN : o + 183 ≤ N) {S : ST} (hS : CAt g ad o S f) (hpo : padOK S.2.2.2) (hok : ordOK2 (S.2.2.2.length + 1) S.2.2.2 S.1) : Ct g lau yX4_carryOut wsX4_carryOut rmX4_carryOut N ad [.ref (ad o)] f (pI N ad (fun x u => x = (sCarry S).1 ∧ CAt g ad o (sCarry S).2 u ∧ ∀ q, q < o ∨ o + 183 ≤ q → u q = f q)) 0 0 := by
  refine Ct.of (maxL := 3) rfl (by decide +kernel) [some (.ref (ad o)), none, none] (Nat.le_of_ble_eq_true rfl) (by simp [lvo, lv_args, Value.category]) (fun E hnl _ hC hR => ?_)
  have hP := hS.1.pat
  obtain ⟨sg, hp1, hp2, hp3⟩ := id hP
  obtain ⟨p, hpp⟩ : ∃ z, z = S.2.2.2 := ⟨_, rfl⟩
  rw [← hpp] at hP hp1 hp3 hpo hok
  have h60 := hp3.2.1
  obtain ⟨M2, hM2⟩ : ∃ z, z = (ordN (p.length + 1) p S.1).2 := ⟨_, rfl⟩
  obtain ⟨TOT, hTOT⟩ : ∃ z, z = (ordN (p.length + 1) p S.1).1 := ⟨_, rfl⟩
  have hT61 : TOT ≤ 61 := by rw [hTOT]; exact Nat.le_trans (ordN_le _ _ _) (Nat.succ_le_succ h60)
  have main : sFault p = -6 → ∀ F1 : Nat → va_E, YN g ad (o + 33) S.2.1 S.1 F1 → (∀ q, q < o + 33 ∨ o + 147 ≤ q → F1 q = f q) → V E g N ad 0 0 F1 30 [some (.ref (ad o)), some (.int (nI 0)), some (.int (nI 0))] [] := by
    intro h6 F1 hYN hF1
    have hoF : F1 o = .inr (4, [.ref (ad (o + 1)), .ref (ad (o + 17)), .ref (ad (o + 33)), .ref (ad (o + 147)), .ref (ad (o + 180)), .ref (ad (o + 181))]) := (hF1 o (by omega)).trans hS.1.1
    have hPF : PAt g ad (o + 181) p F1 := hP.keep (hF1 _ (by omega)) (hF1 _ (by omega))
    have Ex : ∀ (fw : Nat → va_E) (m : MT) (cnt : Nat) (v2 : Int32), BAt g ad (o + 1) m fw → (∀ q, (q < o + 1 ∨ o + 17 ≤ q) → fw q = F1 q) → m = M2 → cnt = TOT → V E g N ad 0 0 fw 72 [some (.ref (ad o)), some (.int (nI cnt)), some (.int (v2))] [] := by
      intro fw m cnt v2 hbw hfw e1 e2
      subst e1
      subst e2
      have eo : fw o = .inr (4, [.ref (ad (o + 1)), .ref (ad (o + 17)), .ref (ad (o + 33)), .ref (ad (o + 147)), .ref (ad (o + 180)), .ref (ad (o + 181))]) := (hfw o (by omega)).trans hoF
      have hPw : PAt g ad (o + 181) p fw := hPF.keep (hfw _ (by omega)) (hfw _ (by omega))
      obtain ⟨sgw, hq1, hq2, hq3⟩ := id hPw
      refine V_aload_n hC dX4_carryOut_72 rfl rfl ?_
      refine V_get hC 5 dX4_carryOut_73 (by omega) eo rfl (by decide) inX4_X4_carryOut (by decide +kernel) rfl ?_
      refine V_cvI (n := 0) hC (c_X3_empty g (eL E) (z := o + 181) (by omega) hPw) dX4_carryOut_76 gX4_carryOut_X3_empty rfl rfl rfl ⟨rfl, rfl⟩ (by decide +kernel) (by decide +kernel) (by omega) hq1 rfl (Nat.le_of_ble_eq_true rfl) (by decide) (fun x76 u76 h76 => ?_)
      obtain ⟨rfl, k1, k2⟩ := h76
      have eo3 := (k2 o (by omega)).trans eo
      have hH2 := hYN.keep (v := u76) fun q a b => (k2 q (by omega)).trans (hfw q (by omega))
      refine V_pop hC dX4_carryOut_79 rfl ?_
      refine V_aload_n hC dX4_carryOut_80 rfl rfl ?_
      refine V_iload_n hC dX4_carryOut_81 rfl rfl ?_
      refine V_cvI (n := 1) hC (c_X4_recorded g (eL E) (o := o) hN eo3 hH2 _) dX4_carryOut_82 gX4_carryOut_X4_recorded rfl rfl rfl ⟨rfl, rfl⟩ (by decide +kernel) (by decide +kernel) (by omega) eo3 rfl (Nat.le_of_ble_eq_true rfl) (by decide) (fun x82 u82 h82 => ?_)
      obtain ⟨rfl, r1, r2⟩ := h82
      refine V_iret hC hR dX4_carryOut_85 ⟨rfl, rfl, _, rfl, ?_⟩
      rw [if_neg (nI_pos (by omega))] at r1
      have e : sCarry S = (nI cnt, (m, pushH S.2.1 S.1, S.2.2.1, [])) := by unfold sCarry; rw [← hpp, if_pos h6, ← hTOT, ← hM2]
      rw [e]
      have kk : ∀ q, q = o ∨ (o + 17 ≤ q ∧ q < o + 33) ∨ (o + 147 ≤ q ∧ q < o + 181) ∨ q < o ∨ o + 183 ≤ q → u82 q = f q := fun q hq => (r2 q (by omega)).trans ((k2 q (by omega)).trans ((hfw q (by omega)).trans (hF1 q (by omega))))
      exact ⟨rfl, ⟨hS.1.pad (k1.keep (r2 _ (by omega)) (r2 _ (by omega))) fun q hq => kk q (by omega), hbw.keep fun q a b => (r2 q (by omega)).trans (k2 q (by omega)), r1⟩, fun q hq => kk q (by omega)⟩
    have loop : ∀ (f2 : Nat) (l pre : List Int32) (fi : Nat) (m : MT) (cnt : Nat) (fw : Nat → va_E), l.length < f2 → pre ++ l = p → fi + l.length < 2 ^ 31 → faultR f2 fi l = -6 → (pre.length = 0 ∨ sgn p (pre.length - 1) = 59) → ordOK2 f2 l m → BAt g ad (o + 1) m fw → (∀ q, (q < o + 1 ∨ o + 17 ≤ q) → fw q = F1 q) → (ordN f2 l m).2 = M2 → cnt + (ordN f2 l m).1 = TOT → V E g N ad 0 0 fw 30 [some (.ref (ad o)), some (.int (nI cnt)), some (.int (nI pre.length))] [] := by
      intro f2
      induction f2 with
      | zero => intro l pre fi m cnt fw h; omega
      | succ f2 ih =>
        intro l pre fi m cnt fw hlf hpl hfi hfa hst hord hbw hfw hq1s hq2s
        have eo : fw o = .inr (4, [.ref (ad (o + 1)), .ref (ad (o + 17)), .ref (ad (o + 33)), .ref (ad (o + 147)), .ref (ad (o + 180)), .ref (ad (o + 181))]) := (hfw o (by omega)).trans hoF
        have hPw : PAt g ad (o + 181) p fw := hPF.keep (hfw _ (by omega)) (hfw _ (by omega))
        obtain ⟨sgw, hq1, hq2, hq3⟩ := id hPw
        obtain ⟨hr1, hend⟩ := faultR_is hfi hfa
        have hnp := rdOrder_pos hr1
        have hnle := rdOrder_le l
        obtain ⟨ho1, ho2, ho3, ho4⟩ := hord
        have hplen : pre.length + l.length = p.length := by rw [← hpl, List.length_append]
        have hdr : p.drop pre.length = l := by rw [← hpl, List.drop_left]
        have hend2 : l.drop (rdOrder l).2.1 = [] ∨ ∃ r, l.drop (rdOrder l).2.1 = 59 :: r := by
          rcases hend with q | ⟨t, q, -⟩
          · exact Or.inl q
          · exact Or.inr ⟨t, q⟩
        have hns : ∀ a, pre.length < a → a ≤ pre.length + (rdOrder l).2.1 → ¬ (a = 0 ∨ sgn p (a - 1) = 59) := by
          rintro a h1 h2 (q | q)
          · omega
          · have w := sgn_d p pre.length (a - 1 - pre.length)
            rw [hdr, show pre.length + (a - 1 - pre.length) = a - 1 by omega, q] at w
            exact rdOrder_ns hr1 _ (by omega) w
        have skip : ¬ (ordQ l m).1 < 0 → ∀ (j a : Nat) (fw : Nat → va_E), a + j = pre.length + (rdOrder l).2.1 + 1 → pre.length < a → BAt g ad (o + 1) (ordQ l m).2 fw → (∀ q, (q < o + 1 ∨ o + 17 ≤ q) → fw q = F1 q) → V E g N ad 0 0 fw 30 [some (.ref (ad o)), some (.int (nI (cnt + 1))), some (.int (nI a))] [] := by
          intro hge j
          induction j with
          | zero =>
            intro a fw ha ha2 hbw hfw
            rcases hend with hd0 | ⟨t, hdt, hft⟩
            · have hl0 : l.length ≤ (rdOrder l).2.1 := List.drop_eq_nil_iff.mp hd0
              have eo : fw o = .inr (4, [.ref (ad (o + 1)), .ref (ad (o + 17)), .ref (ad (o + 33)), .ref (ad (o + 147)), .ref (ad (o + 180)), .ref (ad (o + 181))]) := (hfw o (by omega)).trans hoF
              have hPw : PAt g ad (o + 181) p fw := hPF.keep (hfw _ (by omega)) (hfw _ (by omega))
              obtain ⟨sgw, hq1, hq2, hq3⟩ := id hPw
              have q1 : ordN (f2 + 1) l m = (1, (ordQ l m).2) := by
                rw [ordN, if_pos hr1, if_neg hge, hd0]
              rw [q1] at hq1s hq2s
              refine V_iload_n hC dX4_carryOut_30 rfl rfl ?_
              refine V_aload_n hC dX4_carryOut_31 rfl rfl ?_
              refine V_get hC 5 dX4_carryOut_32 (by omega) eo rfl (by decide) inX4_X4_carryOut (by decide +kernel) rfl ?_
              refine V_get hC 1 dX4_carryOut_35 (by omega) hq1 rfl (by decide) inX3_X4_carryOut (by decide +kernel) rfl ?_
              refine V_icmp_ge_t hC 72 dX4_carryOut_38 (by decide) (nI_le (by omega) (by omega)) ?_
              exact Ex fw _ (cnt + 1) _ hbw hfw hq1s hq2s
            · have q1 : ordN (f2 + 1) l m = ((ordN f2 t (ordQ l m).2).1 + 1, (ordN f2 t (ordQ l m).2).2) := by
                rw [ordN, if_pos hr1, if_neg hge, hdt]
                simp only [if_true]
              rw [q1] at hq1s hq2s
              have htl : t.length + 1 + (rdOrder l).2.1 = l.length := by have := congrArg List.length hdt; simp only [List.length_drop, List.length_cons] at this; omega
              have hpre : (pre ++ l.take (rdOrder l).2.1 ++ [59]).length = a := by simp only [List.length_append, List.length_take, List.length_singleton]; omega
              rw [← hpre]
              refine ih t (pre ++ l.take (rdOrder l).2.1 ++ [59]) (fi + (rdOrder l).2.1 + 1) _ _ fw (by omega) ?_ (by omega) hft (Or.inr ?_) (ho4 hr1 hge t hdt) hbw hfw hq1s (by simp only at hq2s; omega)
              · rw [List.append_assoc, List.append_assoc, List.singleton_append, ← hdt, List.take_append_drop]
                exact hpl
              · rw [hpre]
                have w := sgn_d p pre.length (rdOrder l).2.1
                rw [hdr] at w
                have w2 := sgn_d l (rdOrder l).2.1 0
                rw [hdt] at w2
                rw [show a - 1 = pre.length + (rdOrder l).2.1 by omega, ← w]
                exact w2.symm
          | succ j ihj =>
            intro a fw ha ha2 hbw hfw
            have eo : fw o = .inr (4, [.ref (ad (o + 1)), .ref (ad (o + 17)), .ref (ad (o + 33)), .ref (ad (o + 147)), .ref (ad (o + 180)), .ref (ad (o + 181))]) := (hfw o (by omega)).trans hoF
            have hPw : PAt g ad (o + 181) p fw := hPF.keep (hfw _ (by omega)) (hfw _ (by omega))
            obtain ⟨sgw, hq1, hq2, hq3⟩ := id hPw
            by_cases hap : a < p.length
            · skip
              refine V_iload_n hC dX4_carryOut_30 rfl rfl ?_
              refine V_aload_n hC dX4_carryOut_31 rfl rfl ?_
              refine V_get hC 5 dX4_carryOut_32 (by omega) eo rfl (by decide) inX4_X4_carryOut (by decide +kernel) rfl ?_
              refine V_get hC 1 dX4_carryOut_35 (by omega) hq1 rfl (by decide) inX3_X4_carryOut (by decide +kernel) rfl ?_
              refine V_icmp_ge_f (tgt := 72) hC dX4_carryOut_38 (by decide) (nI_ge hap (by omega)) ?_
              refine V_aload_n hC dX4_carryOut_41 rfl rfl ?_
              refine V_get hC 5 dX4_carryOut_42 (by omega) eo rfl (by decide) inX4_X4_carryOut (by decide +kernel) rfl ?_
              refine V_iload_n hC dX4_carryOut_45 rfl rfl ?_
              refine V_cvI (n := 1) hC (c_X3_isOrder g (eL E) (z := o + 181) (by omega) hPw hpo (i := a) (by omega)) dX4_carryOut_46 gX4_carryOut_X3_isOrder rfl rfl rfl ⟨rfl, rfl⟩ (by decide +kernel) (by decide +kernel) (by omega) hq1 rfl (Nat.le_of_ble_eq_true rfl) (by decide) (fun x46 u46 h46 => ?_)
              rcases h46 with ⟨rfl, hj, he⟩ | ⟨rfl, hj, he⟩
              · exact absurd hj (hns a ha2 (by omega))
              · obtain rfl := he.symm
                refine V_if_eq_t hC 66 dX4_carryOut_49 (by decide) rfl ?_
                refine V_iinc2 hC (nI (a + 1)) dX4_carryOut_66 (nI_1 a) (by rw [hnl]; decide) rfl ?_
                refine V_goto hC 30 dX4_carryOut_69 (by decide) ?_
                exact ihj (a + 1) fw (by omega) (by omega) hbw hfw
            · have hd0 : l.drop (rdOrder l).2.1 = [] := List.drop_eq_nil_iff.mpr (by omega)
              have q1 : ordN (f2 + 1) l m = (1, (ordQ l m).2) := by
                rw [ordN, if_pos hr1, if_neg hge, hd0]
              rw [q1] at hq1s hq2s
              refine V_iload_n hC dX4_carryOut_30 rfl rfl ?_
              refine V_aload_n hC dX4_carryOut_31 rfl rfl ?_
              refine V_get hC 5 dX4_carryOut_32 (by omega) eo rfl (by decide) inX4_X4_carryOut (by decide +kernel) rfl ?_
              refine V_get hC 1 dX4_carryOut_35 (by omega) hq1 rfl (by decide) inX3_X4_carryOut (by decide +kernel) rfl ?_
              refine V_icmp_ge_t hC 72 dX4_carryOut_38 (by decide) (nI_le (by omega) (by omega)) ?_
              exact Ex fw _ (cnt + 1) _ hbw hfw hq1s hq2s
        refine V_iload_n hC dX4_carryOut_30 rfl rfl ?_
        refine V_aload_n hC dX4_carryOut_31 rfl rfl ?_
        refine V_get hC 5 dX4_carryOut_32 (by omega) eo rfl (by decide) inX4_X4_carryOut (by decide +kernel) rfl ?_
        refine V_get hC 1 dX4_carryOut_35 (by omega) hq1 rfl (by decide) inX3_X4_carryOut (by decide +kernel) rfl ?_
        refine V_icmp_ge_f (tgt := 72) hC dX4_carryOut_38 (by decide) (nI_ge (by omega) (by omega)) ?_
        refine V_aload_n hC dX4_carryOut_41 rfl rfl ?_
        refine V_get hC 5 dX4_carryOut_42 (by omega) eo rfl (by decide) inX4_X4_carryOut (by decide +kernel) rfl ?_
        refine V_iload_n hC dX4_carryOut_45 rfl rfl ?_
        refine V_cvI (n := 1) hC (c_X3_isOrder g (eL E) (z := o + 181) (by omega) hPw hpo (i := pre.length) (by omega)) dX4_carryOut_46 gX4_carryOut_X3_isOrder rfl rfl rfl ⟨rfl, rfl⟩ (by decide +kernel) (by decide +kernel) (by omega) hq1 rfl (Nat.le_of_ble_eq_true rfl) (by decide) (fun x46 u46 h46 => ?_)
        rcases h46 with ⟨rfl, hj, he⟩ | ⟨rfl, hj, he⟩
        · obtain rfl := he.symm
          refine V_if_eq_f (tgt := 66) hC dX4_carryOut_49 (by decide) (by decide) ?_
          refine V_aload_n hC dX4_carryOut_52 rfl rfl ?_
          refine V_iload_n hC dX4_carryOut_53 rfl rfl ?_
          refine V_cvI (n := 1) hC (c_X4_follow g (eL E) (o := o) hN eo hPw hpo hbw (i := pre.length) (by omega) hdr hr1 hend2 ho1 ho2 ho3) dX4_carryOut_54 gX4_carryOut_X4_follow rfl rfl rfl ⟨rfl, rfl⟩ (by decide +kernel) (by decide +kernel) (by omega) eo rfl (Nat.le_of_ble_eq_true rfl) (by decide) (fun x54 u54 h54 => ?_)
          obtain ⟨rfl, k1, k2⟩ := h54
          refine V_if_ge hC 63 dX4_carryOut_57 (by decide) (fun c57 => ?_) (fun c57 => ?_)
          · have hge : ¬ (ordQ l m).1 < 0 := Int32.not_lt.mpr c57
            refine V_iinc1 hC (nI (cnt + 1)) dX4_carryOut_63 (nI_1 cnt) (by rw [hnl]; decide) rfl ?_
            refine V_iinc2 hC (nI (pre.length + 1)) dX4_carryOut_66 (nI_1 _) (by rw [hnl]; decide) rfl ?_
            refine V_goto hC 30 dX4_carryOut_69 (by decide) ?_
            exact skip hge (rdOrder l).2.1 (pre.length + 1) u54 (by omega) (by omega) k1 fun q hq => (k2 q hq).trans (hfw q hq)
          · have hlt : (ordQ l m).1 < 0 := Int32.not_le.mp c57
            refine V_goto hC 72 dX4_carryOut_60 (by decide) ?_
            have q1 : ordN (f2 + 1) l m = (0, (ordQ l m).2) := by
              rw [ordN, if_pos hr1, if_pos hlt]
            rw [q1] at hq1s hq2s
            exact Ex u54 _ cnt _ k1 (fun q hq => (k2 q hq).trans (hfw q hq)) hq1s (by simpa using hq2s)
        · exact absurd hst hj
    exact loop (p.length + 1) p [] 0 S.1 0 F1 (Nat.lt_succ_self _) rfl (by omega) h6 (Or.inl rfl) hok (hS.2.1.keep fun q a b => hF1 q (by omega)) (fun q hq => rfl) hM2.symm (by rw [hTOT, Nat.zero_add])
  have hYo : ∃ fs, f (o + 33) = .inr (2, fs) := by obtain ⟨ol, -, -, hY, -⟩ := hS.2.2; exact ⟨_, hY.1⟩
  obtain ⟨fs, hYo⟩ := hYo
  refine V_aload_n hC dX4_carryOut_0 rfl rfl ?_
  refine V_get hC 5 dX4_carryOut_1 (by omega) hS.1.1 rfl (by decide) inX4_X4_carryOut (by decide +kernel) rfl ?_
  refine V_cvI (n := 0) hC (c_X3_firstFault g (eL E) (z := o + 181) (by omega) hP) dX4_carryOut_4 gX4_carryOut_X3_firstFault rfl rfl rfl ⟨rfl, rfl⟩ (by decide +kernel) (by decide +kernel) (by omega) hp1 rfl (Nat.le_of_ble_eq_true rfl) (by decide) (fun x4 u4 h4 => ?_)
  obtain ⟨rfl, he⟩ := h4
  obtain rfl := he.symm
  refine V_eqt (sFault p) (autoF_s _) ?_
  refine V_bipush hC (-6) dX4_carryOut_7 (by decide) ?_
  refine V_icmp_eq hC 15 dX4_carryOut_9 (by decide) (fun c9 => ?_) (fun c9 => ?_)
  · refine V_aload_n hC dX4_carryOut_15 rfl rfl ?_
    refine V_get hC 2 dX4_carryOut_16 (by omega) hS.1.1 rfl (by decide) inX4_X4_carryOut (by decide +kernel) rfl ?_
    refine V_aload_n hC dX4_carryOut_19 rfl rfl ?_
    refine V_get hC 0 dX4_carryOut_20 (by omega) hS.1.1 rfl (by decide) inX4_X4_carryOut (by decide +kernel) rfl ?_
    refine V_cvV (n := 1) hC (c_X2_note g (eL E) (y := o + 33) (by omega) hS.2.2 (c := o + 1) (by omega) (by omega) hS.2.1) dX4_carryOut_23 gX4_carryOut_X2_note rfl rfl rfl ⟨rfl, rfl⟩ (by decide +kernel) (by decide +kernel) (by omega) hYo rfl (Nat.le_of_ble_eq_true rfl) (by decide) (fun u23 h23 => ?_)
    obtain ⟨n1, n2⟩ := h23
    refine V_iconst hC 0 dX4_carryOut_26 (by decide) ?_
    refine V_istore_n1 hC dX4_carryOut_27 rfl (by rw [hnl]; decide) rfl ?_
    refine V_iconst hC 0 dX4_carryOut_28 (by decide) ?_
    refine V_istore_n2 hC dX4_carryOut_29 rfl (by rw [hnl]; decide) rfl ?_
    exact main c9 u23 n1 fun q hq => n2 q (by omega)
  · refine V_bipush hC (-3) dX4_carryOut_12 (by decide) ?_
    refine V_iret hC hR dX4_carryOut_14 ⟨rfl, rfl, _, rfl, ?_⟩
    have e : sCarry S = (-3, S) := by unfold sCarry; rw [← hpp, if_neg c9]
    rw [e]
    exact ⟨rfl, hS, fun q hq => rfl⟩
