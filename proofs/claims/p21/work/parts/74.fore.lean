theorem inX0_L_isForeseen : ∀ w ∈ wsX00, w ∈ wsL_isForeseen := by decide +kernel
theorem inX1_L_isForeseen : ∀ w ∈ wsX10, w ∈ wsL_isForeseen := by decide +kernel
theorem inX2_L_isForeseen : ∀ w ∈ wsX20, w ∈ wsL_isForeseen := by decide +kernel
theorem inX4_L_isForeseen : ∀ w ∈ wsX40, w ∈ wsL_isForeseen := by decide +kernel
abbrev rmL_isForeseen : Room := { frames := 6, cells := 0, slots := 0, locals := 155 }
set_option maxHeartbeats 4000000 in
set_option maxRecDepth 100000 in
theorem c_L_isForeseen (g : GE) (lau : Launch) {N : Nat} {ad : Nat → Nat} {f : Nat → va_E} (hN : 183 ≤ N) {S : ST} (hS : CAt g ad 0 S f) {K : Int} (hG : goodS K S) (hK2 : K ≤ 2000) {c : Nat → Nat} (hc : cntC c S.1) (h10 : c 10 ≤ 100) (h8 : (S.1.1 8).toInt ≤ 10000) (hl6 : S.2.1.length ≤ 6) {a b : Nat} (ha : 1 ≤ a) (ha2 : a ≤ 30) (hb : 1 ≤ b) (hb2 : b ≤ 30) : Ct g lau yL_isForeseen wsL_isForeseen rmL_isForeseen N ad [.ref (ad 0), .int (nI a), .int (nI b)] f (pI N ad (fun x u => x = 1)) 0 0 := by
  refine Ct.of (maxL := 9) rfl (by decide +kernel) [some (.ref (ad 0)), some (.int (nI a)), some (.int (nI b)), none, none, none, none, none, none] (Nat.le_of_ble_eq_true rfl) (by simp [lvo, lv_args, Value.category]) (fun E hnl _ hC hR => ?_)
  have hM : goodM K S.1 := hG.1.1
  obtain ⟨p, q, p2, q2, r, l1, l2, l3, l4, e1, e2, e3, e4, e5, e6, e7, e8, e9⟩ := fore hM hK2 hc h10 h8 ha ha2 hb hb2
  have hpass : (sChange (mPass (nI a) S.1) S).1 = nI r := by
    show (mPass (nI a) S.1).1 = nI r
    rw [e6]
  have hst : (sChange (mPass (nI a) S.1) S).2 = (mTicks a S.1, pushH S.2.1 S.1, S.2.2) := by
    unfold sChange
    rw [e6]
    show (mTicks a S.1, (if nI r < 0 then S.2.1 else pushH S.2.1 S.1), S.2.2) = _
    rw [if_neg (nI_pos (by omega))]
  have hG2 : goodS K (sChange (mPass (nI a) S.1) S).2 := hG.pass (by omega) _
  have hu := undo_ok hst hl6
  generalize eS2 : (sChange (mPass (nI a) S.1) S).2 = S2 at hst hG2 hu
  have m1 : S2.1 = mTicks a S.1 := by rw [hst]
  have hM2 : goodM K S2.1 := hG2.1.1
  rw [← m1] at e7 e8 e9
  refine V_aload_n hC dL_isForeseen_0 rfl rfl ?_
  refine V_iload_n hC dL_isForeseen_1 rfl rfl ?_
  refine V_iload_n hC dL_isForeseen_2 rfl rfl ?_
  refine V_iadd hC dL_isForeseen_3 ?_
  refine V_eqt (nI (a + b)) (nI_add _ _) ?_
  refine V_iconst hC 0 dL_isForeseen_4 (by decide) ?_
  refine V_cvI (n := 2) hC (c_X4_ifPass g (eL E) (o := 0) (by omega) hS (nI (a + b)) (0) (fun n hn => hG.1.ok (by omega) n hn) hM.2.2.2.1) dL_isForeseen_5 gL_isForeseen_X4_ifPass rfl rfl rfl ⟨rfl, rfl⟩ (by decide +kernel) (by decide +kernel) (by omega) hS.1.1 rfl (Nat.le_of_ble_eq_true rfl) (by decide) (fun x5 u5 h5 => ?_)
  obtain ⟨rfl, s1, -⟩ := h5
  rw [e1]
  refine V_istore_n3 hC dL_isForeseen_8 rfl (by rw [hnl]; decide) rfl ?_
  refine V_aload_n hC dL_isForeseen_9 rfl rfl ?_
  refine V_iload_n hC dL_isForeseen_10 rfl rfl ?_
  refine V_iload_n hC dL_isForeseen_11 rfl rfl ?_
  refine V_iadd hC dL_isForeseen_12 ?_
  refine V_eqt (nI (a + b)) (nI_add _ _) ?_
  refine V_iconst hC 3 dL_isForeseen_13 (by decide) ?_
  refine V_cvI (n := 2) hC (c_X4_ifPass g (eL E) (o := 0) (by omega) s1 (nI (a + b)) (3) (fun n hn => hG.1.ok (by omega) n hn) hM.2.2.2.1) dL_isForeseen_14 gL_isForeseen_X4_ifPass rfl rfl rfl ⟨rfl, rfl⟩ (by decide +kernel) (by decide +kernel) (by omega) s1.1.1 rfl (Nat.le_of_ble_eq_true rfl) (by decide) (fun x14 u14 h14 => ?_)
  obtain ⟨rfl, s2, -⟩ := h14
  rw [e2]
  refine V_istore4 hC dL_isForeseen_17 (by rw [hnl]; decide) rfl ?_
  refine V_aload_n hC dL_isForeseen_19 rfl rfl ?_
  refine V_iload_n hC dL_isForeseen_20 rfl rfl ?_
  refine V_iload_n hC dL_isForeseen_21 rfl rfl ?_
  refine V_iadd hC dL_isForeseen_22 ?_
  refine V_eqt (nI (a + b)) (nI_add _ _) ?_
  refine V_bipush hC 6 dL_isForeseen_23 (by decide) ?_
  refine V_cvI (n := 2) hC (c_X4_ifPass g (eL E) (o := 0) (by omega) s2 (nI (a + b)) (6) (fun n hn => hG.1.ok (by omega) n hn) hM.2.2.2.1) dL_isForeseen_25 gL_isForeseen_X4_ifPass rfl rfl rfl ⟨rfl, rfl⟩ (by decide +kernel) (by decide +kernel) (by omega) s2.1.1 rfl (Nat.le_of_ble_eq_true rfl) (by decide) (fun x25 u25 h25 => ?_)
  obtain ⟨rfl, s3, -⟩ := h25
  refine V_istore5 hC dL_isForeseen_28 (by rw [hnl]; decide) rfl ?_
  refine V_aload_n hC dL_isForeseen_30 rfl rfl ?_
  refine V_iload_n hC dL_isForeseen_31 rfl rfl ?_
  refine V_iconst hC 0 dL_isForeseen_32 (by decide) ?_
  refine V_cvI (n := 2) hC (c_X4_ifPass g (eL E) (o := 0) (by omega) s3 (nI a) (0) (fun n hn => hG.1.ok (by omega) n hn) hM.2.2.2.1) dL_isForeseen_33 gL_isForeseen_X4_ifPass rfl rfl rfl ⟨rfl, rfl⟩ (by decide +kernel) (by decide +kernel) (by omega) s3.1.1 rfl (Nat.le_of_ble_eq_true rfl) (by decide) (fun x33 u33 h33 => ?_)
  obtain ⟨rfl, s4, -⟩ := h33
  rw [e3]
  refine V_istore6 hC dL_isForeseen_36 (by rw [hnl]; decide) rfl ?_
  refine V_aload_n hC dL_isForeseen_38 rfl rfl ?_
  refine V_iload_n hC dL_isForeseen_39 rfl rfl ?_
  refine V_iconst hC 3 dL_isForeseen_40 (by decide) ?_
  refine V_cvI (n := 2) hC (c_X4_ifPass g (eL E) (o := 0) (by omega) s4 (nI a) (3) (fun n hn => hG.1.ok (by omega) n hn) hM.2.2.2.1) dL_isForeseen_41 gL_isForeseen_X4_ifPass rfl rfl rfl ⟨rfl, rfl⟩ (by decide +kernel) (by decide +kernel) (by omega) s4.1.1 rfl (Nat.le_of_ble_eq_true rfl) (by decide) (fun x41 u41 h41 => ?_)
  obtain ⟨rfl, s5, -⟩ := h41
  rw [e4]
  refine V_istore7 hC dL_isForeseen_44 (by rw [hnl]; decide) rfl ?_
  refine V_iload_n hC dL_isForeseen_46 rfl rfl ?_
  refine V_iload hC dL_isForeseen_47 rfl ?_
  refine V_icmp_lt_f (tgt := 84) hC dL_isForeseen_49 (by decide) (Int32.not_lt.mpr (nI_le (by omega) (by omega))) ?_
  refine V_iload hC dL_isForeseen_52 rfl ?_
  refine V_iload hC dL_isForeseen_54 rfl ?_
  refine V_icmp_lt_f (tgt := 84) hC dL_isForeseen_56 (by decide) (Int32.not_lt.mpr (nI_le (by omega) (by omega))) ?_
  refine V_aload_n hC dL_isForeseen_59 rfl rfl ?_
  refine V_iload_n hC dL_isForeseen_60 rfl rfl ?_
  refine V_iconst hC 1 dL_isForeseen_61 (by decide) ?_
  refine V_cvI (n := 2) hC (c_X4_bestGuess g (eL E) (o := 0) (by omega) s5 (nI a) 1 (hG.1.all (by omega)) hM.2.2.2.1) dL_isForeseen_62 gL_isForeseen_X4_bestGuess rfl rfl rfl ⟨rfl, rfl⟩ (by decide +kernel) (by decide +kernel) (by omega) s5.1.1 rfl (Nat.le_of_ble_eq_true rfl) (by decide) (fun x62 u62 h62 => ?_)
  obtain ⟨rfl, s6, -⟩ := h62
  refine V_iload hC dL_isForeseen_65 rfl ?_
  refine V_icmp_lt_f (tgt := 84) hC dL_isForeseen_67 (by decide) (Int32.not_lt.mpr e5) ?_
  refine V_aload_n hC dL_isForeseen_70 rfl rfl ?_
  refine V_iload_n hC dL_isForeseen_71 rfl rfl ?_
  refine V_cvI (n := 1) hC (c_X4_pass g (eL E) (o := 0) (by omega) s6 (nI a) (fun n hn => hG.1.ok (by omega) n hn) hM.2.2.2.1) dL_isForeseen_72 gL_isForeseen_X4_pass rfl rfl rfl ⟨rfl, rfl⟩ (by decide +kernel) (by decide +kernel) (by omega) s6.1.1 rfl (Nat.le_of_ble_eq_true rfl) (by decide) (fun x72 u72 h72 => ?_)
  obtain ⟨rfl, s7, -⟩ := h72
  rw [hpass]
  rw [eS2] at s7
  refine V_iload hC dL_isForeseen_75 rfl ?_
  refine V_icmp_lt_f (tgt := 84) hC dL_isForeseen_77 (by decide) (Int32.not_lt.mpr (nI_le l3 (by omega))) ?_
  refine V_iconst hC 1 dL_isForeseen_80 (by decide) ?_
  refine V_goto hC 85 dL_isForeseen_81 (by decide) ?_
  refine V_istore8 hC dL_isForeseen_85 (by rw [hnl]; decide) rfl ?_
  refine V_iload hC dL_isForeseen_87 rfl ?_
  refine V_if_eq_f (tgt := 142) hC dL_isForeseen_89 (by decide) (by decide) ?_
  refine V_aload_n hC dL_isForeseen_92 rfl rfl ?_
  refine V_iload_n hC dL_isForeseen_93 rfl rfl ?_
  refine V_iconst hC 0 dL_isForeseen_94 (by decide) ?_
  refine V_cvI (n := 2) hC (c_X4_ifPass g (eL E) (o := 0) (by omega) s7 (nI b) (0) (fun n hn => hG2.1.ok (by omega) n hn) hM2.2.2.2.1) dL_isForeseen_95 gL_isForeseen_X4_ifPass rfl rfl rfl ⟨rfl, rfl⟩ (by decide +kernel) (by decide +kernel) (by omega) s7.1.1 rfl (Nat.le_of_ble_eq_true rfl) (by decide) (fun x95 u95 h95 => ?_)
  obtain ⟨rfl, s8, -⟩ := h95
  rw [e7]
  refine V_iload_n hC dL_isForeseen_98 rfl rfl ?_
  refine V_iload hC dL_isForeseen_99 rfl ?_
  refine V_isub hC dL_isForeseen_101 ?_
  refine V_icmp_ne_f (tgt := 142) hC dL_isForeseen_102 (by decide) (by rw [pk_sub (by omega)]; congr 1; omega) ?_
  refine V_aload_n hC dL_isForeseen_105 rfl rfl ?_
  refine V_iload_n hC dL_isForeseen_106 rfl rfl ?_
  refine V_iconst hC 3 dL_isForeseen_107 (by decide) ?_
  refine V_cvI (n := 2) hC (c_X4_ifPass g (eL E) (o := 0) (by omega) s8 (nI b) (3) (fun n hn => hG2.1.ok (by omega) n hn) hM2.2.2.2.1) dL_isForeseen_108 gL_isForeseen_X4_ifPass rfl rfl rfl ⟨rfl, rfl⟩ (by decide +kernel) (by decide +kernel) (by omega) s8.1.1 rfl (Nat.le_of_ble_eq_true rfl) (by decide) (fun x108 u108 h108 => ?_)
  obtain ⟨rfl, s9, -⟩ := h108
  rw [e8]
  refine V_iload hC dL_isForeseen_111 rfl ?_
  refine V_iload hC dL_isForeseen_113 rfl ?_
  refine V_isub hC dL_isForeseen_115 ?_
  refine V_icmp_ne_f (tgt := 142) hC dL_isForeseen_116 (by decide) (by rw [pk_sub (by omega)]; congr 1; omega) ?_
  refine V_aload_n hC dL_isForeseen_119 rfl rfl ?_
  refine V_iload_n hC dL_isForeseen_120 rfl rfl ?_
  refine V_bipush hC 6 dL_isForeseen_121 (by decide) ?_
  refine V_cvI (n := 2) hC (c_X4_ifPass g (eL E) (o := 0) (by omega) s9 (nI b) (6) (fun n hn => hG2.1.ok (by omega) n hn) hM2.2.2.2.1) dL_isForeseen_123 gL_isForeseen_X4_ifPass rfl rfl rfl ⟨rfl, rfl⟩ (by decide +kernel) (by decide +kernel) (by omega) s9.1.1 rfl (Nat.le_of_ble_eq_true rfl) (by decide) (fun x123 u123 h123 => ?_)
  obtain ⟨rfl, s10, -⟩ := h123
  rw [e9]
  refine V_iload hC dL_isForeseen_126 rfl ?_
  refine V_icmp_ne_f (tgt := 142) hC dL_isForeseen_128 (by decide) rfl ?_
  refine V_aload_n hC dL_isForeseen_131 rfl rfl ?_
  refine V_cvI (n := 0) hC (c_X4_undo g (eL E) (o := 0) (by omega) s10) dL_isForeseen_132 gL_isForeseen_X4_undo rfl rfl rfl ⟨rfl, rfl⟩ (by decide +kernel) (by decide +kernel) (by omega) s10.1.1 rfl (Nat.le_of_ble_eq_true rfl) (by decide) (fun x132 u132 h132 => ?_)
  obtain ⟨rfl, s11, -⟩ := h132
  refine V_if_lt_f (tgt := 142) hC dL_isForeseen_135 (by decide) hu ?_
  refine V_iconst hC 1 dL_isForeseen_138 (by decide) ?_
  refine V_goto hC 143 dL_isForeseen_139 (by decide) ?_
  refine V_zret hC hR rfl dL_isForeseen_143 ⟨rfl, rfl, _, rfl, ?_⟩
  exact rfl
