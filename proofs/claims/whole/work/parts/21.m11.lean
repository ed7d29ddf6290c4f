theorem rdO_bad {c : Int32} {t : List Int32} (h1 : ¬ c = 116) (h2 : ¬ c = 98) (h3 : ¬ c = 119) (h4 : ¬ c = 115) : rdOrder (c :: t) = (false, 0, c, 0, 0) := by
  unfold rdOrder
  simp only [h1, h2, h3, h4, or_self, if_false]
theorem rdO_n {c : Int32} {t : List Int32} (h1 : ¬ c = 116) (h2 : c = 98 ∨ c = 119 ∨ c = 115) : rdOrder (c :: t) = ((rdNum t).1, 1 + (rdNum t).2.1, c, 0, (rdNum t).2.2) := by
  unfold rdOrder
  simp only [h1, h2, if_false, if_true]
theorem rdO_t1 {t : List Int32} (h : hereB t 48 55 = false) : rdOrder (116 :: t) = (false, 1, 116, 0, 0) := by
  unfold rdOrder
  simp only [if_true]
  cases t with
  | nil => rfl
  | cons b t2 => simp only [h, Bool.false_eq_true, if_false]
theorem rdO_t2 {b : Int32} {t : List Int32} (h : hereB (b :: t) 48 55 = true) (h2 : hereB t 61 61 = false) : rdOrder (116 :: b :: t) = (false, 2, 116, b - 48, 0) := by
  unfold rdOrder
  simp only [if_true, h]
  cases t with
  | nil => rfl
  | cons e t3 =>
    have he : ¬ e = 61 := by
      rintro rfl
      simp [hereB] at h2
    simp only [he, if_false]
theorem rdO_t3 {b : Int32} {t : List Int32} (h : hereB (b :: 61 :: t) 48 55 = true) : rdOrder (116 :: b :: 61 :: t) = ((rdNum t).1, 3 + (rdNum t).2.1, 116, b - 48, (rdNum t).2.2) := by
  unfold rdOrder
  simp only [if_true, h]
theorem inX5_X5_readsOrder : ∀ w ∈ wsX50, w ∈ wsX5_readsOrder := by decide +kernel
abbrev rmX5_readsOrder : Room := { frames := 3, cells := 0, slots := 0, locals := 69 }
set_option maxHeartbeats 4000000 in
set_option maxRecDepth 100000 in
theorem c_X5_readsOrder (g : GE) (lau : Launch) {N : Nat} {ad : Nat → Nat} {f : Nat → va_E} {o : Nat} {a kp hs : Nat → Int32} {hl : Int32} {so sv pd : Nat → Int32} {pn od wb nb : Int32} (hN : o + 7 ≤ N) {pre l : List Int32} (hq : rPad pd pn (pre ++ l)) : Ct g lau yX5_readsOrder wsX5_readsOrder rmX5_readsOrder N ad [.ref (ad o)] (zM g ad f o a kp hs hl so sv pd pn (nI pre.length) od wb nb) (pI N ad (fun x u => (x = 1 ∧ (rdOrder l).1 = true ∧ ∃ wb2, u = (zM g ad f o a kp hs hl so sv pd pn (nI (pre.length + (rdOrder l).2.1)) ((rdOrder l).2.2.1 ) wb2 ((rdOrder l).2.2.2.2 )) ∧ ((rdOrder l).2.2.1 = 116 → wb2 = (rdOrder l).2.2.2.1)) ∨ (x = 0 ∧ (rdOrder l).1 = false ∧ ∃ od2 wb2, u = (zM g ad f o a kp hs hl so sv pd pn (nI (pre.length + (rdOrder l).2.1)) od2 wb2 nb)))) 0 0 := by
  refine Ct.of (maxL := 1) rfl (by decide +kernel) [some (.ref (ad o))] (Nat.le_of_ble_eq_true rfl) (by simp [lvo, lv_args, Value.category]) (fun E hnl _ hC hR => ?_)
  cases l with
  | nil =>
    have h1 := hq.ge
    refine V_aload_n hC dX5_readsOrder_0 rfl rfl ?_
    refine V_aload_n hC dX5_readsOrder_1 rfl rfl ?_
    refine V_zM_spot hC hN dX5_readsOrder_2 inX5_X5_readsOrder (by decide +kernel) ?_
    refine V_aload_n hC dX5_readsOrder_5 rfl rfl ?_
    refine V_zM_padLong hC hN dX5_readsOrder_6 inX5_X5_readsOrder (by decide +kernel) ?_
    refine V_icmp_ge_t hC 24 dX5_readsOrder_9 (by decide) h1 ?_
    refine V_iconst hC 0 dX5_readsOrder_24 (by decide) ?_
    refine V_zM_put_order hC hN dX5_readsOrder_25 inX5_X5_readsOrder (by decide +kernel) ?_
    refine V_aload_n hC dX5_readsOrder_28 rfl rfl ?_
    refine V_zM_order hC hN dX5_readsOrder_29 inX5_X5_readsOrder (by decide +kernel) ?_
    refine V_bipush hC 98 dX5_readsOrder_32 (by decide) ?_
    refine V_icmp_eq_f (tgt := 66) hC dX5_readsOrder_34 (by decide) (by decide) ?_
    refine V_aload_n hC dX5_readsOrder_37 rfl rfl ?_
    refine V_zM_order hC hN dX5_readsOrder_38 inX5_X5_readsOrder (by decide +kernel) ?_
    refine V_bipush hC 119 dX5_readsOrder_41 (by decide) ?_
    refine V_icmp_eq_f (tgt := 66) hC dX5_readsOrder_43 (by decide) (by decide) ?_
    refine V_aload_n hC dX5_readsOrder_46 rfl rfl ?_
    refine V_zM_order hC hN dX5_readsOrder_47 inX5_X5_readsOrder (by decide +kernel) ?_
    refine V_bipush hC 115 dX5_readsOrder_50 (by decide) ?_
    refine V_icmp_eq_f (tgt := 66) hC dX5_readsOrder_52 (by decide) (by decide) ?_
    refine V_aload_n hC dX5_readsOrder_55 rfl rfl ?_
    refine V_zM_order hC hN dX5_readsOrder_56 inX5_X5_readsOrder (by decide +kernel) ?_
    refine V_bipush hC 116 dX5_readsOrder_59 (by decide) ?_
    refine V_icmp_eq_f (tgt := 66) hC dX5_readsOrder_61 (by decide) (by decide) ?_
    refine V_iconst hC 0 dX5_readsOrder_64 (by decide) ?_
    refine V_zret hC hR rfl dX5_readsOrder_65 ⟨rfl, rfl, _, rfl, ?_⟩
    exact Or.inr ⟨rfl, rfl, 0, wb, rfl⟩
  | cons c t =>
    obtain ⟨h1, h2, h3⟩ := hq.lt
    refine V_aload_n hC dX5_readsOrder_0 rfl rfl ?_
    refine V_aload_n hC dX5_readsOrder_1 rfl rfl ?_
    refine V_zM_spot hC hN dX5_readsOrder_2 inX5_X5_readsOrder (by decide +kernel) ?_
    refine V_aload_n hC dX5_readsOrder_5 rfl rfl ?_
    refine V_zM_padLong hC hN dX5_readsOrder_6 inX5_X5_readsOrder (by decide +kernel) ?_
    refine V_icmp_ge_f (tgt := 24) hC dX5_readsOrder_9 (by decide) h1 ?_
    refine V_aload_n hC dX5_readsOrder_12 rfl rfl ?_
    refine V_zM_pad hC hN dX5_readsOrder_13 inX5_X5_readsOrder (by decide +kernel) ?_
    refine V_aload_n hC dX5_readsOrder_16 rfl rfl ?_
    refine V_zM_spot hC hN dX5_readsOrder_17 inX5_X5_readsOrder (by decide +kernel) ?_
    refine V_zM_ld6 hC hN dX5_readsOrder_20 (ix_nI (j := pre.length) h2 (by decide)) ?_
    refine V_eqt (c) h3 ?_
    refine V_goto hC 25 dX5_readsOrder_21 (by decide) ?_
    refine V_zM_put_order hC hN dX5_readsOrder_25 inX5_X5_readsOrder (by decide +kernel) ?_
    refine V_aload_n hC dX5_readsOrder_28 rfl rfl ?_
    refine V_zM_order hC hN dX5_readsOrder_29 inX5_X5_readsOrder (by decide +kernel) ?_
    refine V_bipush hC 98 dX5_readsOrder_32 (by decide) ?_
    refine V_icmp_eq hC 66 dX5_readsOrder_34 (by decide) (fun c34 => ?_) (fun c34 => ?_)
    · have h116 : ¬ c = 116 := by rw [c34]; decide
      have hz := rdO_n (c := c) (t := t) h116 (by rw [c34]; decide)
      refine V_aload_n hC dX5_readsOrder_66 rfl rfl ?_
      refine V_dup hC dX5_readsOrder_67 rfl ?_
      refine V_zM_spot hC hN dX5_readsOrder_68 inX5_X5_readsOrder (by decide +kernel) ?_
      refine V_iconst hC 1 dX5_readsOrder_71 (by decide) ?_
      refine V_iadd hC dX5_readsOrder_72 ?_
      refine V_eqt (nI (pre ++ [c]).length) len1.symm ?_
      refine V_zM_put_spot hC hN dX5_readsOrder_73 inX5_X5_readsOrder (by decide +kernel) ?_
      refine V_aload_n hC dX5_readsOrder_76 rfl rfl ?_
      refine V_zM_order hC hN dX5_readsOrder_77 inX5_X5_readsOrder (by decide +kernel) ?_
      refine V_bipush hC 116 dX5_readsOrder_80 (by decide) ?_
      refine V_icmp_ne_t hC 135 dX5_readsOrder_82 (by decide) h116 ?_
      refine V_aload_n hC dX5_readsOrder_135 rfl rfl ?_
      refine V_cvI (n := 0) hC (c_X5_readsNumber g (eL E) hN hq.step) dX5_readsOrder_136 gX5_readsOrder_X5_readsNumber rfl rfl rfl ⟨rfl, rfl⟩ (by decide +kernel) (by decide +kernel) (by omega) zM_0 rfl (Nat.le_of_ble_eq_true rfl) (by decide) (fun x136 u136 h136 => ?_)
      rcases h136 with ⟨rfl, hj, rfl⟩ | ⟨rfl, hj, hj0, rfl⟩
      · refine V_zret hC hR rfl dX5_readsOrder_139 ⟨rfl, rfl, _, rfl, ?_⟩
        first | (exact Or.inl ⟨rfl, by rw [hz]; exact hj, wb, by rw [hz]; simp [Nat.add_assoc], fun q => by rw [hz] at q; exact absurd q h116⟩) | (exact Or.inr ⟨rfl, by rw [hz]; exact hj, c, wb, by rw [hz]; simp [hj0]⟩)
      · refine V_zret hC hR rfl dX5_readsOrder_139 ⟨rfl, rfl, _, rfl, ?_⟩
        first | (exact Or.inl ⟨rfl, by rw [hz]; exact hj, wb, by rw [hz]; simp [Nat.add_assoc], fun q => by rw [hz] at q; exact absurd q h116⟩) | (exact Or.inr ⟨rfl, by rw [hz]; exact hj, c, wb, by rw [hz]; simp [hj0]⟩)
    · refine V_aload_n hC dX5_readsOrder_37 rfl rfl ?_
      refine V_zM_order hC hN dX5_readsOrder_38 inX5_X5_readsOrder (by decide +kernel) ?_
      refine V_bipush hC 119 dX5_readsOrder_41 (by decide) ?_
      refine V_icmp_eq hC 66 dX5_readsOrder_43 (by decide) (fun c43 => ?_) (fun c43 => ?_)
      · have h116 : ¬ c = 116 := by rw [c43]; decide
        have hz := rdO_n (c := c) (t := t) h116 (by rw [c43]; decide)
        refine V_aload_n hC dX5_readsOrder_66 rfl rfl ?_
        refine V_dup hC dX5_readsOrder_67 rfl ?_
        refine V_zM_spot hC hN dX5_readsOrder_68 inX5_X5_readsOrder (by decide +kernel) ?_
        refine V_iconst hC 1 dX5_readsOrder_71 (by decide) ?_
        refine V_iadd hC dX5_readsOrder_72 ?_
        refine V_eqt (nI (pre ++ [c]).length) len1.symm ?_
        refine V_zM_put_spot hC hN dX5_readsOrder_73 inX5_X5_readsOrder (by decide +kernel) ?_
        refine V_aload_n hC dX5_readsOrder_76 rfl rfl ?_
        refine V_zM_order hC hN dX5_readsOrder_77 inX5_X5_readsOrder (by decide +kernel) ?_
        refine V_bipush hC 116 dX5_readsOrder_80 (by decide) ?_
        refine V_icmp_ne_t hC 135 dX5_readsOrder_82 (by decide) h116 ?_
        refine V_aload_n hC dX5_readsOrder_135 rfl rfl ?_
        refine V_cvI (n := 0) hC (c_X5_readsNumber g (eL E) hN hq.step) dX5_readsOrder_136 gX5_readsOrder_X5_readsNumber rfl rfl rfl ⟨rfl, rfl⟩ (by decide +kernel) (by decide +kernel) (by omega) zM_0 rfl (Nat.le_of_ble_eq_true rfl) (by decide) (fun x136 u136 h136 => ?_)
        rcases h136 with ⟨rfl, hj, rfl⟩ | ⟨rfl, hj, hj0, rfl⟩
        · refine V_zret hC hR rfl dX5_readsOrder_139 ⟨rfl, rfl, _, rfl, ?_⟩
          first | (exact Or.inl ⟨rfl, by rw [hz]; exact hj, wb, by rw [hz]; simp [Nat.add_assoc], fun q => by rw [hz] at q; exact absurd q h116⟩) | (exact Or.inr ⟨rfl, by rw [hz]; exact hj, c, wb, by rw [hz]; simp [hj0]⟩)
        · refine V_zret hC hR rfl dX5_readsOrder_139 ⟨rfl, rfl, _, rfl, ?_⟩
          first | (exact Or.inl ⟨rfl, by rw [hz]; exact hj, wb, by rw [hz]; simp [Nat.add_assoc], fun q => by rw [hz] at q; exact absurd q h116⟩) | (exact Or.inr ⟨rfl, by rw [hz]; exact hj, c, wb, by rw [hz]; simp [hj0]⟩)
      · refine V_aload_n hC dX5_readsOrder_46 rfl rfl ?_
        refine V_zM_order hC hN dX5_readsOrder_47 inX5_X5_readsOrder (by decide +kernel) ?_
        refine V_bipush hC 115 dX5_readsOrder_50 (by decide) ?_
        refine V_icmp_eq hC 66 dX5_readsOrder_52 (by decide) (fun c52 => ?_) (fun c52 => ?_)
        · have h116 : ¬ c = 116 := by rw [c52]; decide
          have hz := rdO_n (c := c) (t := t) h116 (by rw [c52]; decide)
          refine V_aload_n hC dX5_readsOrder_66 rfl rfl ?_
          refine V_dup hC dX5_readsOrder_67 rfl ?_
          refine V_zM_spot hC hN dX5_readsOrder_68 inX5_X5_readsOrder (by decide +kernel) ?_
          refine V_iconst hC 1 dX5_readsOrder_71 (by decide) ?_
          refine V_iadd hC dX5_readsOrder_72 ?_
          refine V_eqt (nI (pre ++ [c]).length) len1.symm ?_
          refine V_zM_put_spot hC hN dX5_readsOrder_73 inX5_X5_readsOrder (by decide +kernel) ?_
          refine V_aload_n hC dX5_readsOrder_76 rfl rfl ?_
          refine V_zM_order hC hN dX5_readsOrder_77 inX5_X5_readsOrder (by decide +kernel) ?_
          refine V_bipush hC 116 dX5_readsOrder_80 (by decide) ?_
          refine V_icmp_ne_t hC 135 dX5_readsOrder_82 (by decide) h116 ?_
          refine V_aload_n hC dX5_readsOrder_135 rfl rfl ?_
          refine V_cvI (n := 0) hC (c_X5_readsNumber g (eL E) hN hq.step) dX5_readsOrder_136 gX5_readsOrder_X5_readsNumber rfl rfl rfl ⟨rfl, rfl⟩ (by decide +kernel) (by decide +kernel) (by omega) zM_0 rfl (Nat.le_of_ble_eq_true rfl) (by decide) (fun x136 u136 h136 => ?_)
          rcases h136 with ⟨rfl, hj, rfl⟩ | ⟨rfl, hj, hj0, rfl⟩
          · refine V_zret hC hR rfl dX5_readsOrder_139 ⟨rfl, rfl, _, rfl, ?_⟩
            first | (exact Or.inl ⟨rfl, by rw [hz]; exact hj, wb, by rw [hz]; simp [Nat.add_assoc], fun q => by rw [hz] at q; exact absurd q h116⟩) | (exact Or.inr ⟨rfl, by rw [hz]; exact hj, c, wb, by rw [hz]; simp [hj0]⟩)
          · refine V_zret hC hR rfl dX5_readsOrder_139 ⟨rfl, rfl, _, rfl, ?_⟩
            first | (exact Or.inl ⟨rfl, by rw [hz]; exact hj, wb, by rw [hz]; simp [Nat.add_assoc], fun q => by rw [hz] at q; exact absurd q h116⟩) | (exact Or.inr ⟨rfl, by rw [hz]; exact hj, c, wb, by rw [hz]; simp [hj0]⟩)
        · refine V_aload_n hC dX5_readsOrder_55 rfl rfl ?_
          refine V_zM_order hC hN dX5_readsOrder_56 inX5_X5_readsOrder (by decide +kernel) ?_
          refine V_bipush hC 116 dX5_readsOrder_59 (by decide) ?_
          refine V_icmp_eq hC 66 dX5_readsOrder_61 (by decide) (fun c61 => ?_) (fun c61 => ?_)
          · refine V_aload_n hC dX5_readsOrder_66 rfl rfl ?_
            refine V_dup hC dX5_readsOrder_67 rfl ?_
            refine V_zM_spot hC hN dX5_readsOrder_68 inX5_X5_readsOrder (by decide +kernel) ?_
            refine V_iconst hC 1 dX5_readsOrder_71 (by decide) ?_
            refine V_iadd hC dX5_readsOrder_72 ?_
            refine V_eqt (nI (pre ++ [c]).length) len1.symm ?_
            refine V_zM_put_spot hC hN dX5_readsOrder_73 inX5_X5_readsOrder (by decide +kernel) ?_
            refine V_aload_n hC dX5_readsOrder_76 rfl rfl ?_
            refine V_zM_order hC hN dX5_readsOrder_77 inX5_X5_readsOrder (by decide +kernel) ?_
            refine V_bipush hC 116 dX5_readsOrder_80 (by decide) ?_
            refine V_icmp_ne_f (tgt := 135) hC dX5_readsOrder_82 (by decide) c61 ?_
            refine V_aload_n hC dX5_readsOrder_85 rfl rfl ?_
            refine V_bipush hC 48 dX5_readsOrder_86 (by decide) ?_
            refine V_bipush hC 55 dX5_readsOrder_88 (by decide) ?_
            refine V_cvI (n := 2) hC (c_X5_isHere g (eL E) hN hq.step 48 55) dX5_readsOrder_90 gX5_readsOrder_X5_isHere rfl rfl rfl ⟨rfl, rfl⟩ (by decide +kernel) (by decide +kernel) (by omega) zM_0 rfl (Nat.le_of_ble_eq_true rfl) (by decide) (fun x90 u90 h90 => ?_)
            rcases h90 with ⟨rfl, hk, rfl⟩ | ⟨rfl, hk, rfl⟩
            · obtain ⟨b, t2, rfl, -, -⟩ := hereB_i hk
              obtain ⟨-, h4, h5⟩ := hq.step.lt
              refine V_if_ne_t hC 98 dX5_readsOrder_93 (by decide) (by decide) ?_
              refine V_aload_n hC dX5_readsOrder_98 rfl rfl ?_
              refine V_aload_n hC dX5_readsOrder_99 rfl rfl ?_
              refine V_zM_pad hC hN dX5_readsOrder_100 inX5_X5_readsOrder (by decide +kernel) ?_
              refine V_aload_n hC dX5_readsOrder_103 rfl rfl ?_
              refine V_zM_spot hC hN dX5_readsOrder_104 inX5_X5_readsOrder (by decide +kernel) ?_
              refine V_zM_ld6 hC hN dX5_readsOrder_107 (ix_nI (j := (pre ++ [c]).length) h4 (by decide)) ?_
              refine V_bipush hC 48 dX5_readsOrder_108 (by decide) ?_
              refine V_isub hC dX5_readsOrder_110 ?_
              refine V_eqt (b - 48) (by rw [h5]) ?_
              refine V_zM_put_whichBox hC hN dX5_readsOrder_111 inX5_X5_readsOrder (by decide +kernel) ?_
              refine V_aload_n hC dX5_readsOrder_114 rfl rfl ?_
              refine V_dup hC dX5_readsOrder_115 rfl ?_
              refine V_zM_spot hC hN dX5_readsOrder_116 inX5_X5_readsOrder (by decide +kernel) ?_
              refine V_iconst hC 1 dX5_readsOrder_119 (by decide) ?_
              refine V_iadd hC dX5_readsOrder_120 ?_
              refine V_eqt (nI ((pre ++ [c]) ++ [b]).length) len1.symm ?_
              refine V_zM_put_spot hC hN dX5_readsOrder_121 inX5_X5_readsOrder (by decide +kernel) ?_
              refine V_aload_n hC dX5_readsOrder_124 rfl rfl ?_
              refine V_bipush hC 61 dX5_readsOrder_125 (by decide) ?_
              refine V_cvI (n := 1) hC (c_X5_takes g (eL E) hN hq.step.step 61) dX5_readsOrder_127 gX5_readsOrder_X5_takes rfl rfl rfl ⟨rfl, rfl⟩ (by decide +kernel) (by decide +kernel) (by omega) zM_0 rfl (Nat.le_of_ble_eq_true rfl) (by decide) (fun x127 u127 h127 => ?_)
              rcases h127 with ⟨rfl, ⟨t3, rfl⟩, rfl⟩ | ⟨rfl, hk2, rfl⟩
              · have hz := (congrArg (fun z => rdOrder (z :: b :: 61 :: t3)) c61).trans (rdO_t3 hk)
                refine V_f (by rw [nI_succ, ← len1 (c := 61)]) ?_
                refine V_if_ne_t hC 135 dX5_readsOrder_130 (by decide) (by decide) ?_
                refine V_aload_n hC dX5_readsOrder_135 rfl rfl ?_
                refine V_cvI (n := 0) hC (c_X5_readsNumber g (eL E) hN hq.step.step.step) dX5_readsOrder_136 gX5_readsOrder_X5_readsNumber rfl rfl rfl ⟨rfl, rfl⟩ (by decide +kernel) (by decide +kernel) (by omega) zM_0 rfl (Nat.le_of_ble_eq_true rfl) (by decide) (fun x136 u136 h136 => ?_)
                rcases h136 with ⟨rfl, hj, rfl⟩ | ⟨rfl, hj, hj0, rfl⟩
                · refine V_zret hC hR rfl dX5_readsOrder_139 ⟨rfl, rfl, _, rfl, ?_⟩
                  first | (exact Or.inl ⟨rfl, by rw [hz]; exact hj, b - 48, by rw [hz]; simp [c61, Nat.add_assoc, Nat.add_left_comm, Nat.add_comm], fun q => by rw [hz]⟩) | (exact Or.inr ⟨rfl, by rw [hz]; exact hj, c, b - 48, by rw [hz]; simp [hj0, Nat.add_assoc]⟩)
                · refine V_zret hC hR rfl dX5_readsOrder_139 ⟨rfl, rfl, _, rfl, ?_⟩
                  first | (exact Or.inl ⟨rfl, by rw [hz]; exact hj, b - 48, by rw [hz]; simp [c61, Nat.add_assoc, Nat.add_left_comm, Nat.add_comm], fun q => by rw [hz]⟩) | (exact Or.inr ⟨rfl, by rw [hz]; exact hj, c, b - 48, by rw [hz]; simp [hj0, Nat.add_assoc]⟩)
              · have hz := (congrArg (fun z => rdOrder (z :: b :: t2)) c61).trans (rdO_t2 hk hk2)
                refine V_if_ne_f (tgt := 135) hC dX5_readsOrder_130 (by decide) rfl ?_
                refine V_iconst hC 0 dX5_readsOrder_133 (by decide) ?_
                refine V_zret hC hR rfl dX5_readsOrder_134 ⟨rfl, rfl, _, rfl, ?_⟩
                exact Or.inr ⟨rfl, by rw [hz], c, b - 48, by rw [hz]; simp [Nat.add_assoc]⟩
            · refine V_if_ne_f (tgt := 98) hC dX5_readsOrder_93 (by decide) rfl ?_
              refine V_iconst hC 0 dX5_readsOrder_96 (by decide) ?_
              refine V_zret hC hR rfl dX5_readsOrder_97 ⟨rfl, rfl, _, rfl, ?_⟩
              have hz := (congrArg (fun z => rdOrder (z :: t)) c61).trans (rdO_t1 hk)
              exact Or.inr ⟨rfl, by rw [hz], c, wb, by rw [hz]; simp⟩
          · refine V_iconst hC 0 dX5_readsOrder_64 (by decide) ?_
            refine V_zret hC hR rfl dX5_readsOrder_65 ⟨rfl, rfl, _, rfl, ?_⟩
            have hz := rdO_bad (t := t) c61 c34 c43 c52
            exact Or.inr ⟨rfl, by rw [hz], c, wb, by rw [hz]; rfl⟩
theorem inX5_X5_doOrder : ∀ w ∈ wsX50, w ∈ wsX5_doOrder := by decide +kernel
abbrev rmX5_doOrder : Room := { frames := 8, cells := 0, slots := 0, locals := 174 }
set_option maxHeartbeats 4000000 in
set_option maxRecDepth 100000 in
theorem c_X5_doOrder (g : GE) (lau : Launch) {N : Nat} {ad : Nat → Nat} {f : Nat → va_E} {o : Nat} {a kp hs : Nat → Int32} {hl : Int32} {so sv pd : Nat → Int32} {pn sp od wb nb : Int32} (hN : o + 7 ≤ N) {m : MT} (hm : RepR a m) (hok : ∀ n, n ≤ 99 → TicksOK n m) : Ct g lau yX5_doOrder wsX5_doOrder rmX5_doOrder N ad [.ref (ad o)] (zM g ad f o a kp hs hl so sv pd pn sp od wb nb) (pI N ad (fun x u => x = (doOrd od wb nb m).1 ∧ ∃ a2, u = (zM g ad f o a2 kp hs hl so sv pd pn sp od wb nb) ∧ RepR a2 (doOrd od wb nb m).2)) 0 0 := by
  refine Ct.of (maxL := 1) rfl (by decide +kernel) [some (.ref (ad o))] (Nat.le_of_ble_eq_true rfl) (by simp [lvo, lv_args, Value.category]) (fun E hnl _ hC hR => ?_)
  refine V_aload_n hC dX5_doOrder_0 rfl rfl ?_
  refine V_zM_order hC hN dX5_doOrder_1 inX5_X5_doOrder (by decide +kernel) ?_
  refine V_bipush hC 98 dX5_doOrder_4 (by decide) ?_
  refine V_icmp_ne hC 20 dX5_doOrder_6 (by decide) (fun c6 => ?_) (fun c6 => ?_)
  · refine V_aload_n hC dX5_doOrder_20 rfl rfl ?_
    refine V_zM_order hC hN dX5_doOrder_21 inX5_X5_doOrder (by decide +kernel) ?_
    refine V_bipush hC 119 dX5_doOrder_24 (by decide) ?_
    refine V_icmp_ne hC 40 dX5_doOrder_26 (by decide) (fun c26 => ?_) (fun c26 => ?_)
    · refine V_aload_n hC dX5_doOrder_40 rfl rfl ?_
      refine V_zM_order hC hN dX5_doOrder_41 inX5_X5_doOrder (by decide +kernel) ?_
      refine V_bipush hC 115 dX5_doOrder_44 (by decide) ?_
      refine V_icmp_ne hC 61 dX5_doOrder_46 (by decide) (fun c46 => ?_) (fun c46 => ?_)
      · refine V_aload_n hC dX5_doOrder_61 rfl rfl ?_
        refine V_aload_n hC dX5_doOrder_62 rfl rfl ?_
        refine V_zM_whichBox hC hN dX5_doOrder_63 inX5_X5_doOrder (by decide +kernel) ?_
        refine V_aload_n hC dX5_doOrder_66 rfl rfl ?_
        refine V_zM_number hC hN dX5_doOrder_67 inX5_X5_doOrder (by decide +kernel) ?_
        refine V_cvI (n := 2) hC (c_X5_doTurn g (eL E) hN hm wb nb) dX5_doOrder_70 gX5_doOrder_X5_doTurn rfl rfl rfl ⟨rfl, rfl⟩ (by decide +kernel) (by decide +kernel) (by omega) zM_0 rfl (Nat.le_of_ble_eq_true rfl) (by decide) (fun x70 u70 h70 => ?_)
        obtain ⟨rfl, a2, rfl, hm2⟩ := h70
        refine V_iret hC hR dX5_doOrder_73 ⟨rfl, rfl, _, rfl, ?_⟩
        first | (rw [doOrd, if_pos c6]; exact ⟨rfl, a2, rfl, hm2⟩) | (rw [doOrd, if_neg c6, if_pos c26]; exact ⟨rfl, a2, rfl, hm2⟩) | (rw [doOrd, if_neg c6, if_neg c26, if_pos c46]; exact ⟨rfl, a2, rfl, hm2⟩) | (rw [doOrd, if_neg c6, if_neg c26, if_neg c46]; exact ⟨rfl, a2, rfl, hm2⟩)
      · refine V_aload_n hC dX5_doOrder_49 rfl rfl ?_
        refine V_iconst hC 0 dX5_doOrder_50 (by decide) ?_
        refine V_aload_n hC dX5_doOrder_51 rfl rfl ?_
        refine V_zM_number hC hN dX5_doOrder_52 inX5_X5_doOrder (by decide +kernel) ?_
        refine V_cvI (n := 2) hC (c_X5_doSet g (eL E) hN hm 0 nb) dX5_doOrder_55 gX5_doOrder_X5_doSet rfl rfl rfl ⟨rfl, rfl⟩ (by decide +kernel) (by decide +kernel) (by omega) zM_0 rfl (Nat.le_of_ble_eq_true rfl) (by decide) (fun x55 u55 h55 => ?_)
        obtain ⟨rfl, a2, rfl, hm2⟩ := h55
        refine V_goto hC 73 dX5_doOrder_58 (by decide) ?_
        refine V_iret hC hR dX5_doOrder_73 ⟨rfl, rfl, _, rfl, ?_⟩
        first | (rw [doOrd, if_pos c6]; exact ⟨rfl, a2, rfl, hm2⟩) | (rw [doOrd, if_neg c6, if_pos c26]; exact ⟨rfl, a2, rfl, hm2⟩) | (rw [doOrd, if_neg c6, if_neg c26, if_pos c46]; exact ⟨rfl, a2, rfl, hm2⟩) | (rw [doOrd, if_neg c6, if_neg c26, if_neg c46]; exact ⟨rfl, a2, rfl, hm2⟩)
    · refine V_aload_n hC dX5_doOrder_29 rfl rfl ?_
      refine V_aload_n hC dX5_doOrder_30 rfl rfl ?_
      refine V_zM_number hC hN dX5_doOrder_31 inX5_X5_doOrder (by decide +kernel) ?_
      refine V_cvI (n := 1) hC (c_X5_doPass g (eL E) hN hm nb hok) dX5_doOrder_34 gX5_doOrder_X5_doPass rfl rfl rfl ⟨rfl, rfl⟩ (by decide +kernel) (by decide +kernel) (by omega) zM_0 rfl (Nat.le_of_ble_eq_true rfl) (by decide) (fun x34 u34 h34 => ?_)
      obtain ⟨rfl, a2, rfl, hm2⟩ := h34
      refine V_goto hC 73 dX5_doOrder_37 (by decide) ?_
      refine V_iret hC hR dX5_doOrder_73 ⟨rfl, rfl, _, rfl, ?_⟩
      first | (rw [doOrd, if_pos c6]; exact ⟨rfl, a2, rfl, hm2⟩) | (rw [doOrd, if_neg c6, if_pos c26]; exact ⟨rfl, a2, rfl, hm2⟩) | (rw [doOrd, if_neg c6, if_neg c26, if_pos c46]; exact ⟨rfl, a2, rfl, hm2⟩) | (rw [doOrd, if_neg c6, if_neg c26, if_neg c46]; exact ⟨rfl, a2, rfl, hm2⟩)
  · refine V_aload_n hC dX5_doOrder_9 rfl rfl ?_
    refine V_aload_n hC dX5_doOrder_10 rfl rfl ?_
    refine V_zM_number hC hN dX5_doOrder_11 inX5_X5_doOrder (by decide +kernel) ?_
    refine V_cvI (n := 1) hC (c_X5_doArrive g (eL E) hN hm nb) dX5_doOrder_14 gX5_doOrder_X5_doArrive rfl rfl rfl ⟨rfl, rfl⟩ (by decide +kernel) (by decide +kernel) (by omega) zM_0 rfl (Nat.le_of_ble_eq_true rfl) (by decide) (fun x14 u14 h14 => ?_)
    obtain ⟨rfl, a2, rfl, hm2⟩ := h14
    refine V_goto hC 73 dX5_doOrder_17 (by decide) ?_
    refine V_iret hC hR dX5_doOrder_73 ⟨rfl, rfl, _, rfl, ?_⟩
    first | (rw [doOrd, if_pos c6]; exact ⟨rfl, a2, rfl, hm2⟩) | (rw [doOrd, if_neg c6, if_pos c26]; exact ⟨rfl, a2, rfl, hm2⟩) | (rw [doOrd, if_neg c6, if_neg c26, if_pos c46]; exact ⟨rfl, a2, rfl, hm2⟩) | (rw [doOrd, if_neg c6, if_neg c26, if_neg c46]; exact ⟨rfl, a2, rfl, hm2⟩)
theorem inX5_X5_fault : ∀ w ∈ wsX50, w ∈ wsX5_fault := by decide +kernel
abbrev rmX5_fault : Room := { frames := 4, cells := 0, slots := 0, locals := 89 }
set_option maxHeartbeats 4000000 in
set_option maxRecDepth 100000 in
theorem c_X5_fault (g : GE) (lau : Launch) {N : Nat} {ad : Nat → Nat} {f : Nat → va_E} {o : Nat} {a kp hs : Nat → Int32} {hl : Int32} {so sv pd : Nat → Int32} {pn sp od wb nb : Int32} (hN : o + 7 ≤ N) {p : List Int32} (hp : rPad pd pn p) : Ct g lau yX5_fault wsX5_fault rmX5_fault N ad [.ref (ad o)] (zM g ad f o a kp hs hl so sv pd pn sp od wb nb) (pI N ad (fun x u => x = sFault p ∧ ∃ sp2 od2 wb2 nb2, u = (zM g ad f o a kp hs hl so sv pd pn sp2 od2 wb2 nb2))) 0 0 := by
  refine Ct.of (maxL := 2) rfl (by decide +kernel) [some (.ref (ad o)), none] (Nat.le_of_ble_eq_true rfl) (by simp [lvo, lv_args, Value.category]) (fun E hnl _ hC hR => ?_)
  have loop : ∀ (f2 : Nat) (pre l : List Int32) (od wb nb : Int32), l.length < f2 → rPad pd pn (pre ++ l) → faultR f2 pre.length l = sFault p → V E g N ad 0 0 (zM g ad f o a kp hs hl so sv pd pn (nI pre.length) od wb nb) 7 [some (.ref (ad o)), some (.int (1))] [] := by
    intro f2
    induction f2 with
    | zero =>
      intro pre l od wb nb hl
      exact absurd hl (Nat.not_lt_zero _)
    | succ f2 ih =>
      intro pre l od wb nb hl hq he
      refine V_iload_n hC dX5_fault_7 rfl rfl ?_
      refine V_if_eq_f (tgt := 33) hC dX5_fault_8 (by decide) (by decide) ?_
      refine V_aload_n hC dX5_fault_11 rfl rfl ?_
      refine V_cvI (n := 0) hC (c_X5_readsOrder g (eL E) hN hq) dX5_fault_12 gX5_fault_X5_readsOrder rfl rfl rfl ⟨rfl, rfl⟩ (by decide +kernel) (by decide +kernel) (by omega) zM_0 rfl (Nat.le_of_ble_eq_true rfl) (by decide) (fun x12 u12 h12 => ?_)
      rcases h12 with ⟨rfl, hj, wb2, rfl, hwb⟩ | ⟨rfl, hj, od2, wb2, rfl⟩
      · have el := lenT (pre := pre) (rdOrder_le l)
        rw [← el]
        refine V_if_ne_t hC 23 dX5_fault_15 (by decide) (by decide) ?_
        refine V_aload_n hC dX5_fault_23 rfl rfl ?_
        refine V_bipush hC 59 dX5_fault_24 (by decide) ?_
        refine V_cvI (n := 1) hC (c_X5_takes g (eL E) hN (hq.drop (rdOrder l).2.1) 59) dX5_fault_26 gX5_fault_X5_takes rfl rfl rfl ⟨rfl, rfl⟩ (by decide +kernel) (by decide +kernel) (by omega) zM_0 rfl (Nat.le_of_ble_eq_true rfl) (by decide) (fun x26 u26 h26 => ?_)
        rcases h26 with ⟨rfl, ⟨t, ht⟩, rfl⟩ | ⟨rfl, hk, rfl⟩
        · refine V_istore_n1 hC dX5_fault_29 rfl (by rw [hnl]; decide) rfl ?_
          refine V_goto hC 7 dX5_fault_30 (by decide) ?_
          have hz : l.drop (rdOrder l).2.1 = 59 :: t := ht
          have he2 : faultR f2 (pre.length + (rdOrder l).2.1 + 1) t = sFault p := by rw [← he, faultR, hj, if_pos rfl, hz]; simp
          have hl2 : t.length < f2 := by have h7 := congrArg List.length hz; rw [List.length_drop, List.length_cons] at h7; have := rdOrder_pos hj; omega
          have e3 : (pre ++ l.take (rdOrder l).2.1 ++ [59]).length = pre.length + (rdOrder l).2.1 + 1 := by rw [List.length_append, el]; rfl
          have := ih (pre ++ l.take (rdOrder l).2.1 ++ [59]) t (rdOrder l).2.2.1 wb2 (rdOrder l).2.2.2.2 hl2 (by have := hq.drop (rdOrder l).2.1; rw [hz] at this; exact this.step) (by rw [e3]; exact he2)
          rw [e3] at this
          rw [el]
          exact this
        · refine V_istore_n1 hC dX5_fault_29 rfl (by rw [hnl]; decide) rfl ?_
          refine V_goto hC 7 dX5_fault_30 (by decide) ?_
          --go
          refine V_iload_n hC dX5_fault_7 rfl rfl ?_
          refine V_if_eq_t hC 33 dX5_fault_8 (by decide) rfl ?_
          refine V_aload_n hC dX5_fault_33 rfl rfl ?_
          refine V_zM_spot hC hN dX5_fault_34 inX5_X5_fault (by decide +kernel) ?_
          refine V_aload_n hC dX5_fault_37 rfl rfl ?_
          refine V_zM_padLong hC hN dX5_fault_38 inX5_X5_fault (by decide +kernel) ?_
          refine V_icmp_ne hC 49 dX5_fault_41 (by decide) (fun c41 => ?_) (fun c41 => ?_)
          · refine V_aload_n hC dX5_fault_49 rfl rfl ?_
            refine V_zM_spot hC hN dX5_fault_50 inX5_X5_fault (by decide +kernel) ?_
            refine V_iret hC hR dX5_fault_53 ⟨rfl, rfl, _, rfl, ?_⟩
            refine ⟨?_, _, _, _, _, rfl⟩
            rw [← he, faultR, hj, if_pos rfl]
            first
              | (have hd : l.drop (rdOrder l).2.1 = [] := (by have h7 := c41; rw [hq.1, el] at h7; have h8 := (nI_eq (by have := hq.2.1; rw [List.length_append] at this; have := rdOrder_le l; omega) (by have := hq.2.1; omega)).mp h7; rw [List.length_append] at h8; exact List.drop_eq_nil_of_le (by omega)); rw [hd]; done)
              | (have hd : ∃ c t, l.drop (rdOrder l).2.1 = c :: t ∧ ¬ c = 59 := (by cases hd : l.drop (rdOrder l).2.1 with | nil => exfalso; apply c41; rw [hq.1, el, List.length_append]; have h8 := List.drop_eq_nil_iff.mp hd; have := rdOrder_le l; rw [Nat.le_antisymm h8 this] | cons c t => exact ⟨c, t, rfl, fun q => by rw [hd, q] at hk; simp [hereB] at hk⟩); obtain ⟨c, t, hd, hc⟩ := hd; rw [hd, el]; simp only [hc, if_false]; done)
          · refine V_bipush hC (-6) dX5_fault_44 (by decide) ?_
            refine V_goto hC 53 dX5_fault_46 (by decide) ?_
            refine V_iret hC hR dX5_fault_53 ⟨rfl, rfl, _, rfl, ?_⟩
            refine ⟨?_, _, _, _, _, rfl⟩
            rw [← he, faultR, hj, if_pos rfl]
            first
              | (have hd : l.drop (rdOrder l).2.1 = [] := (by have h7 := c41; rw [hq.1, el] at h7; have h8 := (nI_eq (by have := hq.2.1; rw [List.length_append] at this; have := rdOrder_le l; omega) (by have := hq.2.1; omega)).mp h7; rw [List.length_append] at h8; exact List.drop_eq_nil_of_le (by omega)); rw [hd]; done)
              | (have hd : ∃ c t, l.drop (rdOrder l).2.1 = c :: t ∧ ¬ c = 59 := (by cases hd : l.drop (rdOrder l).2.1 with | nil => exfalso; apply c41; rw [hq.1, el, List.length_append]; have h8 := List.drop_eq_nil_iff.mp hd; have := rdOrder_le l; rw [Nat.le_antisymm h8 this] | cons c t => exact ⟨c, t, rfl, fun q => by rw [hd, q] at hk; simp [hereB] at hk⟩); obtain ⟨c, t, hd, hc⟩ := hd; rw [hd, el]; simp only [hc, if_false]; done)
      · refine V_if_ne_f (tgt := 23) hC dX5_fault_15 (by decide) rfl ?_
        refine V_aload_n hC dX5_fault_18 rfl rfl ?_
        refine V_zM_spot hC hN dX5_fault_19 inX5_X5_fault (by decide +kernel) ?_
        refine V_iret hC hR dX5_fault_22 ⟨rfl, rfl, _, rfl, ?_⟩
        refine ⟨?_, _, _, _, _, rfl⟩
        rw [← he, faultR, hj, if_neg (by decide)]
  refine V_aload_n hC dX5_fault_0 rfl rfl ?_
  refine V_iconst hC 0 dX5_fault_1 (by decide) ?_
  refine V_zM_put_spot hC hN dX5_fault_2 inX5_X5_fault (by decide +kernel) ?_
  refine V_iconst hC 1 dX5_fault_5 (by decide) ?_
  refine V_istore_n1 hC dX5_fault_6 rfl (by rw [hnl]; decide) rfl ?_
  exact loop (p.length + 1) [] p od wb nb (Nat.lt_succ_self _) hp rfl
