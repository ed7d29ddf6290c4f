theorem bestN_s (n : Nat) (m : MT) (k : Nat) : bestN n m (k + 1) = if (bestN n m k).2 < brg n 11 (withH m 2 (nI k)) then (nI k, brg n 11 (withH m 2 (nI k))) else bestN n m k := rfl
theorem mBest_t {v w : Int32} {m : MT} (h : okT v = false) : mBest v w m = -2 := by rw [mBest, h]; rfl
theorem mBest_0 {n : Nat} {m : MT} (hn : n ≤ 99) (h : okT (nI n) = true) : mBest (nI n) 0 m = (bestN n m 6).1 := by
  rw [mBest, h, nI_clamp (by omega)]
  rfl
theorem mBest_1 {n : Nat} {m : MT} (hn : n ≤ 99) (h : okT (nI n) = true) : mBest (nI n) 1 m = (bestN n m 6).2 := by
  rw [mBest, h, nI_clamp (by omega)]
  rfl
theorem inX0_X4_bestGuess : ∀ w ∈ wsX00, w ∈ wsX4_bestGuess := by decide +kernel
theorem inX1_X4_bestGuess : ∀ w ∈ wsX10, w ∈ wsX4_bestGuess := by decide +kernel
theorem inX4_X4_bestGuess : ∀ w ∈ wsX40, w ∈ wsX4_bestGuess := by decide +kernel
abbrev rmX4_bestGuess : Room := { frames := 5, cells := 0, slots := 0, locals := 129 }
set_option maxHeartbeats 4000000 in
set_option maxRecDepth 100000 in
theorem c_X4_bestGuess (g : GE) (lau : Launch) {N : Nat} {ad : Nat → Nat} {f : Nat → va_E} {o : Nat} (hN : o + 183 ≤ N) {S : ST} (hS : CAt g ad o S f) (v w : Int32) (hok : AllOK S.1) (hmk : MarkOK S.1) : Ct g lau yX4_bestGuess wsX4_bestGuess rmX4_bestGuess N ad [.ref (ad o), .int (v), .int (w)] f (pI N ad (fun x u => x = mBest v w S.1 ∧ CAt g ad o S u ∧ ∀ q, q < o ∨ o + 183 ≤ q → u q = f q)) 0 0 := by
  refine Ct.of (maxL := 7) rfl (by decide +kernel) [some (.ref (ad o)), some (.int (v)), some (.int (w)), none, none, none, none] (Nat.le_of_ble_eq_true rfl) (by simp [lvo, lv_args, Value.category]) (fun E hnl _ hC hR => ?_)
  obtain ⟨f0, hf0⟩ : ∃ z, z = f := ⟨_, rfl⟩
  have loop : okT v = true → (w = 0 ∨ w = 1) → ∀ n : Nat, n ≤ 99 → v = nI n → ∀ (j k : Nat) (f : Nat → va_E) (w6 : Option Value), k + j = 6 → CAt g ad o S f → (∀ q, q < o ∨ o + 183 ≤ q → f q = f0 q) → V E g N ad 0 0 f 27 [some (.ref (ad o)), some (.int (v)), some (.int (w)), some (.int ((bestN n S.1 k).1)), some (.int ((bestN n S.1 k).2)), some (.int (nI k)), w6] [] := by
    rintro hT hw n hn rfl j
    induction j with
    | zero =>
      intro k f w6 hk hS he
      have hk : k = 6 := by omega
      subst hk
      refine V_iload hC dX4_bestGuess_27 rfl ?_
      refine V_iconst hC 5 dX4_bestGuess_29 (by decide) ?_
      refine V_icmp_gt_t hC 62 dX4_bestGuess_30 (by decide) (by decide) ?_
      refine V_iload_n hC dX4_bestGuess_62 rfl rfl ?_
      refine V_if_ne hC 70 dX4_bestGuess_63 (by decide) (fun c63 => ?_) (fun c63 => ?_)
      · refine V_iload hC dX4_bestGuess_70 rfl ?_
        refine V_iret hC hR dX4_bestGuess_72 ⟨rfl, rfl, _, rfl, ?_⟩
        first | (rcases hw with rfl | rfl; exact absurd rfl c63; exact ⟨(mBest_1 hn hT).symm, hS, hf0 ▸ he⟩) | (subst c63; exact ⟨(mBest_0 hn hT).symm, hS, hf0 ▸ he⟩)
      · refine V_iload_n hC dX4_bestGuess_66 rfl rfl ?_
        refine V_goto hC 72 dX4_bestGuess_67 (by decide) ?_
        refine V_iret hC hR dX4_bestGuess_72 ⟨rfl, rfl, _, rfl, ?_⟩
        first | (rcases hw with rfl | rfl; exact absurd rfl c63; exact ⟨(mBest_1 hn hT).symm, hS, hf0 ▸ he⟩) | (subst c63; exact ⟨(mBest_0 hn hT).symm, hS, hf0 ▸ he⟩)
    | succ j ih =>
      intro k f w6 hk hS he
      refine V_iload hC dX4_bestGuess_27 rfl ?_
      refine V_iconst hC 5 dX4_bestGuess_29 (by decide) ?_
      refine V_icmp_gt_f (tgt := 62) hC dX4_bestGuess_30 (by decide) (by have : ¬ nI 5 < nI k := fun q => absurd ((nI_ltI (by decide) (by omega)).mp q) (by omega); exact this) ?_
      refine V_aload_n hC dX4_bestGuess_33 rfl rfl ?_
      refine V_iload hC dX4_bestGuess_34 rfl ?_
      refine V_iload_n hC dX4_bestGuess_36 rfl rfl ?_
      refine V_cvI (n := 2) hC (c_X4_goodWithGuess g (eL E) hN hS (k := k) hn ((hok n hn).2.1 k (by omega)) (hmk.put (by decide) (by decide))) dX4_bestGuess_37 gX4_bestGuess_X4_goodWithGuess rfl rfl rfl ⟨rfl, rfl⟩ (by decide +kernel) (by decide +kernel) (by omega) hS.1.1 rfl (Nat.le_of_ble_eq_true rfl) (by decide) (fun x37 u37 h37 => ?_)
      obtain ⟨rfl, hS2, he2⟩ := h37
      refine V_istore6 hC dX4_bestGuess_40 (by rw [hnl]; decide) rfl ?_
      refine V_iload hC dX4_bestGuess_42 rfl ?_
      refine V_iload hC dX4_bestGuess_44 rfl ?_
      refine V_icmp_le hC 56 dX4_bestGuess_46 (by decide) (fun c46 => ?_) (fun c46 => ?_)
      · have hb : bestN n S.1 (k + 1) = bestN n S.1 k := by rw [bestN_s, if_neg (Int32.not_lt.mpr c46)]
        refine V_iinc5 hC (nI (k + 1)) dX4_bestGuess_56 (nI_1 k) (by rw [hnl]; decide) rfl ?_
        refine V_goto hC 27 dX4_bestGuess_59 (by decide) ?_
        have q := ih (k + 1) u37 (some (.int (brg n 11 (withH S.1 2 (nI k))))) (by omega) hS2 fun q hq => (he2 q hq).trans (he q hq)
        rw [hb] at q
        exact q
      · have hb : bestN n S.1 (k + 1) = (nI k, brg n 11 (withH S.1 2 (nI k))) := by rw [bestN_s, if_pos (Int32.not_le.mp c46)]
        refine V_iload hC dX4_bestGuess_49 rfl ?_
        refine V_istore_n3 hC dX4_bestGuess_51 rfl (by rw [hnl]; decide) rfl ?_
        refine V_iload hC dX4_bestGuess_52 rfl ?_
        refine V_istore4 hC dX4_bestGuess_54 (by rw [hnl]; decide) rfl ?_
        refine V_iinc5 hC (nI (k + 1)) dX4_bestGuess_56 (nI_1 k) (by rw [hnl]; decide) rfl ?_
        refine V_goto hC 27 dX4_bestGuess_59 (by decide) ?_
        have q := ih (k + 1) u37 (some (.int (brg n 11 (withH S.1 2 (nI k))))) (by omega) hS2 fun q hq => (he2 q hq).trans (he q hq)
        rw [hb] at q
        exact q
  refine V_iload_n hC dX4_bestGuess_0 rfl rfl ?_
  refine V_csI (n := 1) hC (c_X4_canTry g (eL E) v) dX4_bestGuess_1 gX4_bestGuess_X4_canTry rfl rfl rfl ⟨rfl, rfl⟩ (by decide +kernel) (by decide +kernel) (Nat.le_of_ble_eq_true rfl) (by decide) (fun x1 u1 h1 => ?_)
  rcases h1 with ⟨rfl, hT, he⟩ | ⟨rfl, hT, he⟩
  · obtain rfl := he.symm
    obtain ⟨n, hn, hv⟩ := okT_n hT
    refine V_if_eq_f (tgt := 16) hC dX4_bestGuess_4 (by decide) (by decide) ?_
    refine V_iload_n hC dX4_bestGuess_7 rfl rfl ?_
    refine V_if_lt hC 16 dX4_bestGuess_8 (by decide) (fun c8 => ?_) (fun c8 => ?_)
    · have hw : ¬ ((0 : Int32) ≤ w ∧ w ≤ 1) := fun q => absurd q.1 (Int32.not_le.mpr c8)
      refine V_bipush hC (-2) dX4_bestGuess_16 (by decide) ?_
      refine V_iret hC hR dX4_bestGuess_18 ⟨rfl, rfl, _, rfl, ?_⟩
      first | exact ⟨(mBest_t hT).symm, hS, fun q hq => rfl⟩ | exact ⟨(mBest_no hT hw).symm, hS, fun q hq => rfl⟩
    · have hw0 : 0 ≤ w := Int32.not_lt.mp c8
      refine V_iload_n hC dX4_bestGuess_11 rfl rfl ?_
      refine V_iconst hC 1 dX4_bestGuess_12 (by decide) ?_
      refine V_icmp_le hC 19 dX4_bestGuess_13 (by decide) (fun c13 => ?_) (fun c13 => ?_)
      · have hw : w = 0 ∨ w = 1 := by
          obtain ⟨j, hj, rfl⟩ := slot_n ⟨hw0, c13⟩
          rcases (show j = 0 ∨ j = 1 by omega) with rfl | rfl
          · exact Or.inl rfl
          · exact Or.inr rfl
        refine V_iconst hC 0 dX4_bestGuess_19 (by decide) ?_
        refine V_istore_n3 hC dX4_bestGuess_20 rfl (by rw [hnl]; decide) rfl ?_
        refine V_iconst hC (-1) dX4_bestGuess_21 (by decide) ?_
        refine V_istore4 hC dX4_bestGuess_22 (by rw [hnl]; decide) rfl ?_
        refine V_iconst hC 0 dX4_bestGuess_24 (by decide) ?_
        refine V_istore5 hC dX4_bestGuess_25 (by rw [hnl]; decide) rfl ?_
        exact loop hT hw n hn hv 6 0 f _ (by omega) hS fun q _ => (congrFun hf0 q).symm
      · have hw : ¬ ((0 : Int32) ≤ w ∧ w ≤ 1) := fun q => absurd q.2 c13
        refine V_bipush hC (-2) dX4_bestGuess_16 (by decide) ?_
        refine V_iret hC hR dX4_bestGuess_18 ⟨rfl, rfl, _, rfl, ?_⟩
        first | exact ⟨(mBest_t hT).symm, hS, fun q hq => rfl⟩ | exact ⟨(mBest_no hT hw).symm, hS, fun q hq => rfl⟩
  · obtain rfl := he.symm
    refine V_if_eq_t hC 16 dX4_bestGuess_4 (by decide) rfl ?_
    refine V_bipush hC (-2) dX4_bestGuess_16 (by decide) ?_
    refine V_iret hC hR dX4_bestGuess_18 ⟨rfl, rfl, _, rfl, ?_⟩
    first | exact ⟨(mBest_t hT).symm, hS, fun q hq => rfl⟩ | exact ⟨(mBest_no hT hw).symm, hS, fun q hq => rfl⟩
/-- a slack of k lets a plan starve -/
def starves (n : Nat) (m : MT) (k : Nat) : Prop := m.1 17 < (mTicks n (withH m 18 (nI k))).1 17
def NeedOK (m : MT) : Prop := ∀ n, n ≤ 99 → (∀ k, k ≤ 60 → (starves n m k ↔ ¬ brg n 17 (withH m 18 (nI k)) = 0)) ∧ ∀ k l, k ≤ l → l ≤ 60 → starves n m l → starves n m k
def nInv (n : Nat) (m : MT) (t D : Nat) : Prop := (∀ k, k < t → k ≤ 60 ∧ starves n m k) ∧ ∀ k, k ≤ 60 → t + D ≤ k + 1 → ¬ starves n m k
theorem nInv.le {n : Nat} {m : MT} {t D : Nat} (h : nInv n m t D) : t ≤ 61 := by
  rcases Nat.lt_or_ge 61 t with q | q
  · have := (h.1 61 q).1; omega
  · exact q
theorem nInv.yes {n : Nat} {m : MT} {t s : Nat} (h : nInv n m t (2 * s)) (hs : 0 < s) (hm : ∀ k l, k ≤ l → l ≤ 60 → starves n m l → starves n m k) (h1 : t + s - 1 ≤ 60) (h2 : starves n m (t + s - 1)) : nInv n m (t + s) s :=
  ⟨fun k hk => ⟨by omega, hm k (t + s - 1) (by omega) h1 h2⟩, fun k h3 h4 => h.2 k h3 (by omega)⟩
theorem nInv.no {n : Nat} {m : MT} {t s : Nat} (h : nInv n m t (2 * s)) (hm : ∀ k l, k ≤ l → l ≤ 60 → starves n m l → starves n m k) (h1 : ¬ (t + s - 1 ≤ 60 ∧ starves n m (t + s - 1))) : nInv n m t s :=
  ⟨h.1, fun k h3 h4 h5 => h1 ⟨by omega, hm _ k (by omega) h3 h5⟩⟩
theorem needN_t {n : Nat} {m : MT} {t : Nat} (h : nInv n m t 1) (hP : ∀ k, k ≤ 60 → (starves n m k ↔ ¬ brg n 17 (withH m 18 (nI k)) = 0)) : ∀ j, j ≤ 61 → 61 - j ≤ t → needN n m j = if t ≤ 60 then nI t else -6 := by
  intro j
  induction j with
  | zero =>
    intro _ h2
    rw [if_neg (by omega)]
    rfl
  | succ j ih =>
    intro h1 h2
    unfold needN
    by_cases h0 : brg n 17 (withH m 18 (nI (60 - j))) = 0
    · have hn : ¬ starves n m (60 - j) := fun q => (hP _ (by omega)).mp q h0
      have e : t = 60 - j := by
        rcases Nat.lt_or_ge (60 - j) t with q | q
        · exact absurd (h.1 _ q).2 hn
        · omega
      rw [if_pos h0, if_pos (by omega), e]
    · have hy : starves n m (60 - j) := (hP _ (by omega)).mpr h0
      have e : ¬ t ≤ 60 - j := fun q => h.2 (60 - j) (by omega) (by omega) hy
      rw [if_neg h0]
      exact ih (by omega) (by omega)
theorem pw_half : ∀ j : Fin 7, nI (2 ^ j.val) / 2 = nI (2 ^ j.val / 2) := by decide +kernel
theorem pw_b {j : Nat} (h : j ≤ 6) : 2 ^ j ≤ 64 ∧ 0 < 2 ^ j := by
  rcases (show j = 0 ∨ j = 1 ∨ j = 2 ∨ j = 3 ∨ j = 4 ∨ j = 5 ∨ j = 6 by omega) with rfl | rfl | rfl | rfl | rfl | rfl | rfl <;> decide
theorem pw_s (j : Nat) : 2 ^ (j + 1) / 2 = 2 ^ j := by rw [Nat.pow_succ, Nat.mul_div_cancel _ (by decide)]
