/-! a belt as it can be, through the changes: the clock is at most 20000 behind each call -/
def goodT (K : Int) (m : MT) : Prop := goodM K m ∧ (m.1 8).toInt ≤ 20000
theorem bOK.mono {K L : Int} {x : Nat → Int32} (hKL : K ≤ L) (h : bOK K x) : bOK L x := by
  obtain ⟨a, b, c, d, e⟩ := h
  exact ⟨a, b, by omega, d, e⟩
theorem goodM.mono {K L : Int} {m : MT} (hKL : K ≤ L) (h : goodM K m) : goodM L m := ⟨h.1, ⟨fun x hx => (h.2.1.1 x hx).mono hKL, h.2.1.2⟩, h.2.2⟩
theorem goodT.mono {K L : Int} {m : MT} (hKL : K ≤ L) (h : goodT K m) : goodT L m := ⟨h.1.mono hKL, h.2⟩
/-- a setting -/
theorem goodT.set {K : Int} {m : MT} (h : goodT K m) (k v : Int32) : goodT K (mSet k v m).2 := by
  unfold mSet
  by_cases ho : okS k v = true
  · rw [if_pos ho]
    unfold okS at ho
    simp only [Bool.and_eq_true, decide_eq_true_eq] at ho
    obtain ⟨⟨⟨k1, k2⟩, v1⟩, v2⟩ := ho
    have e0 : (0 : Int32).toInt = 0 := rfl
    have e8 : (8 : Int32).toInt = 8 := rfl
    rw [Int32.le_iff_toInt_le, e0] at k1
    rw [Int32.lt_iff_toInt_lt, e8] at k2
    have hi : k.toNatClampNeg < 8 := by
      unfold Int32.toNatClampNeg
      omega
    generalize k.toNatClampNeg = i at *
    rw [Int32.le_iff_toInt_le] at v1 v2
    have c : ∀ j : Nat, j < 8 → i = j → (lowS j).toInt ≤ v.toInt ∧ v.toInt ≤ (highS j).toInt := fun j _ e => by subst e; exact ⟨v1, v2⟩
    refine ⟨h.1.put (by omega) (by omega) (by omega) (fun e => c 0 (by omega) e) (fun e => c 1 (by omega) e) (fun e => ?_) (fun e => c 3 (by omega) e) (fun e => c 4 (by omega) e) (fun e => c 5 (by omega) e) (fun e => c 6 (by omega) e) (fun e => c 7 (by omega) e) (fun e => by omega), ?_⟩
    · have q : 0 ≤ v.toInt ∧ v.toInt ≤ 5 := c 2 (by omega) e
      exact ⟨v.toInt.toNat, by omega, nI_of_int (by omega) (by omega)⟩
    · show (upd m.1 i v 8).toInt ≤ 20000
      rw [pk_un (by omega)]
      exact h.2
  · rw [if_neg ho]
    exact h
/-- ticks -/
theorem goodT.pass {K : Int} {m : MT} (hK : K ≤ 100000000) (h : goodT K m) (t : Int32) : goodT K (mPass t m).2 := by
  unfold mPass
  by_cases ho : okT t = true
  · rw [if_pos ho]
    unfold okT at ho
    simp only [Bool.and_eq_true, decide_eq_true_eq] at ho
    obtain ⟨t1, t2⟩ := ho
    have e1 : (1 : Int32).toInt = 1 := rfl
    have e99 : (99 : Int32).toInt = 99 := rfl
    have e20 : (20000 : Int32).toInt = 20000 := rfl
    rw [Int32.le_iff_toInt_le] at t1 t2
    rw [e1] at t1
    rw [e99] at t2
    have s8 := h.1.1.2.2.2.2.2
    have h8 := h.2
    by_cases hc : 20000 < m.1 8 + t
    · rw [if_pos hc]
      exact h
    · rw [if_neg hc]
      rw [Int32.lt_iff_toInt_lt, i_add (by omega) (by omega), e20] at hc
      have hn : (t.toNatClampNeg : Int) = t.toInt := by
        unfold Int32.toNatClampNeg
        omega
      obtain ⟨a, b⟩ := h.1.ticks hK t.toNatClampNeg (by omega)
      exact ⟨a, by show ((mTicks t.toNatClampNeg m).1 8).toInt ≤ 20000; omega⟩
  · rw [if_neg ho]
    exact h
theorem dOr_add {d : Int} : ∀ (bs : List (Nat → Int32)) (x : Nat → Int32), ¬ x 2 = 1 → dOr d (bs ++ [x]) = dOr d bs := by
  intro bs x hx
  unfold dOr
  rw [List.filter_append, show [x].filter (fun x => decide (x 2 = 1)) = [] by rw [List.filter_cons, if_neg (by simpa using hx)]; rfl, List.append_nil]
/-- a box that arrives -/
theorem goodT.arrive {K : Int} {m : MT} (hK : 30 ≤ K) (hK2 : K ≤ 100000000) (h : goodT K m) (v : Int32) : goodT K (mArrive v m).2 := by
  unfold mArrive
  by_cases ho : okLen v = true
  · rw [if_pos ho]
    have hv := okLen_i ho
    by_cases hl : m.2.1.length = 8
    · rw [if_pos hl]
      exact h
    · rw [if_neg hl]
      by_cases hn : nearIn m.2.1 = true
      · rw [if_pos hn]
        exact h
      · rw [if_neg hn]
        obtain ⟨g, h8⟩ := h
        have e0 : (0 : Int32).toInt = 0 := rfl
        have ef : frX (newX v (m.1 10)) = 0 := rfl
        have el : lnX (newX v (m.1 10)) = v.toInt := rfl
        have ec : ctX (newX v (m.1 10)) = 2 * frX (newX v (m.1 10)) - lnX (newX v (m.1 10)) := rfl
        have e2 : newX v (m.1 10) 2 = 0 := rfl
        have g2 : goodM K (upd m.1 10 (m.1 10 + 1), m.2) := g.put (by omega) (by omega) (by omega) (fun e => by omega) (fun e => by omega) (fun e => by omega) (fun e => by omega) (fun e => by omega) (fun e => by omega) (fun e => by omega) (fun e => by omega) (fun e => by omega)
        have hbk : ∀ x ∈ m.2.1, apart x (newX v (m.1 10)) := by
          intro x hx
          unfold apart
          rw [ef]
          unfold nearIn at hn
          cases hg : m.2.1.getLast? with
          | none =>
            rw [List.getLast?_eq_none_iff] at hg
            rw [hg] at hx
            cases hx
          | some y =>
            rw [hg] at hn
            simp only [decide_eq_true_eq] at hn
            obtain ⟨d, hd⟩ := List.getLast?_eq_some_iff.mp hg
            have hy := g.2.1.1 y (by rw [hd]; simp)
            have e1 : (1 : Int32).toInt = 1 := rfl
            rw [Int32.lt_iff_toInt_lt, bk_i hK2 hy, e1] at hn
            rw [hd] at hx
            rcases List.mem_append.mp hx with q | q
            · have hp := g.2.1.2.1
              rw [hd] at hp
              have := (List.pairwise_append.mp hp).2.2 x q y (by simp)
              have hyl := hy.1
              unfold apart at this
              omega
            · rw [List.mem_singleton] at q
              subst q
              omega
        obtain ⟨q1, ⟨q2, q3, q4⟩, q5, q6, q7, q8⟩ := g2
        refine ⟨⟨q1, ⟨fun x hx => ?_, ?_, ?_⟩, ?_, ⟨q6.1, q6.2.1, fun x hx => ?_⟩, fun x hx => ?_, q8⟩, ?_⟩
        · rcases List.mem_append.mp hx with q | q
          · exact q2 x q
          · rw [List.mem_singleton] at q
            subst q
            exact ⟨by omega, Or.inl rfl, by omega, by omega, fun _ => by omega⟩
        · exact List.pairwise_append.mpr ⟨q3, List.pairwise_singleton _ _, fun x hx y hy => by rw [List.mem_singleton] at hy; subst hy; exact hbk x hx⟩
        · exact List.pairwise_append.mpr ⟨q4, List.pairwise_singleton _ _, fun x hx y hy k => by rw [List.mem_singleton] at hy; subst hy; rw [e2] at k; exact absurd k (by decide)⟩
        · refine ⟨q5.1, ?_⟩
          have k := q5.2
          show PB _ (dOr 62 (m.2.1 ++ [newX v (m.1 10)]))
          rw [dOr_add _ _ (by rw [e2]; decide)]
          exact k
        · rcases List.mem_append.mp hx with q | q
          · exact q6.2.2 x q
          · rw [List.mem_singleton] at q
            subst q
            exact Or.inl rfl
        · rcases List.mem_append.mp hx with q | q
          · exact q7 x q
          · rw [List.mem_singleton] at q
            subst q
            omega
        · show (upd m.1 10 (m.1 10 + 1) 8).toInt ≤ 20000
          rw [pk_un (by omega)]
          exact h8
  · rw [if_neg ho]
    exact h
theorem halfD_p : ∀ n : Fin 27, (halfD (nI n.val)).toInt = (n.val : Int) / 2 := by decide +kernel
theorem halfD_n : ∀ n : Fin 27, (halfD (-(nI n.val))).toInt = -(((n.val : Int) + 1) / 2) := by decide +kernel
theorem halfD_i {d : Int32} (h1 : -26 ≤ d.toInt) (h2 : d.toInt ≤ 26) : 2 * (halfD d).toInt ≤ d.toInt ∧ d.toInt ≤ 2 * (halfD d).toInt + 1 := by
  by_cases h : 0 ≤ d.toInt
  · obtain ⟨n, hn⟩ := Int.eq_ofNat_of_zero_le h
    have e := nI_of_int hn (by omega)
    have k := halfD_p ⟨n, by omega⟩
    rw [← e] at k
    simp only at k
    omega
  · obtain ⟨n, hn⟩ := Int.eq_ofNat_of_zero_le (a := - d.toInt) (by omega)
    have e : -d = nI n := nI_of_int (by rw [i_neg (by omega)]; exact hn) (by omega)
    have e2 : d = -(nI n) := by rw [← e, Int32.neg_neg]
    have k := halfD_n ⟨n, by omega⟩
    simp only at k
    rw [← e2] at k
    omega
theorem pw_mid {R : (Nat → Int32) → (Nat → Int32) → Prop} {d r : List (Nat → Int32)} {x y : Nat → Int32} (h : (d ++ x :: r).Pairwise R) (h1 : ∀ a ∈ d, R a y) (h2 : ∀ b ∈ r, R y b) : (d ++ y :: r).Pairwise R := by
  obtain ⟨a, b, c⟩ := List.pairwise_append.mp h
  obtain ⟨b1, b2⟩ := List.pairwise_cons.mp b
  refine List.pairwise_append.mpr ⟨a, List.pairwise_cons.mpr ⟨h2, b2⟩, fun u hu w hw => ?_⟩
  rcases List.mem_cons.mp hw with rfl | hw
  · exact h1 u hu
  · exact c u hu w (List.mem_cons_of_mem _ hw)
theorem dOr_mid {x y : Nat → Int32} (h2 : y 2 = x 2) (hc : ctX y ≤ ctX x) (r : List (Nat → Int32)) : ∀ (d : List (Nat → Int32)) (e : Int), dOr e (d ++ y :: r) ≤ dOr e (d ++ x :: r) := by
  intro d
  induction d with
  | nil =>
    intro e
    by_cases hx : x 2 = 1
    · rw [List.nil_append, List.nil_append, dOr_1 hx, dOr_1 (h2.trans hx)]
      exact dOr_le hc r
    · rw [List.nil_append, List.nil_append, dOr_0 hx, dOr_0 (fun q => hx (h2.symm.trans q))]
      exact Int.le_refl _
  | cons z d ih =>
    intro e
    by_cases hz : z 2 = 1
    · rw [List.cons_append, List.cons_append, dOr_1 hz, dOr_1 hz]
      exact ih _
    · rw [List.cons_append, List.cons_append, dOr_0 hz, dOr_0 hz]
      exact ih _
/-- a box that is turned -/
theorem goodT.turnAt {K : Int} {m : MT} (hK : K ≤ 90000000) (h : goodT K m) (k : Nat) (v : Int32) : goodT (K + 1) (mTurnAt k v m).2 := by
  have hup := h.mono (L := K + 1) (by omega)
  unfold mTurnAt
  cases hx : m.2.1[k]? with
  | none => exact hup
  | some x =>
    by_cases ho : okLen v = true
    · simp only [if_pos ho]
      by_cases hr : roomT (m.2.1.take k) x (m.2.1.drop (k + 1)) v = true
      · rw [if_pos hr]
        have hv := okLen_i ho
        obtain ⟨hk, hxe⟩ := List.getElem?_eq_some_iff.mp hx
        have hcut : m.2.1 = m.2.1.take k ++ x :: m.2.1.drop (k + 1) := by
          rw [← hxe, List.getElem_cons_drop, List.take_append_drop]
        obtain ⟨g, h8⟩ := hup
        have g0 := h.1
        obtain ⟨q1, ⟨q2, q3, q4⟩, q5, q6, q7, q8⟩ := g
        have p2 := g0.2.1.1
        rw [hcut] at q2 q3 q4 q7 p2
        have q5b := q5.2
        have q6b := q6.2.2
        rw [hcut] at q5b q6b
        generalize m.2.1.take k = d at *
        generalize m.2.1.drop (k + 1) = r at *
        have bx := p2 x (by simp)
        have cx := q7 x (by simp)
        have ec : ctX x = 2 * frX x - lnX x := rfl
        obtain ⟨b1, b2, b3, b4, b5⟩ := bx
        have eby : (v - x 1).toInt = v.toInt - lnX x := by
          unfold lnX at *
          exact i_sub (by omega) (by omega)
        have eh := halfD_i (d := v - x 1) (by omega) (by omega)
        have ef : (frontT x v).toInt = frX x + (halfD (v - x 1)).toInt := by
          unfold frontT frX at *
          exact i_add (by omega) (by omega)
        have yf : frX (xTurn x v) = frX x + (halfD (v - x 1)).toInt := ef
        have yl : lnX (xTurn x v) = v.toInt := rfl
        have yc : ctX (xTurn x v) = 2 * frX (xTurn x v) - lnX (xTurn x v) := rfl
        have y2 : (xTurn x v) 2 = x 2 := rfl
        have y3 : (xTurn x v) 3 = x 3 := rfl
        have lo := fr_lo (K := K) (x := x) (by omega) ⟨b1, b2, b3, b4, b5⟩
        have by_ : bOK (K + 1) (xTurn x v) := ⟨by omega, by rw [y2]; exact b2, by omega, by omega, fun z => by rw [y2] at z; have := b5 z; omega⟩
        unfold roomT at hr
        rw [Bool.and_eq_true] at hr
        obtain ⟨r1, r2⟩ := hr
        have a1 : ∀ a ∈ d, apart a (xTurn x v) := by
          intro a ha
          unfold apart
          cases hg : d.getLast? with
          | none =>
            rw [List.getLast?_eq_none_iff] at hg
            rw [hg] at ha
            cases ha
          | some y =>
            rw [hg] at r1
            simp only [decide_eq_true_eq] at r1
            obtain ⟨d2, hd⟩ := List.getLast?_eq_some_iff.mp hg
            have hy := p2 y (by rw [hd]; simp)
            have e1 : (1 : Int32).toInt = 1 := rfl
            have ey := bk_i (K := K) (by omega) hy
            have hyl := hy.1
            have loy := fr_lo (K := K) (by omega) hy
            have hy4 := hy.2.2.2.1
            rw [Int32.le_iff_toInt_le, i_sub (by rw [ey, ef]; omega) (by rw [ey, ef]; omega), ey, ef, e1] at r1
            rw [hd] at ha
            rcases List.mem_append.mp ha with q | q
            · have hp := (List.pairwise_append.mp q3).1
              rw [hd] at hp
              have := (List.pairwise_append.mp hp).2.2 a q y (by simp)
              unfold apart at this
              omega
            · rw [List.mem_singleton] at q
              subst q
              omega
        have a2 : ∀ b ∈ r, apart (xTurn x v) b := by
          intro b hb
          unfold apart
          cases r with
          | nil => cases hb
          | cons y r2 =>
            simp only [decide_eq_true_eq] at r2
            have hy := p2 y (by simp)
            have hyl := hy.1
            have loy := fr_lo (K := K) (by omega) hy
            have hy4 := hy.2.2.2.1
            have e1 : (1 : Int32).toInt = 1 := rfl
            have ev : (frontT x v - v).toInt = (frontT x v).toInt - v.toInt := i_sub (by omega) (by omega)
            have ey : (frontT x v - v - y 0).toInt = (frontT x v).toInt - v.toInt - frX y := by
              unfold frX at *
              rw [i_sub (by omega) (by omega), ev]
            rw [Int32.le_iff_toInt_le, ey, e1] at r2
            rcases List.mem_cons.mp hb with q | q
            · subst q
              omega
            · have hp := (List.pairwise_cons.mp (List.pairwise_append.mp q3).2.1).2
              have := (List.pairwise_cons.mp hp).1 b q
              unfold apart at this
              omega
        refine ⟨⟨q1, ⟨fun z hz => ?_, pw_mid q3 a1 a2, pw_mid q4 (fun a ha z => ?_) (fun b hb z => ?_)⟩, ⟨q5.1, q5b.low (dOr_mid y2 (by omega) r d 62)⟩, ⟨q6.1, q6.2.1, fun z hz => ?_⟩, fun z hz => ?_, q8⟩, h8⟩
        · rcases List.mem_append.mp hz with q | q
          · exact q2 z (List.mem_append_left _ q)
          · rcases List.mem_cons.mp q with q | q
            · rw [q]
              exact by_
            · exact q2 z (List.mem_append_right _ (List.mem_cons_of_mem _ q))
        · rw [y2] at z
          exact (List.pairwise_append.mp q4).2.2 a ha x List.mem_cons_self z
        · rw [y2]
          exact (List.pairwise_cons.mp (List.pairwise_append.mp q4).2.1).1 b hb z
        · rcases List.mem_append.mp hz with q | q
          · exact q6b z (List.mem_append_left _ q)
          · rcases List.mem_cons.mp q with q | q
            · rw [q, y3]
              exact q6b x (by simp)
            · exact q6b z (List.mem_append_right _ (List.mem_cons_of_mem _ q))
        · rcases List.mem_append.mp hz with q | q
          · exact q7 z (List.mem_append_left _ q)
          · rcases List.mem_cons.mp q with q | q
            · rw [q]
              omega
            · exact q7 z (List.mem_append_right _ (List.mem_cons_of_mem _ q))
      · rw [if_neg hr]
        exact hup
    · simp only [if_neg ho]
      exact hup
theorem goodT.turn {K : Int} {m : MT} (hK : K ≤ 90000000) (h : goodT K m) (b v : Int32) : goodT (K + 1) (mTurn b v m).2 := by
  unfold mTurn
  split
  · exact h.mono (by omega)
  · exact h.turnAt hK _ v
theorem goodT.all {K : Int} {m : MT} (hK : K ≤ 100000000) (h : goodT K m) : AllOK m := h.1.all hK (by have := h.2; omega)
theorem goodT.ok {K : Int} {m : MT} (hK : K ≤ 100000000) (h : goodT K m) (n : Nat) (hn : n ≤ 99) : TicksOK n m := h.1.ok hK n (by have := h.2; omega)
theorem goodT.need {K : Int} {m : MT} (hK : K ≤ 100000000) (h : goodT K m) : NeedOK m := h.1.need hK (by have := h.2; omega)
