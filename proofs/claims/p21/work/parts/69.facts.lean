/-! what the law says, of one state -/
theorem mTicks_add : ∀ (a b : Nat) (m : MT), mTicks (a + b) m = mTicks b (mTicks a m) := by
  intro a
  induction a with
  | zero =>
    intro b m
    rw [Nat.zero_add]
    rfl
  | succ a ih =>
    intro b m
    rw [show a + 1 + b = (a + b) + 1 by omega]
    exact ih b (mTick m)
theorem mTicks_1 (n : Nat) (m : MT) : mTicks (n + 1) m = mTick (mTicks n m) := mTicks_add n 1 m
/-- the two objects, i calls behind the start -/
def LW (K : Int) (i : Nat) (S T : ST) : Prop := goodS K S ∧ goodS K T ∧ T.1 = S.1 ∧ (S.1.1 8).toInt ≤ 9 * (i : Int) ∧ ∃ c : Nat → Nat, cntC c S.1 ∧ c 10 ≤ i
theorem arrive_8 (v : Int32) (m : MT) : (mArrive v m).2.1 8 = m.1 8 := by
  unfold mArrive
  split
  · split
    · rfl
    · split
      · rfl
      · show upd m.1 10 (m.1 10 + 1) 8 = m.1 8
        exact pk_un (by decide)
  · rfl
theorem set_8 (k v : Int32) (m : MT) : (mSet k v m).2.1 8 = m.1 8 := by
  unfold mSet
  split
  · rename_i ho
    unfold okS at ho
    simp only [Bool.and_eq_true, decide_eq_true_eq] at ho
    obtain ⟨⟨⟨k1, k2⟩, -⟩, -⟩ := ho
    have e0 : (0 : Int32).toInt = 0 := rfl
    have e8 : (8 : Int32).toInt = 8 := rfl
    rw [Int32.le_iff_toInt_le, e0] at k1
    rw [Int32.lt_iff_toInt_lt, e8] at k2
    have hi : k.toNatClampNeg < 8 := by
      unfold Int32.toNatClampNeg
      omega
    exact pk_un (by omega)
  · rfl
theorem turn_h (b v : Int32) (m : MT) : (mTurn b v m).2.1 = m.1 := by
  unfold mTurn
  split
  · rfl
  · unfold mTurnAt
    split
    · rfl
    · split
      · split
        · rfl
        · rfl
      · rfl
theorem LW.arrive {K : Int} {i : Nat} {S T : ST} (h : LW K i S T) (hK : 30 ≤ K) (hK2 : K ≤ 1000) (hi : i ≤ 100) (v : Int32) : LW (K + 1) (i + 1) (sChange (mArrive v S.1) S).2 (sChange (mArrive v T.1) T).2 := by
  obtain ⟨h1, h2, h3, h4, c, h5, h6⟩ := h
  obtain ⟨c2, k1, k2⟩ := cnt_arrive h5 (by omega) v
  refine ⟨(h1.arrive hK (by omega) v).mono (by omega), (h2.arrive hK (by omega) v).mono (by omega), ?_, ?_, c2, k1, by omega⟩
  · show (mArrive v T.1).2 = (mArrive v S.1).2
    rw [h3]
  · show ((mArrive v S.1).2.1 8).toInt ≤ 9 * ((i + 1 : Nat) : Int)
    rw [arrive_8]
    omega
theorem LW.set {K : Int} {i : Nat} {S T : ST} (h : LW K i S T) (k v : Int32) : LW (K + 1) (i + 1) (sChange (mSet k v S.1) S).2 (sChange (mSet k v T.1) T).2 := by
  obtain ⟨h1, h2, h3, h4, c, h5, h6⟩ := h
  refine ⟨(h1.set k v).mono (by omega), (h2.set k v).mono (by omega), ?_, ?_, c, cnt_set h5 k v, by omega⟩
  · show (mSet k v T.1).2 = (mSet k v S.1).2
    rw [h3]
  · show ((mSet k v S.1).2.1 8).toInt ≤ 9 * ((i + 1 : Nat) : Int)
    rw [set_8]
    omega
theorem LW.turn {K : Int} {i : Nat} {S T : ST} (h : LW K i S T) (hK2 : K ≤ 1000) (k v : Int32) : LW (K + 1) (i + 1) (sChange (mTurn k v S.1) S).2 (sChange (mTurn k v T.1) T).2 := by
  obtain ⟨h1, h2, h3, h4, c, h5, h6⟩ := h
  refine ⟨h1.turn (by omega) k v, h2.turn (by omega) k v, ?_, ?_, c, cnt_turn h5 k v, by omega⟩
  · show (mTurn k v T.1).2 = (mTurn k v S.1).2
    rw [h3]
  · show ((mTurn k v S.1).2.1 8).toInt ≤ 9 * ((i + 1 : Nat) : Int)
    rw [turn_h]
    omega
theorem okT_at {n : Nat} (hn : 1 ≤ n) (hn2 : n ≤ 99) : okT (nI n) = true := by
  simp only [okT, Bool.and_eq_true, decide_eq_true_eq]
  exact ⟨(nI_leI (a := 1) (by decide) (by omega)).mpr hn, (nI_leI (b := 99) (by omega) (by decide)).mpr hn2⟩
theorem pass_at {m : MT} {n : Nat} (hn : 1 ≤ n) (hn2 : n ≤ 99) (h0 : 0 ≤ (m.1 8).toInt) (h8 : (m.1 8).toInt + n ≤ 20000) : mPass (nI n) m = (sLeft (mTicks n m).1 - sLeft m.1, mTicks n m) := by
  have en : (nI n).toInt = (n : Int) := nI_toInt (by omega)
  have i : (m.1 8 + nI n).toInt = (m.1 8).toInt + n := by
    rw [i_add (by rw [en]; omega) (by rw [en]; omega), en]
  have hq : ¬ 20000 < m.1 8 + nI n := by
    rw [Int32.lt_iff_toInt_lt, i]
    have e2 : (20000 : Int32).toInt = 20000 := rfl
    omega
  unfold mPass
  rw [okT_at hn hn2, if_pos rfl, if_neg hq, nI_clamp (by omega)]
/-- the second object, k ticks on its way -/
def LPas (K : Int) (k : Nat) (m : MT) (T : ST) : Prop := goodS K T ∧ T.1 = mTicks k m
theorem LPas.go {K : Int} {k : Nat} {m : MT} {T : ST} (h : LPas K k m T) (hK : K ≤ 1000) (hm : goodM K m) (h8 : (m.1 8).toInt + k ≤ 10000) : (sChange (mPass 1 T.1) T).1 = sLeft (mTicks (k + 1) m).1 - sLeft (mTicks k m).1 ∧ LPas K (k + 1) m (sChange (mPass 1 T.1) T).2 := by
  obtain ⟨h1, h2⟩ := h
  have e1 : (1 : Int32) = nI 1 := rfl
  have t := (hm.ticks (by omega) k (by omega)).2
  have h0 : 0 ≤ (m.1 8).toInt := hm.1.2.2.2.2.2.1
  have e := pass_at (m := T.1) (n := 1) (by omega) (by omega) (by rw [h2]; omega) (by rw [h2]; omega)
  have hg := h1.pass (by omega) (nI 1)
  have e2 : mPass (nI 1) T.1 = (sLeft (mTicks (k + 1) m).1 - sLeft (mTicks k m).1, mTicks (k + 1) m) := by
    rw [e, h2, ← mTicks_add k 1 m]
  rw [e1]
  refine ⟨?_, hg, ?_⟩
  · show (mPass (nI 1) T.1).1 = _
    rw [e2]
  · show (mPass (nI 1) T.1).2 = _
    rw [e2]
theorem LW.pass {K : Int} {i n : Nat} {S T T2 : ST} (h : LW K i S T) (hK : K ≤ 1000) (hi : i ≤ 100) (hn : 1 ≤ n) (hn2 : n ≤ 9) (hT : LPas K n S.1 T2) : (sChange (mPass (nI n) S.1) S).1 = sLeft (mTicks n S.1).1 - sLeft S.1.1 ∧ LW (K + 1) (i + 1) (sChange (mPass (nI n) S.1) S).2 T2 := by
  obtain ⟨h1, h2, h3, h4, c, h5, h6⟩ := h
  have hm : goodM K S.1 := h1.1.1
  have h0 : 0 ≤ (S.1.1 8).toInt := hm.1.2.2.2.2.2.1
  have t := (hm.ticks (by omega) n (by omega)).2
  obtain ⟨c2, k1, k2, k3⟩ := cnt_ticks (by omega) n hm (by omega) h5
  have e := pass_at (m := S.1) (n := n) hn (by omega) h0 (by omega)
  have hg := h1.pass (by omega) (nI n)
  refine ⟨?_, hg.mono (by omega), hT.1.mono (by omega), ?_, ?_, c2, ?_, by omega⟩
  · show (mPass (nI n) S.1).1 = _
    rw [e]
  · show T2.1 = (mPass (nI n) S.1).2
    rw [e, hT.2]
  · show ((mPass (nI n) S.1).2.1 8).toInt ≤ 9 * ((i + 1 : Nat) : Int)
    rw [e]
    show ((mTicks n S.1).1 8).toInt ≤ _
    omega
  · show cntC c2 (mPass (nI n) S.1).2
    rw [e]
    exact k1
/-! the numbers -/
theorem cn_c {S : ST} {c : Nat → Nat} (h : cntC c S.1) {k : Nat} (h1 : 2 ≤ k) (h2 : k ≤ 9) : sCount (nI k) S = nI (c (8 + k)) := by
  rw [← numB_s (by omega)]
  unfold numB
  rw [if_pos (by omega)]
  unfold hAll
  rw [if_neg (by omega), if_neg (by omega), if_neg (by omega)]
  exact h.1 _ (by omega) (by omega)
theorem cn_1 (S : ST) : sCount 1 S = nI S.1.2.1.length := by
  rw [show (1 : Int32) = nI 1 from rfl, ← numB_s (by omega)]
  rfl
theorem cn_10 (S : ST) : sCount 10 S = S.1.1 18 := by
  rw [show (10 : Int32) = nI 10 from rfl, ← numB_s (by omega)]
  rfl
theorem cn_11 (S : ST) : sCount 11 S = nI S.1.2.2.1.length := by
  rw [show (11 : Int32) = nI 11 from rfl, ← numB_s (by omega)]
  rfl
theorem cn_12 (S : ST) : sCount 12 S = nI S.1.2.2.2.length := by
  rw [show (12 : Int32) = nI 12 from rfl, ← numB_s (by omega)]
  rfl
theorem cn_eq {S T : ST} (h : T.1 = S.1) {k : Nat} (hk : k < 22) : sCount (nI k) S = sCount (nI k) T := by
  rw [← numB_s hk, ← numB_s hk, h]
theorem cnt_le {c : Nat → Nat} {m : MT} (h : cntC c m) : c 11 ≤ c 10 ∧ c 12 ≤ c 10 ∧ c 13 ≤ c 10 ∧ c 14 ≤ c 10 ∧ c 15 ≤ c 10 ∧ c 17 ≤ c 10 ∧ c 16 ≤ c 10 ∧ m.2.2.1.length + m.2.2.2.length ≤ c 10 ∧ m.2.1.length ≤ c 10 ∧ c 11 + c 12 + c 13 ≤ c 10 := by
  obtain ⟨-, k2, k3, ⟨-, k5, k6⟩, -⟩ := h
  have : seenN m.2.1 ≤ m.2.1.length := List.countP_le_length
  omega
/-! boxes -/
def mkA (x : Nat → Int32) : Int32 := if x 3 = -6 then -6 else x 3 + 1000
def unN (bs : List (Nat → Int32)) : Nat := bs.countP (fun x => decide (x 2 = 0))
theorem bx_w {m : MT} {d r : List (Nat → Int32)} {x : Nat → Int32} (h : m.2.1 = d ++ x :: r) (hl : d.length < 2 ^ 31) : mBox (nI d.length) 0 m = x 0 + 1000 ∧ mBox (nI d.length) 1 m = x 1 ∧ mBox (nI d.length) 2 m = x 2 ∧ mBox (nI d.length) 3 m = mkA x ∧ mBox (nI d.length) 4 m = x 4 ∧ mBox (nI d.length) 5 m = x 5 := by
  have hx : m.2.1[d.length]? = some x := by
    rw [h]
    exact cut_m
  refine ⟨?_, ?_, ?_, ?_, ?_, ?_⟩
  · rw [mBox_yes hx hl, if_pos rfl]
  · rw [mBox_yes hx hl, if_neg (by decide), if_neg (by decide), if_pos rfl]
  · rw [mBox_yes hx hl, if_neg (by decide), if_neg (by decide), if_neg (by decide), if_pos rfl]
  · rw [mBox_yes hx hl, if_neg (by decide), if_pos rfl]
    rfl
  · rw [mBox_yes hx hl, if_neg (by decide), if_neg (by decide), if_neg (by decide), if_neg (by decide), if_pos rfl]
  · rw [mBox_yes hx hl, if_neg (by decide), if_neg (by decide), if_neg (by decide), if_neg (by decide), if_neg (by decide), if_pos rfl]
theorem bx_s {c : Nat → Nat} {m : MT} {K : Int} (hm : goodM K m) (hc : cntC c m) {x : Nat → Int32} (hx : x ∈ m.2.1) : (x 2 = 0 ∨ x 2 = 1) ∧ (x 4 = 0 ∨ x 4 = 1) ∧ (¬ x 4 = 0 → ¬ mkA x = -6) ∧ (mkA x = -6 ↔ x 3 = -6) ∧ 4 ≤ x 1 ∧ x 1 ≤ 30 := by
  have hb := hm.2.1.1 x hx
  have hf : fl4 x := hc.2.2.2.1.1 x hx
  have hk := hm.2.2.2.1.2.2 x hx
  have e6 : (-6 : Int32).toInt = -6 := rfl
  have key : mkA x = -6 ↔ x 3 = -6 := by
    unfold mkA
    split
    · rename_i h
      exact ⟨fun _ => h, fun _ => rfl⟩
    · rename_i h
      refine ⟨fun q => ?_, fun q => absurd q h⟩
      have q2 : x 3 = -1006 := by
        have q3 := congrArg (fun z : Int32 => z - 1000) q
        simp only [Int32.add_sub_cancel] at q3
        rw [q3]
        decide
      have e : (-1006 : Int32).toInt = -1006 := rfl
      rcases hk with z | z
      · exact absurd z h
      · rw [q2, e] at z
        omega
  refine ⟨hb.2.1, hf.2.1, fun q => ?_, key, ?_, ?_⟩
  · rw [key]
    rcases hf.2.1 with z | z
    · exact absurd z q
    · exact hf.2.2 z
  · rw [Int32.le_iff_toInt_le]
    exact hb.1.1
  · rw [Int32.le_iff_toInt_le]
    exact hb.1.2
theorem bx_n {c : Nat → Nat} {m : MT} (hc : cntC c m) (h10 : c 10 ≤ 1000) {x : Nat → Int32} (hx : x ∈ m.2.1) : x 5 < nI (c 10) := by
  rw [Int32.lt_iff_toInt_lt, nI_toInt (by omega)]
  exact (hc.2.2.2.2.2 x hx).2
theorem bx_2 {c : Nat → Nat} {m : MT} {K : Int} (hK : K ≤ 100000000) (hm : goodM K m) (hc : cntC c m) {d r : List (Nat → Int32)} {y x : Nat → Int32} (h : m.2.1 = d ++ y :: x :: r) : x 0 + 1000 < y 0 + 1000 - y 1 ∧ y 5 < x 5 := by
  have hp := hm.2.1.2.1
  have hn := hc.2.2.2.2.1
  rw [h] at hp hn
  have p1 : apart y x := (List.pairwise_cons.mp (List.pairwise_append.mp hp).2.1).1 x List.mem_cons_self
  have p2 := (List.pairwise_cons.mp (List.pairwise_append.mp hn).2.1).1 x List.mem_cons_self
  have by_ := hm.2.1.1 y (by rw [h]; simp)
  have bx := hm.2.1.1 x (by rw [h]; simp)
  have fy := fr_lo hK by_
  have fx := fr_lo hK bx
  obtain ⟨⟨ly1, ly2⟩, -, -, fy2, -⟩ := by_
  obtain ⟨-, -, -, fx2, -⟩ := bx
  unfold apart at p1
  unfold lnX frX at *
  have e : (1000 : Int32).toInt = 1000 := rfl
  have i1 : (x 0 + 1000).toInt = (x 0).toInt + 1000 := by
    rw [i_add (by rw [e]; omega) (by rw [e]; omega), e]
  have i2 : (y 0 + 1000).toInt = (y 0).toInt + 1000 := by
    rw [i_add (by rw [e]; omega) (by rw [e]; omega), e]
  have i3 : (y 0 + 1000 - y 1).toInt = (y 0).toInt + 1000 - (y 1).toInt := by
    rw [i_sub (by rw [i2]; omega) (by rw [i2]; omega), i2]
  refine ⟨?_, ?_⟩
  · rw [Int32.lt_iff_toInt_lt, i1, i3]
    omega
  · rw [Int32.lt_iff_toInt_lt]
    exact p2
theorem cP_1 {α : Type} (p : α → Bool) (d : List α) (x : α) : (d ++ [x]).countP p = d.countP p + (if p x then 1 else 0) := by
  rw [cP_mid]
  simp
theorem tw_s {d : List (Nat → Int32)} {x : Nat → Int32} (h : x 4 = 0 ∨ x 4 = 1) : nI (twicN d) + x 4 = nI (twicN (d ++ [x])) := by
  unfold twicN
  rw [cP_1]
  rcases h with h | h
  · rw [h, if_neg (by decide), Nat.add_zero, Int32.add_zero]
  · rw [h, if_pos (by decide)]
    exact nI_1 _
theorem un_s {d : List (Nat → Int32)} {x : Nat → Int32} (h : x 2 = 0 ∨ x 2 = 1) : nI (unN d) + (1 - x 2) = nI (unN (d ++ [x])) := by
  unfold unN
  rw [cP_1]
  rcases h with h | h
  · rw [h, if_pos (by decide), show (1 : Int32) - 0 = 1 by decide]
    exact nI_1 _
  · rw [h, if_neg (by decide), show (1 : Int32) - 1 = 0 by decide, Nat.add_zero, Int32.add_zero]
theorem mk_0 {d : List (Nat → Int32)} {x : Nat → Int32} (h : x 3 = -6) : nI (markN d) + 0 = nI (markN (d ++ [x])) := by
  unfold markN
  rw [cP_1, if_neg (by simp [h]), Nat.add_zero, Int32.add_zero]
theorem mk_1 {d : List (Nat → Int32)} {x : Nat → Int32} (h : ¬ x 3 = -6) : nI (markN d) + 1 = nI (markN (d ++ [x])) := by
  unfold markN
  rw [cP_1, if_pos (by simp [h])]
  exact nI_1 _
theorem un_seen : ∀ bs : List (Nat → Int32), (∀ x ∈ bs, x 2 = 0 ∨ x 2 = 1) → unN bs + seenN bs = bs.length := by
  intro bs
  induction bs with
  | nil => exact fun _ => rfl
  | cons x t ih =>
    intro h
    have w := ih fun y hy => h y (List.mem_cons_of_mem _ hy)
    unfold unN seenN at w ⊢
    rw [List.countP_cons, List.countP_cons, List.length_cons]
    rcases h x List.mem_cons_self with z | z
    · rw [z, if_pos (by decide), if_neg (by decide)]
      omega
    · rw [z, if_neg (by decide), if_pos (by decide)]
      omega
theorem cn_sum {S : ST} {c : Nat → Nat} {K : Int} (hm : goodM K S.1) (h : cntC c S.1) : nI (c 10) - nI (unN S.1.2.1) = nI S.1.2.2.1.length + nI S.1.2.2.2.length + nI (c 14) + nI (c 15) + nI (c 17) := by
  have e := un_seen S.1.2.1 fun x hx => (hm.2.1.1 x hx).2.1
  obtain ⟨-, k2, k3, -⟩ := h
  rw [pk_sub (by omega), nI_add, nI_add, nI_add, nI_add]
  congr 1
  omega
/-! plans, reports -/
theorem pl_ok {K : Int} {m : MT} (hm : goodM K m) {k : Nat} (hk : k < m.2.2.2.length) (hl : m.2.2.2.length < 2 ^ 31) : 1000 < mPlan (nI k) m := by
  rw [mPlan_yes hk hl]
  have hp := hm.2.2.1.1.2 _ (List.getElem_mem hk)
  have e : (1000 : Int32).toInt = 1000 := rfl
  rw [Int32.lt_iff_toInt_lt, i_add (by rw [e]; omega) (by rw [e]; omega), e]
  omega
theorem rp_ok {K : Int} {m : MT} (hm : goodM K m) {k : Nat} (hk : k < m.2.2.1.length) (hl : m.2.2.1.length < 2 ^ 31) : 1 ≤ mReport (nI k) 0 m ∧ mReport (nI k) 0 m ≤ 6 ∧ 0 ≤ mReport (nI k) 1 m := by
  have hp := hm.2.2.1.1.1 _ (List.getElem_mem hk)
  have h8 : 0 ≤ (m.1 8).toInt ∧ (m.1 8).toInt ≤ 30000 := hm.1.2.2.2.2.2
  have e1 : (1 : Int32).toInt = 1 := rfl
  have e6 : (6 : Int32).toInt = 6 := rfl
  have e0 : (0 : Int32).toInt = 0 := rfl
  have a : mReport (nI k) 0 m = m.2.2.1[k].1 - m.1 8 + 1 := by
    rw [mReport_yes hk hl, if_pos rfl]
  have b : mReport (nI k) 1 m = m.2.2.1[k].2 := by
    rw [mReport_yes hk hl, if_neg (by decide), if_pos rfl]
  have i1 : (m.2.2.1[k].1 - m.1 8).toInt = (m.2.2.1[k].1).toInt - (m.1 8).toInt := i_sub (by omega) (by omega)
  have i2 : (m.2.2.1[k].1 - m.1 8 + 1).toInt = (m.2.2.1[k].1).toInt - (m.1 8).toInt + 1 := by
    rw [i_add (by rw [i1, e1]; omega) (by rw [i1, e1]; omega), i1, e1]
  rw [a, b, Int32.le_iff_toInt_le, Int32.le_iff_toInt_le, Int32.le_iff_toInt_le, i2, e1, e6, e0]
  omega
/-! what would be -/
theorem mIf_0 {n : Nat} (m : MT) (hn : 1 ≤ n) (hn2 : n ≤ 99) : mIf (nI n) 0 m = brg n 11 m := by
  unfold mIf
  rw [okT_at hn hn2, if_pos rfl, if_pos rfl, nI_clamp (by omega)]
theorem mIf_3 {n : Nat} (m : MT) (hn : 1 ≤ n) (hn2 : n ≤ 99) : mIf (nI n) 3 m = brg n 17 m := by
  unfold mIf
  rw [okT_at hn hn2, if_pos rfl, if_neg (by decide), if_neg (by decide), if_neg (by decide), if_pos rfl, nI_clamp (by omega)]
theorem mIf_f6 {n : Nat} (m : MT) (hn : 1 ≤ n) (hn2 : n ≤ 99) : mIf (nI n) 6 m = (mTicks n m).1 18 := by
  unfold mIf
  rw [okT_at hn hn2, if_pos rfl, if_neg (by decide), if_neg (by decide), if_neg (by decide), if_neg (by decide), if_neg (by decide), if_neg (by decide), if_pos rfl, nI_clamp (by omega)]
theorem best_ge (n : Nat) (m : MT) : ∀ k j : Nat, j < k → brg n 11 (withH m 2 (nI j)) ≤ (bestN n m k).2 := by
  intro k
  induction k with
  | zero => exact fun j h => absurd h (by omega)
  | succ k ih =>
    intro j hj
    rw [bestN_s]
    rcases (show j < k ∨ j = k by omega) with q | q
    · have w := ih j q
      split
      · rename_i h
        exact Int32.le_trans w (Int32.le_of_lt h)
      · exact w
    · subst q
      split
      · exact Int32.le_refl _
      · rename_i h
        exact Int32.not_lt.mp h
theorem withH_self {m : MT} {i : Nat} {v : Int32} (h : m.1 i = v) : withH m i v = m := by
  unfold withH
  have e : upd m.1 i v = m.1 := by
    funext j
    unfold upd
    split
    · rename_i q
      rw [q, h]
    · rfl
  rw [e]
theorem sLeft_c {c : Nat → Nat} {m : MT} (h : cntC c m) : sLeft m.1 = nI (c 11 + c 12 + c 13) := by
  unfold sLeft
  rw [h.1 11 (by omega) (by omega), h.1 12 (by omega) (by omega), h.1 13 (by omega) (by omega), nI_add, nI_add]
/-- what the law says of a while, and of its two parts -/
theorem fore {K : Int} {m : MT} (hm : goodM K m) (hK : K ≤ 2000) {c : Nat → Nat} (hc : cntC c m) (h10 : c 10 ≤ 100) (h8 : (m.1 8).toInt ≤ 10000) {a b : Nat} (ha : 1 ≤ a) (ha2 : a ≤ 30) (hb : 1 ≤ b) (hb2 : b ≤ 30) : ∃ p q p2 q2 r : Nat, p + q ≤ 100 ∧ p2 + q2 ≤ 100 ∧ p ≤ r ∧ r ≤ 1000 ∧ mIf (nI (a + b)) 0 m = nI (p + q) ∧ mIf (nI (a + b)) 3 m = nI (p2 + q2) ∧ mIf (nI a) 0 m = nI p ∧ mIf (nI a) 3 m = nI p2 ∧ nI p ≤ mBest (nI a) 1 m ∧ mPass (nI a) m = (nI r, mTicks a m) ∧ mIf (nI b) 0 (mTicks a m) = nI q ∧ mIf (nI b) 3 (mTicks a m) = nI q2 ∧ mIf (nI b) 6 (mTicks a m) = mIf (nI (a + b)) 6 m := by
  obtain ⟨g1, t1⟩ := hm.ticks (by omega) a (by omega)
  have h0 : 0 ≤ (m.1 8).toInt := hm.1.2.2.2.2.2.1
  obtain ⟨c1, k1, l1, n1⟩ := cnt_ticks (by omega) a hm (by omega) hc
  obtain ⟨c2, k2, l2, n2⟩ := cnt_ticks (by omega) b g1 (by omega) k1
  have w0 := cnt_le hc
  have w1 := cnt_le k1
  have w2 := cnt_le k2
  have s11 := l1 11
  have s12 := l1 12
  have s13 := l1 13
  have s17 := l1 17
  have z11 := l2 11
  have z17 := l2 17
  have e := pass_at (m := m) (n := a) ha (by omega) h0 (by omega)
  rw [sLeft_c k1, sLeft_c hc, pk_sub (by omega)] at e
  have x1 : brg a 11 m = nI (c1 11 - c 11) := by
    unfold brg
    rw [k1.1 11 (by omega) (by omega), hc.1 11 (by omega) (by omega), pk_sub s11]
  have x2 : brg a 17 m = nI (c1 17 - c 17) := by
    unfold brg
    rw [k1.1 17 (by omega) (by omega), hc.1 17 (by omega) (by omega), pk_sub s17]
  have y1 : brg b 11 (mTicks a m) = nI (c2 11 - c1 11) := by
    unfold brg
    rw [k2.1 11 (by omega) (by omega), k1.1 11 (by omega) (by omega), pk_sub z11]
  have y2 : brg b 17 (mTicks a m) = nI (c2 17 - c1 17) := by
    unfold brg
    rw [k2.1 17 (by omega) (by omega), k1.1 17 (by omega) (by omega), pk_sub z17]
  have v1 : brg (a + b) 11 m = nI (c1 11 - c 11 + (c2 11 - c1 11)) := by
    unfold brg
    rw [mTicks_add, k2.1 11 (by omega) (by omega), hc.1 11 (by omega) (by omega), pk_sub (by omega)]
    congr 1
    omega
  have v2 : brg (a + b) 17 m = nI (c1 17 - c 17 + (c2 17 - c1 17)) := by
    unfold brg
    rw [mTicks_add, k2.1 17 (by omega) (by omega), hc.1 17 (by omega) (by omega), pk_sub (by omega)]
    congr 1
    omega
  refine ⟨c1 11 - c 11, c2 11 - c1 11, c1 17 - c 17, c2 17 - c1 17, _, by omega, by omega, ?_, ?_, ?_, ?_, ?_, ?_, ?_, e, ?_, ?_, ?_⟩
  · omega
  · omega
  · rw [mIf_0 m (by omega) (by omega), v1]
  · rw [mIf_3 m (by omega) (by omega), v2]
  · rw [mIf_0 m (by omega) (by omega), x1]
  · rw [mIf_3 m (by omega) (by omega), x2]
  · obtain ⟨G, hG, eG⟩ := hm.1.2.2.1
    rw [mBest_1 (by omega) (okT_at ha (by omega)), ← x1]
    have w := best_ge a m 6 G (by omega)
    rw [withH_self eG] at w
    exact w
  · rw [mIf_0 _ (by omega) (by omega), y1]
  · rw [mIf_3 _ (by omega) (by omega), y2]
  · rw [mIf_f6 _ (by omega) (by omega), mIf_f6 _ (by omega) (by omega), mTicks_add]
theorem undo_ok {S : ST} {m : MT} {hi : List MT} {z : (Nat → Option MT) × List Int32} {x : MT} (h : S = (m, pushH hi x, z)) (hl : hi.length ≤ 6) : ¬ (sUndo S).1 < 0 := by
  subst h
  unfold sUndo
  have hne : (pushH hi x).getLast? = some x := by
    unfold pushH
    simp
  have hlen : (pushH hi x).length ≤ 7 := by
    unfold pushH
    rw [List.length_append, List.length_singleton]
    split
    · rw [List.length_drop]
      omega
    · omega
  show ¬ (match (pushH hi x).getLast? with | none => ((-5 : Int32), (m, pushH hi x, z)) | some y => (nI ((pushH hi x).length - 1), (y, (pushH hi x).dropLast, z))).1 < 0
  rw [hne]
  exact nI_pos (by omega)
