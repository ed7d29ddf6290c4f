/-! boxes as whole numbers -/
def frX (x : Nat → Int32) : Int := (x 0).toInt
def lnX (x : Nat → Int32) : Int := (x 1).toInt
/-- twice the middle -/
def ctX (x : Nat → Int32) : Int := 2 * frX x - lnX x
/-- a box is as it can be; K bounds how far turns have set it back -/
def bOK (K : Int) (x : Nat → Int32) : Prop := (4 ≤ lnX x ∧ lnX x ≤ 30) ∧ (x 2 = 0 ∨ x 2 = 1) ∧ -K ≤ ctX x ∧ frX x ≤ 150 ∧ (x 2 = 0 → ctX x ≤ 34)
def apart (x y : Nat → Int32) : Prop := frX y + 1 ≤ frX x - lnX x
theorem bk_i {K : Int} {x : Nat → Int32} (hK : K ≤ 100000000) (h : bOK K x) : (x 0 - x 1).toInt = frX x - lnX x := by
  obtain ⟨h1, -, h3, h4, -⟩ := h
  unfold ctX at h3
  unfold frX lnX at *
  exact i_sub (by omega) (by omega)
theorem under_i {K : Int} {x : Nat → Int32} (hK : K ≤ 100000000) (h : bOK K x) : isUnder x = true ↔ 60 ≤ frX x ∧ frX x - lnX x < 60 := by
  have e := bk_i hK h
  have e60 : (60 : Int32).toInt = 60 := rfl
  unfold isUnder
  simp only [Bool.and_eq_true, decide_eq_true_eq]
  rw [Int32.le_iff_toInt_le, Int32.lt_iff_toInt_lt, e, e60]
  rfl
theorem out_i {K : Int} {x : Nat → Int32} (hK : K ≤ 100000000) (h : bOK K x) : isOut x = true ↔ 100 ≤ frX x - lnX x := by
  have e := bk_i hK h
  have e100 : (100 : Int32).toInt = 100 := rfl
  unfold isOut
  simp only [decide_eq_true_eq]
  rw [Int32.le_iff_toInt_le, e, e100]
theorem unseen_i {x : Nat → Int32} : unseen x = true ↔ x 2 = 0 ∧ 20 ≤ frX x := by
  have e20 : (20 : Int32).toInt = 20 := rfl
  unfold unseen
  simp only [Bool.and_eq_true, decide_eq_true_eq]
  rw [Int32.le_iff_toInt_le, e20]
  rfl
theorem oneU_of {K : Int} {bs : List (Nat → Int32)} (hK : K ≤ 100000000) (h : ∀ x ∈ bs, bOK K x) (hp : bs.Pairwise apart) : oneU bs := by
  unfold oneU
  rw [List.pairwise_map]
  refine List.Pairwise.imp_of_mem (fun {x y} hx hy hxy hu => ?_) hp
  rw [under_i hK (h x hx)] at hu
  rw [← Bool.not_eq_true, under_i hK (h y hy)]
  unfold apart at hxy
  omega
theorem ct_apart {K : Int} {x y : Nat → Int32} (hx : bOK K x) (hy : bOK K y) (h : apart x y) : ctX y + 10 ≤ ctX x := by
  obtain ⟨h1, -⟩ := hx
  obtain ⟨h2, -⟩ := hy
  unfold apart at h
  unfold ctX
  omega
/-- behind a seen box none is seen that lies ahead unseen -/
def seenP (bs : List (Nat → Int32)) : Prop := bs.Pairwise (fun x y => y 2 = 1 → x 2 = 1)
/-- where the last seen box lies -/
def dOf (bs : List (Nat → Int32)) : Int := match (bs.filter (fun x => decide (x 2 = 1))).getLast? with
  | none => 62
  | some x => ctX x
/-- the belt's part of the invariant -/
def beltOK (K : Int) (m : MT) : Prop := (∀ x ∈ m.2.1, bOK K x) ∧ m.2.1.Pairwise apart ∧ seenP m.2.1
theorem fr_move {K v : Int} {x : Nat → Int32} {v32 : Int32} (hK : K ≤ 100000000) (hv : v32.toInt = v) (h0 : 0 ≤ v ∧ v ≤ 9) (h : bOK K x) : frX (xMove v32 x) = frX x + v ∧ lnX (xMove v32 x) = lnX x := by
  obtain ⟨h1, -, h3, h4, -⟩ := h
  unfold ctX at h3
  constructor
  · show (x 0 + v32).toInt = (x 0).toInt + v
    unfold frX lnX at *
    rw [i_add (by omega) (by omega), hv]
  · rfl
