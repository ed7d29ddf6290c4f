/-! texts: what is read from a place on -/
def hereB (l : List Int32) (a b : Int32) : Bool := match l with
  | [] => false
  | c :: _ => decide (a ≤ c) && decide (c ≤ b)
/-- a number: is there one, how many characters, which -/
def rdNum (l : List Int32) : Bool × Nat × Int32 := match l with
  | [] => (false, 0, 0)
  | c :: t => if hereB (c :: t) 48 57 then (if 0 < c - 48 then (match t with
      | [] => (true, 1, c - 48)
      | e :: _ => if hereB t 48 57 then (true, 2, 10 * (c - 48) + e - 48) else (true, 1, c - 48)) else (true, 1, c - 48)) else (false, 0, 0)
/-- an order: is it well, how many characters, its letter, its box, its number -/
def rdOrder (l : List Int32) : Bool × Nat × Int32 × Int32 × Int32 := match l with
  | [] => (false, 0, 0, 0, 0)
  | c :: t =>
    if c = 116 then (match t with
      | [] => (false, 1, c, 0, 0)
      | b :: t2 => if hereB (b :: t2) 48 55 then (match t2 with
          | [] => (false, 2, c, b - 48, 0)
          | e :: t3 => if e = 61 then ((rdNum t3).1, 3 + (rdNum t3).2.1, c, b - 48, (rdNum t3).2.2) else (false, 2, c, b - 48, 0)) else (false, 1, c, 0, 0))
    else if c = 98 ∨ c = 119 ∨ c = 115 then ((rdNum t).1, 1 + (rdNum t).2.1, c, 0, (rdNum t).2.2)
    else (false, 0, c, 0, 0)
def faultR : Nat → Nat → List Int32 → Int32
  | 0, _, _ => 0
  | f + 1, i, l => if (rdOrder l).1 then (match l.drop (rdOrder l).2.1 with
      | [] => -6
      | c :: t => if c = 59 then faultR f (i + (rdOrder l).2.1 + 1) t else nI (i + (rdOrder l).2.1)) else nI (i + (rdOrder l).2.1)
def sFault (p : List Int32) : Int32 := faultR (p.length + 1) 0 p
def doOrd (o wb nb : Int32) (m : MT) : Int32 × MT := if o = 98 then mArrive nb m else if o = 119 then mPass nb m else if o = 115 then mSet 0 nb m else mTurn wb nb m
def ordQ (l : List Int32) (m : MT) : Int32 × MT := doOrd (rdOrder l).2.2.1 (rdOrder l).2.2.2.1 (rdOrder l).2.2.2.2 m
def ordN : Nat → List Int32 → MT → Nat × MT
  | 0, _, m => (0, m)
  | f + 1, l, m => if (rdOrder l).1 then (if (ordQ l m).1 < 0 then (0, (ordQ l m).2) else (match l.drop (rdOrder l).2.1 with
      | [] => (1, (ordQ l m).2)
      | c :: t => if c = 59 then ((ordN f t (ordQ l m).2).1 + 1, (ordN f t (ordQ l m).2).2) else (1, (ordQ l m).2))) else (0, m)
/-- every belt from which an order is carried out can let ticks pass -/
def ordOK : Nat → List Int32 → MT → Prop
  | 0, _, _ => True
  | f + 1, l, m => (∀ n, n ≤ 99 → TicksOK n m) ∧ ((rdOrder l).1 = true → ¬ (ordQ l m).1 < 0 → ∀ t, l.drop (rdOrder l).2.1 = 59 :: t → ordOK f t (ordQ l m).2)
def sCarry (S : ST) : Int32 × ST := if sFault S.2.2.2 = -6 then (nI (ordN (S.2.2.2.length + 1) S.2.2.2 S.1).1, ((ordN (S.2.2.2.length + 1) S.2.2.2 S.1).2, pushH S.2.1 S.1, S.2.2.1, [])) else (-3, S)
theorem hereB_i {l : List Int32} {a b : Int32} (h : hereB l a b = true) : ∃ c t, l = c :: t ∧ a ≤ c ∧ c ≤ b := by
  cases l with
  | nil => cases h
  | cons c t =>
    simp only [hereB, Bool.and_eq_true, decide_eq_true_eq] at h
    exact ⟨c, t, rfl, h⟩
theorem rdNum_le (l : List Int32) : (rdNum l).2.1 ≤ l.length := by
  unfold rdNum
  split
  · exact Nat.le_refl _
  · split
    · split
      · split
        · simp
        · split <;> simp
      · simp
    · simp
theorem rdOrder_le (l : List Int32) : (rdOrder l).2.1 ≤ l.length := by
  unfold rdOrder
  split
  · exact Nat.le_refl _
  · split
    · split
      · simp
      · split
        · split
          · simp
          · split
            · rename_i t3 _ _
              have := rdNum_le t3
              simp
              omega
            · simp
        · simp
    · split
      · rename_i t _ _
        have := rdNum_le t
        simp
        omega
      · simp
theorem rdOrder_pos {l : List Int32} (h : (rdOrder l).1 = true) : 0 < (rdOrder l).2.1 := by
  revert h
  unfold rdOrder
  split
  · intro h; cases h
  · split
    · split
      · intro h; cases h
      · split
        · split
          · intro h; cases h
          · split
            · intro _; simp; omega
            · intro h; cases h
        · intro h; cases h
    · split
      · intro _; simp; omega
      · intro h; cases h
