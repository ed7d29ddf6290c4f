/-! the belt as a mathematical value: h the numbers (by the reference's places 0 to 26; 9, 19, 20 aren't used), the boxes (front, length, seen, mark or -6, twice, number), the reports (when, excess), the plans -/
abbrev MT : Type := (Nat → Int32) × List (Nat → Int32) × List (Int32 × Int32) × List Int32
def hMove (h : Nat → Int32) : Nat → Int32 := fun i => if i = 22 then h 0 else if 23 ≤ i ∧ i ≤ 26 then h (i - 1) else if i = 21 then h 21 + h 0 else h i
def xMove (v : Int32) (x : Nat → Int32) : Nat → Int32 := upd x 0 (x 0 + v)
def mMove (m : MT) : MT := (hMove m.1, m.2.1.map (xMove (m.1 0)), m.2.2.1, m.2.2.2)
def unseen (x : Nat → Int32) : Bool := decide (x 2 = 0) && decide (20 ≤ x 0)
def xSee (x : Nat → Int32) : Nat → Int32 := if unseen x then upd x 2 1 else x
def mkRep (h : Nat → Int32) (x : Nat → Int32) : Int32 × Int32 := (h 8 + h 1, x 0 - 20)
def mSee (m : MT) : MT := (m.1, m.2.1.map xSee, m.2.2.1 ++ (m.2.1.filter unseen).map (mkRep m.1), m.2.2.2)
def mCount (m : MT) : MT := (m.1, m.2.1, m.2.2.1, m.2.2.2.map (fun p => p - m.1 0))
def gwN (h : Nat → Int32) : Nat → Int32
  | 0 => 0
  | n + 1 => gwN h n + h (22 + n)
def gw (h : Nat → Int32) : Int32 := gwN h (h 2).toNatClampNeg
def isDue (h : Nat → Int32) (r : Int32 × Int32) : Bool := decide (r.1 ≤ h 8)
def mkPlan (h : Nat → Int32) (r : Int32 × Int32) : Int32 := 40 + h 3 - r.2 - gw h
def mTake (m : MT) : MT := (m.1, m.2.1, m.2.2.1.filter (fun r => !isDue m.1 r), m.2.2.2 ++ (m.2.2.1.filter (isDue m.1)).map (mkPlan m.1))
def isUnder (x : Nat → Int32) : Bool := decide (60 ≤ x 0) && decide (x 0 - x 1 < 60)
def xMark (x : Nat → Int32) : Nat → Int32 := if x 3 = -6 then upd x 3 (x 0 - 60) else upd (upd x 4 1) 3 (x 0 - 60)
def bMark : List (Nat → Int32) → List (Nat → Int32)
  | [] => []
  | x :: t => if isUnder x then xMark x :: t else x :: bMark t
def hTaken (h : Nat → Int32) : Nat → Int32 := upd h 18 (h 18 - h 4)
def hMarked (h : Nat → Int32) (x : Nat → Int32) : Nat → Int32 := if x 3 = -6 then upd h 14 (h 14 + 1) else upd (upd h 14 (h 14 + 1)) 16 (h 16 + 1)
def mMark (q : (Nat → Int32) × List (Nat → Int32)) : (Nat → Int32) × List (Nat → Int32) :=
  if q.1 18 < q.1 4 then (upd q.1 17 (q.1 17 + 1), q.2)
  else match q.2.find? isUnder with
    | none => (upd (hTaken q.1) 15 (q.1 15 + 1), q.2)
    | some x => (hMarked (hTaken q.1) x, bMark q.2)
def doOne (q : (Nat → Int32) × List (Nat → Int32)) (p : Int32) : (Nat → Int32) × List (Nat → Int32) := if p ≤ 0 then mMark q else q
def mDo (m : MT) : MT := ((m.2.2.2.foldl doOne (m.1, m.2.1)).1, (m.2.2.2.foldl doOne (m.1, m.2.1)).2, m.2.2.1, m.2.2.2.filter (fun p => !decide (p ≤ 0)))
def hFeed (h : Nat → Int32) : Nat → Int32 := upd h 18 (if h 5 < h 18 + h 6 then h 5 else h 18 + h 6)
def mFeed (m : MT) : MT := (hFeed m.1, m.2)
def fate (h : Nat → Int32) (x : Nat → Int32) : Nat := if x 3 = -6 then 13 else if x 4 = 0 ∧ -(h 7) ≤ x 3 - h 3 ∧ x 3 - h 3 ≤ h 7 then 11 else 12
def isOut (x : Nat → Int32) : Bool := decide (100 ≤ x 0 - x 1)
def outOne (h : Nat → Int32) (x : Nat → Int32) : Nat → Int32 := if isOut x then upd h (fate h x) (h (fate h x) + 1) else h
def mLeave (m : MT) : MT := (m.2.1.foldl outOne m.1, m.2.1.filter (fun x => !isOut x), m.2.2)
def mClock (m : MT) : MT := (upd m.1 8 (m.1 8 + 1), m.2)
def mTick (m : MT) : MT := mClock (mLeave (mFeed (mDo (mTake (mCount (mSee (mMove m)))))))
def mTicks : Nat → MT → MT
  | 0, m => m
  | n + 1, m => mTicks n (mTick m)
def sLeft (h : Nat → Int32) : Int32 := h 11 + h 12 + h 13
/-! the changes: the answer, and the value behind it -/
def lowS (k : Nat) : Int32 := lstA [0, 0, 0, 0, 1, 1, 0, 0] k
def highS (k : Nat) : Int32 := lstA [9, 5, 5, 20, 20, 60, 9, 9] k
def mSet (k v : Int32) (m : MT) : Int32 × MT := if k < 0 ∨ 8 ≤ k then (-2, m) else if v < lowS k.toNatClampNeg ∨ highS k.toNatClampNeg < v then (-2, m) else (m.1 k.toNatClampNeg, (upd m.1 k.toNatClampNeg v, m.2))
def newX (len num : Int32) : Nat → Int32 := fun w => if w = 1 then len else if w = 3 then -6 else if w = 5 then num else 0
def backX (x : Nat → Int32) : Int32 := x 0 - x 1
def badLen (v : Int32) : Prop := v < 4 ∨ 30 < v
def oneU (bs : List (Nat → Int32)) : Prop := (bs.map isUnder).Pairwise (fun p q => p = true → q = false)
def TickOK (m : MT) : Prop := m.2.2.1.length + ((mMove m).2.1.filter unseen).length + m.2.2.2.length ≤ 28 ∧ (∃ G : Nat, G ≤ 5 ∧ m.1 2 = nI G) ∧ oneU (mMove m).2.1
def TicksOK (n : Nat) (m : MT) : Prop := ∀ k, k < n → TickOK (mTicks k m)
