/-! the belt as a mathematical value: h the numbers (by the reference's places 0 to 26; 9, 19, 20 aren't used), the boxes (front, length, seen, mark or -6, twice, number), the reports (when, excess), the plans -/
abbrev MT : Type := (Nat → Int32) × List (Nat → Int32) × List (Int32 × Int32) × List Int32
def hMove (h : Nat → Int32) : Nat → Int32 := fun i => if i = 22 then h 0 else if 23 ≤ i ∧ i ≤ 26 then h (i - 1) else if i = 21 then h 21 + h 0 else h i
def xMove (v : Int32) (x : Nat → Int32) : Nat → Int32 := upd x 0 (x 0 + v)
def mMove (m : MT) : MT := (hMove m.1, m.2.1.map (xMove (m.1 0)), m.2.2.1, m.2.2.2)
def unseen (x : Nat → Int32) : Bool := decide (x 2 = 0) && decide (20 ≤ x 0)
def xSee (x : Nat → Int32) : Nat → Int32 := if unseen x then upd x 2 1 else x
def mkRep (h : Nat → Int32) (x : Nat → Int32) : Int32 × Int32 := (h 8 + h 1, x 0 - 20)
def mSee (m : MT) : MT := (m.1, m.2.1.map xSee, m.2.2.1 ++ (m.2.1.filter unseen).map (mkRep m.1), m.2.2.2)
def mCount (m : MT) : MT := (m.1, m.2.1, m.2.2.1, m.2.2.2.map (fun p => p - m.1 0))
def gwN (h : Nat → Int32) : Nat → Int32
  | 0 => 0
  | n + 1 => gwN h n + h (22 + n)
def gw (h : Nat → Int32) : Int32 := gwN h (h 2).toNatClampNeg
def isDue (h : Nat → Int32) (r : Int32 × Int32) : Bool := decide (r.1 ≤ h 8)
def mkPlan (h : Nat → Int32) (r : Int32 × Int32) : Int32 := 40 + h 3 - r.2 - gw h
def mTake (m : MT) : MT := (m.1, m.2.1, m.2.2.1.filter (fun r => !isDue m.1 r), m.2.2.2 ++ (m.2.2.1.filter (isDue m.1)).map (mkPlan m.1))
def isUnder (x : Nat → Int32) : Bool := decide (60 ≤ x 0) && decide (x 0 - x 1 < 60)
def xMark (x : Nat → Int32) : Nat → Int32 := if x 3 = -6 then upd x 3 (x 0 - 60) else upd (upd x 4 1) 3 (x 0 - 60)
def bMark : List (Nat → Int32) → List (Nat → Int32)
  | [] => []
  | x :: t => if isUnder x then xMark x :: t else x :: bMark t
def hTaken (h : Nat → Int32) : Nat → Int32 := upd h 18 (h 18 - h 4)
def hMarked (h : Nat → Int32) (x : Nat → Int32) : Nat → Int32 := if x 3 = -6 then upd h 14 (h 14 + 1) else upd (upd h 14 (h 14 + 1)) 16 (h 16 + 1)
def mMark (q : (Nat → Int32) × List (Nat → Int32)) : (Nat → Int32) × List (Nat → Int32) :=
  if q.1 18 < q.1 4 then (upd q.1 17 (q.1 17 + 1), q.2)
  else match q.2.find? isUnder with
    | none => (upd (hTaken q.1) 15 (q.1 15 + 1), q.2)
    | some x => (hMarked (hTaken q.1) x, bMark q.2)
def doOne (q : (Nat → Int32) × List (Nat → Int32)) (p : Int32) : (Nat → Int32) × List (Nat → Int32) := if p ≤ 0 then mMark q else q
def mDo (m : MT) : MT := ((m.2.2.2.foldl doOne (m.1, m.2.1)).1, (m.2.2.2.foldl doOne (m.1, m.2.1)).2, m.2.2.1, m.2.2.2.filter (fun p => !decide (p ≤ 0)))
def hFeed (h : Nat → Int32) : Nat → Int32 := upd h 18 (if h 5 < h 18 + h 6 then h 5 else h 18 + h 6)
def mFeed (m : MT) : MT := (hFeed m.1, m.2)
def fate (h : Nat → Int32) (x : Nat → Int32) : Nat := if x 3 = -6 then 13 else if x 4 = 0 ∧ -(h 7) ≤ x 3 - h 3 ∧ x 3 - h 3 ≤ h 7 then 11 else 12
def isOut (x : Nat → Int32) : Bool := decide (100 ≤ x 0 - x 1)
def outOne (h : Nat → Int32) (x : Nat → Int32) : Nat → Int32 := if isOut x then upd h (fate h x) (h (fate h x) + 1) else h
def mLeave (m : MT) : MT := (m.2.1.foldl outOne m.1, m.2.1.filter (fun x => !isOut x), m.2.2)
def mClock (m : MT) : MT := (upd m.1 8 (m.1 8 + 1), m.2)
def mTick (m : MT) : MT := mClock (mLeave (mFeed (mDo (mTake (mCount (mSee (mMove m)))))))
def mTicks : Nat → MT → MT
  | 0, m => m
  | n + 1, m => mTicks n (mTick m)
def sLeft (h : Nat → Int32) : Int32 := h 11 + h 12 + h 13
/-! the changes: the answer, and the value behind it -/
def lowS (k : Nat) : Int32 := lstA [0, 0, 0, 0, 1, 1, 0, 0] k
def highS (k : Nat) : Int32 := lstA [9, 5, 5, 20, 20, 60, 9, 9] k
def okS (k v : Int32) : Bool := decide (0 ≤ k) && decide (k < 8) && decide (lowS k.toNatClampNeg ≤ v) && decide (v ≤ highS k.toNatClampNeg)
def mSet (k v : Int32) (m : MT) : Int32 × MT := if okS k v then (m.1 k.toNatClampNeg, (upd m.1 k.toNatClampNeg v, m.2)) else (-2, m)
def newX (len num : Int32) : Nat → Int32 := fun w => if w = 1 then len else if w = 3 then -6 else if w = 5 then num else 0
def okLen (v : Int32) : Bool := decide (4 ≤ v) && decide (v ≤ 30)
def nearIn (bs : List (Nat → Int32)) : Bool := match bs.getLast? with
  | none => false
  | some x => decide (x 0 - x 1 < 1)
def mArrive (len : Int32) (m : MT) : Int32 × MT :=
  if okLen len then
    if m.2.1.length = 8 then (-4, m)
    else if nearIn m.2.1 then (-5, m)
    else (nI m.2.1.length, (upd m.1 10 (m.1 10 + 1), m.2.1 ++ [newX len (m.1 10)], m.2.2))
  else (-2, m)
def halfD (by_ : Int32) : Int32 := if by_ < 0 then -((1 - by_) / 2) else by_ / 2
def frontT (x : Nat → Int32) (len : Int32) : Int32 := x 0 + halfD (len - x 1)
def xTurn (x : Nat → Int32) (len : Int32) : Nat → Int32 := upd (upd x 0 (frontT x len)) 1 len
/-- is there room for the box x, turned, behind the boxes d and ahead of the boxes r -/
def roomT (d : List (Nat → Int32)) (x : Nat → Int32) (r : List (Nat → Int32)) (len : Int32) : Bool :=
  (match d.getLast? with
    | none => true
    | some y => decide (1 ≤ y 0 - y 1 - frontT x len)) &&
  (match r with
    | [] => true
    | y :: _ => decide (1 ≤ frontT x len - len - y 0))
def mTurnAt (k : Nat) (len : Int32) (m : MT) : Int32 × MT := match m.2.1[k]? with
  | none => (-1, m)
  | some x =>
    if okLen len then
      if roomT (m.2.1.take k) x (m.2.1.drop (k + 1)) len then (frontT x len + 1000, (m.1, m.2.1.take k ++ xTurn x len :: m.2.1.drop (k + 1), m.2.2))
      else (-5, m)
    else (-2, m)
def mTurn (b len : Int32) (m : MT) : Int32 × MT := if b < 0 then (-1, m) else mTurnAt b.toNatClampNeg len m
def okT (t : Int32) : Bool := decide (1 ≤ t) && decide (t ≤ 99)
def mPass (t : Int32) (m : MT) : Int32 × MT :=
  if okT t then
    if 20000 < m.1 8 + t then (-4, m) else (sLeft (mTicks t.toNatClampNeg m).1 - sLeft m.1, mTicks t.toNatClampNeg m)
  else (-2, m)
/-! what there is, what if -/
def mBox (b w : Int32) (m : MT) : Int32 := if b < 0 then -1 else match m.2.1[b.toNatClampNeg]? with
  | none => -1
  | some x => if w = 0 then x 0 + 1000 else if w = 3 then (if x 3 = -6 then -6 else x 3 + 1000) else if w = 1 then x 1 else if w = 2 then x 2 else if w = 4 then x 4 else if w = 5 then x 5 else -2
def mPlan (k : Int32) (m : MT) : Int32 := if k < 0 then -1 else match m.2.2.2[k.toNatClampNeg]? with
  | none => -1
  | some p => p + 1000
def mReport (k w : Int32) (m : MT) : Int32 := if k < 0 then -1 else match m.2.2.1[k.toNatClampNeg]? with
  | none => -1
  | some r => if w = 0 then r.1 - m.1 8 + 1 else if w = 1 then r.2 else -2
/-- the numbers, by the reference's places -/
def hAll (m : MT) (i : Nat) : Int32 := if i = 9 then nI m.2.1.length else if i = 19 then nI m.2.2.1.length else if i = 20 then nI m.2.2.2.length else m.1 i
def brg (n : Nat) (w : Nat) (m : MT) : Int32 := (mTicks n m).1 w - m.1 w
def mIf (t w : Int32) (m : MT) : Int32 := if okT t then
    (if w = 0 then brg t.toNatClampNeg 11 m else if w = 1 then brg t.toNatClampNeg 12 m else if w = 2 then brg t.toNatClampNeg 13 m else if w = 3 then brg t.toNatClampNeg 17 m else if w = 4 then brg t.toNatClampNeg 14 m else if w = 5 then brg t.toNatClampNeg 15 m else if w = 6 then (mTicks t.toNatClampNeg m).1 18 else -2)
  else -2
def withH (m : MT) (i : Nat) (v : Int32) : MT := (upd m.1 i v, m.2)
/-- the best guess among the first k: (the guess, how many) -/
def bestN (n : Nat) (m : MT) : Nat → Int32 × Int32
  | 0 => (0, -1)
  | k + 1 => if (bestN n m k).2 < brg n 11 (withH m 2 (nI k)) then (nI k, brg n 11 (withH m 2 (nI k))) else bestN n m k
def mBest (t w : Int32) (m : MT) : Int32 := if okT t then (if w = 0 then (bestN t.toNatClampNeg m 6).1 else if w = 1 then (bestN t.toNatClampNeg m 6).2 else -2) else -2
/-- the least slack, found from 60 down to k -/
def needN (n : Nat) (m : MT) : Nat → Int32
  | 0 => -6
  | j + 1 => if brg n 17 (withH m 18 (nI (60 - j))) = 0 then nI (60 - j) else needN n m j
def mNeed (t : Int32) (m : MT) : Int32 := if okT t then needN t.toNatClampNeg m 61 else -2
/-! everything: the belt, the history (the latest state last), the slots, the pad -/
abbrev ST : Type := MT × List MT × (Nat → Option MT) × List Int32
def pushH (hi : List MT) (m : MT) : List MT := (if hi.length = 6 then hi.drop 1 else hi) ++ [m]
def sChange (q : Int32 × MT) (S : ST) : Int32 × ST := (q.1, (q.2, if q.1 < 0 then S.2.1 else pushH S.2.1 S.1, S.2.2))
def sCount (w : Int32) (S : ST) : Int32 :=
  if w < 0 then -2 else if w < 14 then hAll S.1 (8 + w.toNatClampNeg) else if w < 22 then S.1.1 (w.toNatClampNeg - 14) else if w = 22 then nI S.2.2.2.length else if w = 23 then nI S.2.1.length else -2
def sUndo (S : ST) : Int32 × ST := match S.2.1.getLast? with
  | none => (-5, S)
  | some m => (nI (S.2.1.length - 1), (m, S.2.1.dropLast, S.2.2))
def sSave (k : Int32) (S : ST) : Int32 × ST := if 0 ≤ k ∧ k ≤ 1 then (S.1.1 8, (S.1, S.2.1, va_up S.2.2.1 k.toNatClampNeg (some S.1), S.2.2.2)) else (-2, S)
def sRestore (k : Int32) (S : ST) : Int32 × ST := if 0 ≤ k ∧ k ≤ 1 then (match S.2.2.1 k.toNatClampNeg with
    | none => (-5, S)
    | some m => sChange (m.1 8, m) S) else (-2, S)
def oneU (bs : List (Nat → Int32)) : Prop := (bs.map isUnder).Pairwise (fun p q => p = true → q = false)
def TickOK (m : MT) : Prop := m.2.2.1.length + ((mMove m).2.1.filter unseen).length + m.2.2.2.length ≤ 28 ∧ (∃ G : Nat, G ≤ 5 ∧ m.1 2 = nI G) ∧ oneU (mMove m).2.1
def TicksOK (n : Nat) (m : MT) : Prop := ∀ k, k < n → TickOK (mTicks k m)
/-- what the ticks of a call, and those that are tried, need -/
def AllOK (m : MT) : Prop := ∀ t : Nat, t ≤ 99 → TicksOK t m ∧ (∀ k : Nat, k ≤ 5 → TicksOK t (withH m 2 (nI k))) ∧ ∀ k : Nat, k ≤ 60 → TicksOK t (withH m 18 (nI k))
