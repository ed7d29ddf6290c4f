theorem nar_cn {n : Nat} (h : n < 65536) : narrow .char (.int (nI n)) = .int (nI n) := by
  have e : ((nI n).toUInt32.toUInt16.toUInt32.toInt32) = nI n := by
    unfold nI
    apply Int32.toBitVec_inj.mp
    simp
    apply BitVec.eq_of_toNat_eq
    simp
    omega
  first | exact congrArg Value.int e | (simp only [narrow]; rw [e])
def dg (v : Int32) : Bool := decide (48 ≤ v) && decide (v ≤ 57)
/-- what is due behind a sign -/
def duF (d : Nat) (v : Int32) : Nat :=
  if d = 0 then (if v = 116 then 1 else if v = 98 ∨ v = 119 ∨ v = 115 then 3 else 6)
  else if d = 1 then (if 48 ≤ v ∧ v ≤ 55 then 2 else 6)
  else if d = 2 then (if v = 61 then 3 else 6)
  else if d = 3 then (if v = 48 then 5 else if dg v then 4 else 6)
  else if d = 4 then (if dg v then 5 else if v = 59 then 0 else 6)
  else if d = 5 then (if v = 59 then 0 else 6) else 6
theorem duF_le (d : Nat) (v : Int32) : duF d v ≤ 6 := by
  unfold duF
  repeat' (first | decide | split)
def autoF : Nat → Nat → List Int32 → Int32
  | d, i, [] => if d = 4 ∨ d = 5 then -6 else nI i
  | d, i, c :: t => if duF d c = 6 then nI i else autoF (duF d c) (i + 1) t
def numL : Int32 → List Int32 → Int32
  | acc, [] => acc
  | acc, c :: t => if dg c then numL (10 * acc + (c - 48)) t else acc
def sgn (p : List Int32) (i : Nat) : Int32 := p.getD i 59
/-- at z, z+1 of the world u is a pad with the text p -/
def PAt (g : GE) (ad : Nat → Nat) (z : Nat) (p : List Int32) (u : Nat → va_E) : Prop := ∃ sg : Nat → Int32, u z = .inr (3, [.ref (ad (z + 1)), .int (nI p.length)]) ∧ u (z + 1) = .inl (g.2.1 1, 60, .inl sg) ∧ rPad sg (nI p.length) p
def padOK (p : List Int32) : Prop := ∀ c ∈ p, 0 ≤ c.toInt ∧ c.toInt < 65536
theorem nar_c {c : Int32} (h : 0 ≤ c.toInt ∧ c.toInt < 65536) : narrow .char (.int c) = .int c := by
  obtain ⟨n, hn⟩ := Int.eq_ofNat_of_zero_le h.1
  have e := nI_of_int hn (by omega)
  subst e
  exact nar_cn (by omega)
