/-! the reference's row as a belt's value -/
theorem cut_l {α : Type} {d r : List α} {x y : α} {j : Nat} (h : j < d.length) : (d ++ x :: r)[j]? = some y ↔ d[j]? = some y := by rw [List.getElem?_append_left h]
theorem cut_m {α : Type} {d r : List α} {x : α} : (d ++ x :: r)[d.length]? = some x := by simp
theorem cut_r {α : Type} {d r : List α} {x y : α} {j : Nat} (h : d.length < j) : (d ++ x :: r)[j]? = some y ↔ r[j - d.length - 1]? = some y := by
  rw [List.getElem?_append_right (by omega), List.getElem?_cons, if_neg (by omega)]
theorem cut_g {α : Type} {d r : List α} {y : α} {j : Nat} (h : d.length ≤ j) : (d ++ r)[j]? = some y ↔ r[j - d.length]? = some y := by rw [List.getElem?_append_right h]
theorem cut_s {α : Type} {d r : List α} {y : α} {j : Nat} (h : j < d.length) : (d ++ r)[j]? = some y ↔ d[j]? = some y := by rw [List.getElem?_append_left h]
def rH (a : Nat → Int32) (h : Nat → Int32) : Prop := ∀ i, i < 27 → i ≠ 9 → i ≠ 19 → i ≠ 20 → a i = h i
def rB (a : Nat → Int32) (bs : List (Nat → Int32)) : Prop := a 9 = nI bs.length ∧ bs.length ≤ 8 ∧ ∀ j x, bs[j]? = some x → ∀ w, w < 6 → a (27 + 6 * j + w) = x w
def rR (a : Nat → Int32) (rs : List (Int32 × Int32)) : Prop := a 19 = nI rs.length ∧ rs.length ≤ 28 ∧ ∀ j r, rs[j]? = some r → a (75 + 2 * j) = r.1 ∧ a (75 + 2 * j + 1) = r.2
def rP (a : Nat → Int32) (ps : List Int32) : Prop := a 20 = nI ps.length ∧ ps.length ≤ 29 ∧ ∀ j p, ps[j]? = some p → a (131 + j) = p
def RepR (a : Nat → Int32) (m : MT) : Prop := rH a m.1 ∧ rB a m.2.1 ∧ rR a m.2.2.1 ∧ rP a m.2.2.2
theorem rH.eq {a b h : Nat → Int32} (q : rH a h) (e : ∀ i, i < 27 → i ≠ 9 → i ≠ 19 → i ≠ 20 → b i = a i) : rH b h := fun i h1 h2 h3 h4 => (e i h1 h2 h3 h4).trans (q i h1 h2 h3 h4)
theorem rB.eq {a b : Nat → Int32} {bs : List (Nat → Int32)} (q : rB a bs) (e9 : b 9 = a 9) (e : ∀ i, 27 ≤ i → i < 75 → b i = a i) : rB b bs := by
  refine ⟨e9.trans q.1, q.2.1, fun j x h w hw => ?_⟩
  have hj := (List.getElem?_eq_some_iff.mp h).1
  have := q.2.1
  rw [e _ (by omega) (by omega)]
  exact q.2.2 j x h w hw
theorem rR.eq {a b : Nat → Int32} {rs : List (Int32 × Int32)} (q : rR a rs) (e9 : b 19 = a 19) (e : ∀ i, 75 ≤ i → i < 131 → b i = a i) : rR b rs := by
  refine ⟨e9.trans q.1, q.2.1, fun j x h => ?_⟩
  have hj := (List.getElem?_eq_some_iff.mp h).1
  have := q.2.1
  rw [e _ (by omega) (by omega), e _ (by omega) (by omega)]
  exact q.2.2 j x h
theorem rP.eq {a b : Nat → Int32} {ps : List Int32} (q : rP a ps) (e9 : b 20 = a 20) (e : ∀ i, 131 ≤ i → i < 160 → b i = a i) : rP b ps := by
  refine ⟨e9.trans q.1, q.2.1, fun j x h => ?_⟩
  have hj := (List.getElem?_eq_some_iff.mp h).1
  have := q.2.1
  rw [e _ (by omega) (by omega)]
  exact q.2.2 j x h
theorem rH.at {a h : Nat → Int32} {k : Nat} {z : Int32} (q : rH a h) : rH (upd a k z) (upd h k z) := by
  intro i h1 h2 h3 h4
  unfold upd
  split
  · rfl
  · exact q i h1 h2 h3 h4
theorem rH.off {a h : Nat → Int32} {k : Nat} {z : Int32} (q : rH a h) (hk : 27 ≤ k ∨ k = 9 ∨ k = 19 ∨ k = 20) : rH (upd a k z) h := q.eq fun i _ _ _ _ => pk_un (by omega)
theorem rB.off {a : Nat → Int32} {bs : List (Nat → Int32)} {k : Nat} {z : Int32} (q : rB a bs) (h9 : k ≠ 9) (hk : k < 27 ∨ 75 ≤ k) : rB (upd a k z) bs := q.eq (pk_un (by omega)) fun i _ _ => pk_un (by omega)
theorem rR.off {a : Nat → Int32} {rs : List (Int32 × Int32)} {k : Nat} {z : Int32} (q : rR a rs) (h9 : k ≠ 19) (hk : k < 75 ∨ 131 ≤ k) : rR (upd a k z) rs := q.eq (pk_un (by omega)) fun i _ _ => pk_un (by omega)
theorem rP.off {a : Nat → Int32} {ps : List Int32} {k : Nat} {z : Int32} (q : rP a ps) (h9 : k ≠ 20) (hk : k < 131 ∨ 160 ≤ k) : rP (upd a k z) ps := q.eq (pk_un (by omega)) fun i _ _ => pk_un (by omega)
theorem rB.lt {a : Nat → Int32} {d r : List (Nat → Int32)} {x : Nat → Int32} (q : rB a (d ++ x :: r)) : d.length < 8 := by
  have := q.2.1
  simp at this
  omega
theorem rB.get {a : Nat → Int32} {d r : List (Nat → Int32)} {x : Nat → Int32} (q : rB a (d ++ x :: r)) {w : Nat} (hw : w < 6) : a (27 + 6 * d.length + w) = x w := q.2.2 _ _ cut_m w hw
theorem rB.set {a : Nat → Int32} {d r : List (Nat → Int32)} {x : Nat → Int32} (q : rB a (d ++ x :: r)) {w : Nat} {z : Int32} (hw : w < 6) : rB (upd a (27 + 6 * d.length + w) z) (d ++ upd x w z :: r) := by
  refine ⟨?_, by have := q.2.1; simpa using this, fun j y hy w' hw' => ?_⟩
  · rw [pk_un (by omega), q.1]
    simp
  · rcases Nat.lt_trichotomy j d.length with h | h | h
    · rw [pk_un (by omega)]
      exact q.2.2 j y ((cut_l h).mpr ((cut_l h).mp hy)) w' hw'
    · subst h
      rw [cut_m] at hy
      cases hy
      by_cases hww : w' = w
      · subst hww
        simp [upd]
      · rw [pk_un (by omega), pk_un hww]
        exact q.get hw'
    · rw [pk_un (by omega)]
      exact q.2.2 j y ((cut_r h).mpr ((cut_r h).mp hy)) w' hw'
theorem rB.end {a : Nat → Int32} {bs : List (Nat → Int32)} (q : rB a bs) : a 9 = nI bs.length := q.1
/-- a row's places moved down -/
def tko (a : Nat → Int32) (lo hi e : Nat) : Nat → Int32 := fun i => if lo ≤ i ∧ i < hi then a (i + e) else a i
theorem tko_out {a : Nat → Int32} {lo hi e i : Nat} (h : i < lo ∨ hi ≤ i) : tko a lo hi e i = a i := by
  unfold tko
  rw [if_neg (by omega)]
theorem tko_in {a : Nat → Int32} {lo hi e i : Nat} (h : lo ≤ i) (h2 : i < hi) : tko a lo hi e i = a (i + e) := by
  unfold tko
  rw [if_pos (by omega)]
theorem tko_0 (a : Nat → Int32) (lo hi e : Nat) (h : hi ≤ lo) : tko a lo hi e = a := by
  funext i
  exact tko_out (by omega)
theorem tko_s {a : Nat → Int32} {lo hi e : Nat} (h : lo ≤ hi) (he : 0 < e) : upd (tko a lo hi e) hi (tko a lo hi e (hi + e)) = tko a lo (hi + 1) e := by
  funext i
  by_cases hi2 : i = hi
  · subst hi2
    rw [pk_us, tko_out (by omega), tko_in (by omega) (by omega)]
  · rw [pk_un hi2]
    by_cases hx : lo ≤ i ∧ i < hi
    · rw [tko_in hx.1 hx.2, tko_in hx.1 (by omega)]
    · rw [tko_out (by omega), tko_out (by omega)]
theorem rB.cut {a : Nat → Int32} {d r : List (Nat → Int32)} {x : Nat → Int32} (q : rB a (d ++ x :: r)) {z : Int32} (hz : z = nI (d ++ r).length) : rB (upd (tko a (27 + 6 * d.length) (27 + 6 * ((d ++ x :: r).length - 1)) 6) 9 z) (d ++ r) := by
  have hl := q.2.1
  simp only [List.length_append, List.length_cons] at hl
  refine ⟨by rw [pk_us, hz], by simp; omega, fun j y hy w hw => ?_⟩
  have hj : j < d.length + r.length := by simpa using (List.getElem?_eq_some_iff.mp hy).1
  rw [pk_un (by omega)]
  by_cases h : j < d.length
  · rw [tko_out (by omega)]
    exact q.2.2 j y ((cut_l h).mpr ((cut_s h).mp hy)) w hw
  · rw [tko_in (by omega) (by simp only [List.length_append, List.length_cons]; omega)]
    have := q.2.2 (j + 1) y ((cut_r (by omega)).mpr (by rw [show j + 1 - d.length - 1 = j - d.length by omega]; exact (cut_g (by omega)).mp hy)) w hw
    rw [← this]
    congr 1
    omega
theorem rR.lt {a : Nat → Int32} {d r : List (Int32 × Int32)} {x : Int32 × Int32} (q : rR a (d ++ x :: r)) : d.length < 28 := by
  have := q.2.1
  simp at this
  omega
theorem rR.get {a : Nat → Int32} {d r : List (Int32 × Int32)} {x : Int32 × Int32} (q : rR a (d ++ x :: r)) : a (75 + 2 * d.length) = x.1 ∧ a (75 + 2 * d.length + 1) = x.2 := q.2.2 _ _ cut_m
theorem rR.cut {a : Nat → Int32} {d r : List (Int32 × Int32)} {x : Int32 × Int32} (q : rR a (d ++ x :: r)) {z : Int32} (hz : z = nI (d ++ r).length) : rR (upd (tko a (75 + 2 * d.length) (75 + 2 * ((d ++ x :: r).length - 1)) 2) 19 z) (d ++ r) := by
  have hl := q.2.1
  simp only [List.length_append, List.length_cons] at hl
  refine ⟨by rw [pk_us, hz], by simp; omega, fun j y hy => ?_⟩
  have hj : j < d.length + r.length := by simpa using (List.getElem?_eq_some_iff.mp hy).1
  rw [pk_un (by omega), pk_un (by omega)]
  by_cases h : j < d.length
  · rw [tko_out (by omega), tko_out (by omega)]
    exact q.2.2 j y ((cut_l h).mpr ((cut_s h).mp hy))
  · rw [tko_in (by omega) (by simp only [List.length_append, List.length_cons]; omega), tko_in (by omega) (by simp only [List.length_append, List.length_cons]; omega)]
    have := q.2.2 (j + 1) y ((cut_r (by omega)).mpr (by rw [show j + 1 - d.length - 1 = j - d.length by omega]; exact (cut_g (by omega)).mp hy))
    rw [show 75 + 2 * j + 2 = 75 + 2 * (j + 1) by omega, show 75 + 2 * j + 1 + 2 = 75 + 2 * (j + 1) + 1 by omega]
    exact this
theorem rR.push {a : Nat → Int32} {rs : List (Int32 × Int32)} (q : rR a rs) (h : rs.length < 28) {v w z : Int32} (hz : z = nI (rs.length + 1)) : rR (upd (upd (upd a (75 + 2 * rs.length) v) (75 + 2 * rs.length + 1) w) 19 z) (rs ++ [(v, w)]) := by
  refine ⟨by rw [pk_us, hz]; simp, by simp; omega, fun j y hy => ?_⟩
  have hj : j < rs.length + 1 := by simpa using (List.getElem?_eq_some_iff.mp hy).1
  rw [pk_un (by omega), pk_un (by omega)]
  by_cases h2 : j < rs.length
  · rw [pk_un (by omega), pk_un (by omega), pk_un (by omega), pk_un (by omega)]
    exact q.2.2 j y ((cut_s h2).mp hy)
  · have : j = rs.length := by omega
    subst this
    rw [cut_m] at hy
    cases hy
    rw [pk_us, pk_un (by omega), pk_us]
    exact ⟨rfl, rfl⟩
theorem rP.lt {a : Nat → Int32} {d r : List Int32} {x : Int32} (q : rP a (d ++ x :: r)) : d.length < 29 := by
  have := q.2.1
  simp at this
  omega
theorem rP.get {a : Nat → Int32} {d r : List Int32} {x : Int32} (q : rP a (d ++ x :: r)) : a (131 + d.length) = x := q.2.2 _ _ cut_m
theorem rP.set {a : Nat → Int32} {d r : List Int32} {x z : Int32} (q : rP a (d ++ x :: r)) : rP (upd a (131 + d.length) z) (d ++ z :: r) := by
  refine ⟨by rw [pk_un (by omega), q.1]; simp, by have := q.2.1; simpa using this, fun j y hy => ?_⟩
  rcases Nat.lt_trichotomy j d.length with h | h | h
  · rw [pk_un (by omega)]
    exact q.2.2 j y ((cut_l h).mpr ((cut_l h).mp hy))
  · subst h
    rw [cut_m] at hy
    cases hy
    exact pk_us
  · rw [pk_un (by omega)]
    exact q.2.2 j y ((cut_r h).mpr ((cut_r h).mp hy))
theorem rP.cut {a : Nat → Int32} {d r : List Int32} {x : Int32} (q : rP a (d ++ x :: r)) {z : Int32} (hz : z = nI (d ++ r).length) : rP (upd (tko a (131 + d.length) (131 + ((d ++ x :: r).length - 1)) 1) 20 z) (d ++ r) := by
  have hl := q.2.1
  simp only [List.length_append, List.length_cons] at hl
  refine ⟨by rw [pk_us, hz], by simp; omega, fun j y hy => ?_⟩
  have hj : j < d.length + r.length := by simpa using (List.getElem?_eq_some_iff.mp hy).1
  rw [pk_un (by omega)]
  by_cases h : j < d.length
  · rw [tko_out (by omega)]
    exact q.2.2 j y ((cut_l h).mpr ((cut_s h).mp hy))
  · rw [tko_in (by omega) (by simp only [List.length_append, List.length_cons]; omega)]
    exact q.2.2 (j + 1) y ((cut_r (by omega)).mpr (by rw [show j + 1 - d.length - 1 = j - d.length by omega]; exact (cut_g (by omega)).mp hy))
theorem rP.push {a : Nat → Int32} {ps : List Int32} (q : rP a ps) (h : ps.length < 29) {v z : Int32} (hz : z = nI (ps.length + 1)) : rP (upd (upd a (131 + ps.length) v) 20 z) (ps ++ [v]) := by
  refine ⟨by rw [pk_us, hz]; simp, by simp; omega, fun j y hy => ?_⟩
  have hj : j < ps.length + 1 := by simpa using (List.getElem?_eq_some_iff.mp hy).1
  rw [pk_un (by omega)]
  by_cases h2 : j < ps.length
  · rw [pk_un (by omega)]
    exact q.2.2 j y ((cut_s h2).mp hy)
  · have : j = ps.length := by omega
    subst this
    rw [cut_m] at hy
    cases hy
    exact pk_us
/-- a row's first places, copied -/
def cpN (a b : Nat → Int32) (n : Nat) : Nat → Int32 := fun i => if i < n then a i else b i
theorem cpN_0 (a b : Nat → Int32) : cpN a b 0 = b := by
  funext i
  simp [cpN]
theorem cpN_s (a b : Nat → Int32) (n : Nat) : upd (cpN a b n) n (a n) = cpN a b (n + 1) := by
  funext i
  by_cases h : i = n
  · subst h
    simp [cpN, upd]
  · simp only [cpN, upd, h, if_false]
    by_cases h2 : i < n
    · simp [h2, Nat.lt_succ_of_lt h2]
    · have : ¬ i < n + 1 := by omega
      simp [h2, this]
theorem RepR.eq {a b : Nat → Int32} {m : MT} (q : RepR a m) (e : ∀ i, i < 160 → b i = a i) : RepR b m := ⟨q.1.eq fun i h _ _ _ => e i (by omega), q.2.1.eq (e _ (by omega)) fun i _ h => e i (by omega), q.2.2.1.eq (e _ (by omega)) fun i _ h => e i (by omega), q.2.2.2.eq (e _ (by omega)) fun i _ h => e i (by omega)⟩
