theorem lp_end {α : Type} {d : List α} {z : Int32} (h : z = nI (d ++ []).length) (hb : (d ++ []).length ≤ 1000) : z ≤ nI d.length := by
  rw [h]
  simp only [List.append_nil] at hb ⊢
  exact nI_le (Nat.le_refl _) (by omega)
theorem lp_go {α : Type} {d r : List α} {x : α} {z : Int32} (h : z = nI (d ++ x :: r).length) (hb : (d ++ x :: r).length ≤ 1000) : ¬ z ≤ nI d.length := by
  rw [h]
  simp only [List.length_append, List.length_cons] at hb ⊢
  exact nI_ge (by omega) (by omega)
theorem len_s {α : Type} {d : List α} {y : α} : nI d.length + Int32.ofInt 1 = nI (d ++ [y]).length := by
  rw [List.length_append]
  exact nI_1 _
theorem xSee_no {x : Nat → Int32} (h : unseen x = false) : xSee x = x := by simp [xSee, h]
theorem xSee_yes {x : Nat → Int32} (h : unseen x = true) : xSee x = upd x 2 1 := by simp [xSee, h]
theorem bMark_cut {d r : List (Nat → Int32)} {y : Nat → Int32} (h : ∀ z ∈ d, isUnder z = false) (hy : isUnder y = true) : bMark (d ++ y :: r) = d ++ xMark y :: r := by
  induction d with
  | nil => simp [bMark, hy]
  | cons z d ih =>
    have hz := h z List.mem_cons_self
    simp only [List.cons_append, bMark, hz, Bool.false_eq_true, if_false]
    rw [ih fun w hw => h w (List.mem_cons_of_mem _ hw)]
theorem find_cut {d r : List (Nat → Int32)} {y : Nat → Int32} (h : ∀ z ∈ d, isUnder z = false) (hy : isUnder y = true) : (d ++ y :: r).find? isUnder = some y := by
  induction d with
  | nil => simp [hy]
  | cons z d ih =>
    have hz := h z List.mem_cons_self
    simp only [List.cons_append, List.find?_cons, hz]
    exact ih fun w hw => h w (List.mem_cons_of_mem _ hw)
theorem find_non {d : List (Nat → Int32)} (h : ∀ z ∈ d, isUnder z = false) : d.find? isUnder = none := by
  rw [List.find?_eq_none]
  intro x hx
  rw [h x hx]
  decide
theorem fate_lt (h x : Nat → Int32) : fate h x = 11 ∨ fate h x = 12 ∨ fate h x = 13 := by
  unfold fate
  split
  · simp
  · split <;> simp
theorem cut_ex {α : Type} {l : List α} {k : Nat} (h : k < l.length) : ∃ (d r : List α) (x : α), l = d ++ x :: r ∧ d.length = k := by
  refine ⟨l.take k, l.drop (k + 1), l[k], ?_, by simp; omega⟩
  rw [List.getElem_cons_drop, List.take_append_drop]
theorem okS_no {k v : Int32} (h : k < 0 ∨ 8 ≤ k) : okS k v = false := by
  cases hk : okS k v with
  | false => rfl
  | true =>
    simp only [okS, Bool.and_eq_true, decide_eq_true_eq] at hk
    rcases h with h | h
    · exact absurd hk.1.1.1 (Int32.not_le.mpr h)
    · exact absurd hk.1.1.2 (Int32.not_lt.mpr h)
def rPad (pd : Nat → Int32) (pn : Int32) (p : List Int32) : Prop := pn = nI p.length ∧ p.length ≤ 60 ∧ ∀ j x, p[j]? = some x → pd j = x
theorem okT_n {t : Int32} (h : okT t = true) : ∃ n, n ≤ 99 ∧ t = nI n := by
  simp only [okT, Bool.and_eq_true, decide_eq_true_eq] at h
  obtain ⟨n, hn, e⟩ := nI_of (x := t) (Int32.not_lt.mpr (Int32.le_trans (by decide) h.1))
  subst e
  rw [show (99 : Int32) = nI 99 from rfl, nI_leI hn (by decide)] at h
  exact ⟨n, h.2, rfl⟩
theorem mPlan_no {v : Int32} {m : MT} (h : ¬ ∃ k, k < m.2.2.2.length ∧ v = nI k) : mPlan v m = -1 := by
  unfold mPlan
  split
  · rfl
  · rename_i h0
    obtain ⟨k, hk, e⟩ := nI_of h0
    subst e
    rw [nI_clamp hk, List.getElem?_eq_none (by
      rcases Nat.lt_or_ge k m.2.2.2.length with q | q
      · exact absurd ⟨k, q, rfl⟩ h
      · exact q)]
theorem mPlan_yes {m : MT} {k : Nat} (h : k < m.2.2.2.length) (h2 : m.2.2.2.length < 2 ^ 31 := by omega) : mPlan (nI k) m = m.2.2.2[k] + 1000 := by
  unfold mPlan
  rw [if_neg (nI_pos (by omega)), nI_clamp (by omega), List.getElem?_eq_getElem h]
theorem mReport_no {v w : Int32} {m : MT} (h : ¬ ∃ k, k < m.2.2.1.length ∧ v = nI k) : mReport v w m = -1 := by
  unfold mReport
  split
  · rfl
  · rename_i h0
    obtain ⟨k, hk, e⟩ := nI_of h0
    subst e
    rw [nI_clamp hk, List.getElem?_eq_none (by
      rcases Nat.lt_or_ge k m.2.2.1.length with q | q
      · exact absurd ⟨k, q, rfl⟩ h
      · exact q)]
theorem mReport_yes {m : MT} {k : Nat} {w : Int32} (h : k < m.2.2.1.length) (h2 : m.2.2.1.length < 2 ^ 31 := by omega) : mReport (nI k) w m = if w = 0 then m.2.2.1[k].1 - m.1 8 + 1 else if w = 1 then m.2.2.1[k].2 else -2 := by
  unfold mReport
  rw [if_neg (nI_pos (by omega)), nI_clamp (by omega), List.getElem?_eq_getElem h]
theorem mBox_no {v w : Int32} {m : MT} (h : ¬ ∃ k, k < m.2.1.length ∧ v = nI k) : mBox v w m = -1 := by
  unfold mBox
  split
  · rfl
  · rename_i h0
    obtain ⟨k, hk, e⟩ := nI_of h0
    subst e
    rw [nI_clamp hk, List.getElem?_eq_none (by
      rcases Nat.lt_or_ge k m.2.1.length with q | q
      · exact absurd ⟨k, q, rfl⟩ h
      · exact q)]
theorem mBox_yes {m : MT} {k : Nat} {w : Int32} {x : Nat → Int32} (h : m.2.1[k]? = some x) (h2 : k < 2 ^ 31) : mBox (nI k) w m = if w = 0 then x 0 + 1000 else if w = 3 then (if x 3 = -6 then -6 else x 3 + 1000) else if w = 1 then x 1 else if w = 2 then x 2 else if w = 4 then x 4 else if w = 5 then x 5 else -2 := by
  unfold mBox
  rw [if_neg (nI_pos (by omega)), nI_clamp (by omega), h]
theorem isub14 {k : Nat} (h : 14 ≤ k) : nI k - 14 = nI (k - 14) := by rw [show (14 : Int32) = nI 14 from rfl, pk_sub h]
theorem mIf_no {t w : Int32} {m : MT} (h : okT t = true) (hw : ¬ ((0 : Int32) ≤ w ∧ w ≤ 6)) : mIf t w m = -2 := by
  unfold mIf
  rw [if_pos h, if_neg (by rintro rfl; exact hw (by decide)), if_neg (by rintro rfl; exact hw (by decide)), if_neg (by rintro rfl; exact hw (by decide)), if_neg (by rintro rfl; exact hw (by decide)), if_neg (by rintro rfl; exact hw (by decide)), if_neg (by rintro rfl; exact hw (by decide)), if_neg (by rintro rfl; exact hw (by decide))]
theorem mBest_no {t w : Int32} {m : MT} (h : okT t = true) (hw : ¬ ((0 : Int32) ≤ w ∧ w ≤ 1)) : mBest t w m = -2 := by
  unfold mBest
  rw [if_pos h, if_neg (by rintro rfl; exact hw (by decide)), if_neg (by rintro rfl; exact hw (by decide))]
theorem last_get {α : Type} {l : List α} : l.getLast? = l[l.length - 1]? := List.getLast?_eq_getElem?
def rmA (d : List (Nat → Int32)) (fr : Int32) : Bool := match d.getLast? with
  | none => true
  | some y => decide (1 ≤ y 0 - y 1 - fr)
def rmB (r : List (Nat → Int32)) (bk : Int32) : Bool := match r with
  | [] => true
  | y :: _ => decide (1 ≤ bk - y 0)
theorem mTurn_cut {h : Nat → Int32} {d r : List (Nat → Int32)} {x : Nat → Int32} {rs : List (Int32 × Int32)} {ps : List Int32} {len : Int32} (hl : d.length < 2 ^ 31) : mTurn (nI d.length) len (h, d ++ x :: r, rs, ps) = if okLen len then (if rmA d (frontT x len) && rmB r (frontT x len - len) then (frontT x len + 1000, (h, d ++ xTurn x len :: r, rs, ps)) else (-5, (h, d ++ x :: r, rs, ps))) else (-2, (h, d ++ x :: r, rs, ps)) := by
  unfold mTurn
  rw [if_neg (nI_pos hl), nI_clamp hl]
  unfold mTurnAt
  simp only [cut_m]
  rw [show (d ++ x :: r).take d.length = d by simp, show (d ++ x :: r).drop (d.length + 1) = r by simp]
  rfl
theorem mTurn_no {v len : Int32} {m : MT} (h : ¬ ∃ k, k < m.2.1.length ∧ v = nI k) : mTurn v len m = (-1, m) := by
  unfold mTurn
  split
  · rfl
  · rename_i h0
    obtain ⟨k, hk, e⟩ := nI_of h0
    subst e
    unfold mTurnAt
    rw [nI_clamp hk, List.getElem?_eq_none (by
      rcases Nat.lt_or_ge k m.2.1.length with q | q
      · exact absurd ⟨k, q, rfl⟩ h
      · exact q)]
