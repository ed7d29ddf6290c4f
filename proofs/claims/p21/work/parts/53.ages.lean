/-! how many reports and plans there can be: the ages of what is pending -/
/-- how many of the ages are at most t -/
def nAge (A : List Int) (t : Int) : Nat := A.countP (fun a => decide (a ≤ t))
/-- the ages A, where the last seen box lies at D (twice its middle) -/
def PB (A : List Int) (D : Int) : Prop := (∀ a ∈ A, 0 ≤ a) ∧ ∀ t : Int, nAge A t ≠ 0 → 10 * ((nAge A t : Int) - 1) ≤ 42 + 2 * t ∧ 10 * ((nAge A t : Int) - 1) ≤ 52 + 2 * t - D
theorem PB.nil (D : Int) : PB [] D := ⟨fun a h => by simp at h, fun t h => by simp [nAge] at h⟩
theorem PB.low {A : List Int} {D D2 : Int} (h : PB A D) (hd : D2 ≤ D) : PB A D2 := ⟨h.1, fun t ht => ⟨(h.2 t ht).1, by have := (h.2 t ht).2; omega⟩⟩
theorem nAge_nil (t : Int) : nAge [] t = 0 := rfl
theorem nAge_cons (a : Int) (A : List Int) (t : Int) : nAge (a :: A) t = nAge A t + if a ≤ t then 1 else 0 := by
  unfold nAge
  rw [List.countP_cons]
  simp
theorem nAge_app (A B : List Int) (t : Int) : nAge (A ++ B) t = nAge A t + nAge B t := by
  unfold nAge
  exact List.countP_append
theorem nAge_neg {A : List Int} (h : ∀ a ∈ A, 0 ≤ a) {t : Int} (ht : t < 0) : nAge A t = 0 := by
  unfold nAge
  rw [List.countP_eq_zero]
  intro a ha
  have := h a ha
  simp
  omega
/-- what is pending becomes fewer and older, all by v at least -/
theorem PB.older {A B : List Int} {D v : Int} (h : PB A D) (hB : ∀ b ∈ B, 0 ≤ b) (hv : 0 ≤ v) (hc : ∀ t, nAge B t ≤ nAge A (t - v)) : PB B (D + 2 * v) := by
  refine ⟨hB, fun t ht => ?_⟩
  have h0 := hc t
  have h1 : nAge A (t - v) ≠ 0 := by omega
  have h2 := h.2 (t - v) h1
  omega
/-- fewer -/
theorem PB.sub {A B : List Int} {D : Int} (h : PB A D) (hB : ∀ b ∈ B, 0 ≤ b) (hc : ∀ t, nAge B t ≤ nAge A t) : PB B D := by
  refine ⟨hB, fun t ht => ?_⟩
  have h0 := hc t
  have h2 := h.2 t (by omega)
  omega
/-- one more, of a box that is seen at c -/
theorem PB.new {A : List Int} {D c a : Int} (h : PB A D) (ha : 0 ≤ a) (hc : 10 ≤ c) (hc2 : c ≤ 52) (hd : c + 10 ≤ D) : PB (a :: A) c := by
  refine ⟨fun b hb => ?_, fun t ht => ?_⟩
  · rcases List.mem_cons.mp hb with k | k
    · rw [k]; exact ha
    · exact h.1 b k
  · rw [nAge_cons] at ht ⊢
    have h2 := h.2 t
    by_cases hat : a ≤ t
    · rw [if_pos hat]
      by_cases hz : nAge A t = 0
      · rw [hz]
        omega
      · have := h2 hz
        omega
    · rw [if_neg hat] at ht ⊢
      have := h2 (by omega)
      omega
theorem nAge_len {A : List Int} {t : Int} (h : ∀ a ∈ A, a ≤ t) : nAge A t = A.length := by
  unfold nAge
  rw [List.countP_eq_length]
  intro a ha
  simpa using h a ha
theorem PB.len {A : List Int} {D : Int} (h : PB A D) (hA : ∀ a ∈ A, a ≤ 113) : A.length ≤ 27 := by
  have h1 := h.2 113
  rw [nAge_len hA] at h1
  rcases Nat.eq_zero_or_pos A.length with q | q
  · omega
  · have := h1 (by omega)
    omega
theorem nAge_map_le {α : Type} {f g : α → Int} {v : Int} (h : ∀ x, f x + v ≤ g x) (l : List α) (t : Int) : nAge (l.map g) t ≤ nAge (l.map f) (t - v) := by
  induction l with
  | nil => exact Nat.le_refl _
  | cons x r ih =>
    rw [List.map_cons, List.map_cons, nAge_cons, nAge_cons]
    have := h x
    by_cases h1 : g x ≤ t
    · rw [if_pos h1, if_pos (by omega)]
      omega
    · rw [if_neg h1]
      omega
theorem nAge_map_mem {α : Type} {f g : α → Int} {v : Int} (l : List α) (h : ∀ x ∈ l, f x + v ≤ g x) (t : Int) : nAge (l.map g) t ≤ nAge (l.map f) (t - v) := by
  induction l with
  | nil => exact Nat.le_refl _
  | cons x r ih =>
    rw [List.map_cons, List.map_cons, nAge_cons, nAge_cons]
    have := h x List.mem_cons_self
    have w := ih fun y hy => h y (List.mem_cons_of_mem _ hy)
    by_cases h1 : g x ≤ t
    · rw [if_pos h1, if_pos (by omega)]
      omega
    · rw [if_neg h1]
      omega
theorem nAge_filter {α : Type} {f : α → Int} (p : α → Bool) (l : List α) (t : Int) : nAge ((l.filter p).map f) t ≤ nAge (l.map f) t := by
  induction l with
  | nil => exact Nat.le_refl _
  | cons x r ih =>
    rw [List.map_cons, nAge_cons]
    rw [List.filter_cons]
    split
    · rw [List.map_cons, nAge_cons]
      omega
    · omega
/-- a list split by p, each part with its own ages -/
theorem nAge_split {α : Type} {f : α → Int} (p : α → Bool) (l : List α) (t : Int) : nAge ((l.filter (fun x => !p x)).map f) t + nAge ((l.filter p).map f) t = nAge (l.map f) t := by
  induction l with
  | nil => rfl
  | cons x r ih =>
    rw [List.map_cons, nAge_cons, List.filter_cons, List.filter_cons]
    cases p x with
    | true =>
      simp only [Bool.not_true, Bool.false_eq_true, if_false, if_true, List.map_cons, nAge_cons]
      omega
    | false =>
      simp only [Bool.not_false, Bool.false_eq_true, if_false, if_true, List.map_cons, nAge_cons]
      omega
