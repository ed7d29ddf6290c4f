/-! where the last seen box lies when boxes leave -/
theorem dOr_1 {d : Int} {z : Nat → Int32} {l : List (Nat → Int32)} (hz : z 2 = 1) : dOr d (z :: l) = dOr (ctX z) l := by
  unfold dOr
  rw [List.filter_cons, if_pos (by simpa using hz)]
  cases hl : l.filter (fun x => decide (x 2 = 1)) with
  | nil => rfl
  | cons a b => rw [List.getLast?_cons_cons, List.getLast?_cons]
theorem dOr_0 {d : Int} {z : Nat → Int32} {l : List (Nat → Int32)} (hz : ¬ z 2 = 1) : dOr d (z :: l) = dOr d l := by
  unfold dOr
  rw [List.filter_cons, if_neg (by simpa using hz)]
theorem dOr_leave : ∀ (r : List (Nat → Int32)) (d e : Int), d ≤ e → r.Pairwise (fun x y => isOut y = true → isOut x = true) → (∀ y ∈ r, isOut y = true → d ≤ ctX y) → dOr d (r.filter (fun x => !isOut x)) ≤ dOr e r := by
  intro r
  induction r with
  | nil => exact fun d e h _ _ => h
  | cons x r ih =>
    intro d e h hp hd
    obtain ⟨p1, p2⟩ := List.pairwise_cons.mp hp
    have hd2 : ∀ y ∈ r, isOut y = true → d ≤ ctX y := fun y hy => hd y (List.mem_cons_of_mem _ hy)
    by_cases ho : isOut x = true
    · rw [List.filter_cons, if_neg (by simp [ho])]
      by_cases hx : x 2 = 1
      · rw [dOr_1 hx]
        exact ih d (ctX x) (hd x List.mem_cons_self ho) p2 hd2
      · rw [dOr_0 hx]
        exact ih d e h p2 hd2
    · rw [List.filter_cons, if_pos (by simp [ho])]
      by_cases hx : x 2 = 1
      · rw [dOr_1 hx, dOr_1 hx]
        exact ih (ctX x) (ctX x) (Int.le_refl _) p2 fun y hy q => absurd (p1 y hy q) ho
      · rw [dOr_0 hx, dOr_0 hx]
        exact ih d e h p2 hd2
