/-! what depends on front, length and seen only -/
theorem key_ct {x y : Nat → Int32} (h : keyX x = keyX y) : ctX x = ctX y ∧ x 2 = y 2 ∧ frX x = frX y ∧ lnX x = lnX y ∧ isOut x = isOut y := by
  have h0 : x 0 = y 0 := congrArg (fun k : Int32 × Int32 × Int32 => k.1) h
  have h1 : x 1 = y 1 := congrArg (fun k : Int32 × Int32 × Int32 => k.2.1) h
  have h2 : x 2 = y 2 := congrArg (fun k : Int32 × Int32 × Int32 => k.2.2) h
  unfold ctX frX lnX isOut
  rw [h0, h1]
  exact ⟨rfl, h2, rfl, rfl, rfl⟩
theorem dOr_key : ∀ (bs cs : List (Nat → Int32)) (d : Int), bs.map keyX = cs.map keyX → dOr d bs = dOr d cs := by
  intro bs
  induction bs with
  | nil =>
    intro cs d h
    cases cs with
    | nil => rfl
    | cons y r => cases h
  | cons x r ih =>
    intro cs d h
    cases cs with
    | nil => cases h
    | cons y t =>
      rw [List.map_cons, List.map_cons] at h
      have h1 := (List.cons.inj h).1
      have h2 := (List.cons.inj h).2
      obtain ⟨a, b, -⟩ := key_ct h1
      by_cases hx : x 2 = 1
      · rw [dOr_1 hx, dOr_1 (b ▸ hx), a]
        exact ih t _ h2
      · rw [dOr_0 hx, dOr_0 (fun q => hx (b.trans q))]
        exact ih t _ h2
