/-! the class at the start -/
theorem V_C0 {E : EV} {g : GE} {N : Nat} {ad : Nat → Nat} {ce sl : Nat} {f : Nat → va_E} {pc : Nat} {lo : List (Option Value)} {st : List Value} {o : Nat} (hN : o + 183 ≤ N) (h : C0 g ad o f) (kk : ∀ v, CAt g ad o S0 v → (∀ q, q < o ∨ o + 183 ≤ q → v q = f q) → V E g N ad ce sl v pc lo st) : V E g N ad ce sl f pc lo st := by
  obtain ⟨h1, h2, h3, ⟨y1, y2, y3⟩, h5, h6, h7, h8, h9, h10⟩ := h
  refine V_arr (i := o + 33 + 1) (y := (7, .inr (.inr (.inr (.inr (fun k => some (ad (o + 33 + 2 + 16 * k)))))))) (by omega) y2 (cell_q fun j hj => by unfold bsS; rw [if_pos hj]) ?_
  refine V_arr (i := o + 147) (y := (2, .inr (.inr (.inr (.inr (fun k => some (ad (o + 148 + 16 * k)))))))) (by omega) ((va_up_ne _ _ (by omega)).trans h5) (cell_q fun j hj => by unfold bsS; rw [if_pos hj]) ?_
  refine V_gen (fun W hW => ?_)
  have e : ∀ q, q ≠ o + 34 → q ≠ o + 147 → W q = f q := fun q a b => by rw [hW, va_up_ne _ _ b, va_up_ne _ _ a]
  have hb : ∀ c, B0 g ad c f → (∀ q, c ≤ q → q < c + 16 → q ≠ o + 34 ∧ q ≠ o + 147) → BAt g ad c M0 W := fun c q k => (q.go (fun q a b => rfl) (fun q a b => e q (k q a b).1 (k q a b).2)).at
  refine kk W ⟨⟨(e o (by omega) (by omega)).trans h1, ⟨M0, hb _ h3 fun q a b => by omega⟩, by rw [hW, va_up_self], ⟨fun _ => 0, (e _ (by omega) (by omega)).trans h8, fun k hk => ⟨M0, ?_, Or.inl ⟨rfl, rfl⟩⟩⟩, fun _ => 0, (e _ (by omega) (by omega)).trans h9, (e _ (by omega) (by omega)).trans h10, rfl, by decide, fun j x hj => by simp [S0] at hj⟩, hb _ h2 fun q a b => by omega, ⟨0, by decide, by decide, ⟨(e _ (by omega) (by omega)).trans y1, by rw [hW, va_up_ne _ _ (by omega), va_up_self]⟩, fun k hk => ⟨M0, hb _ (y3 k hk) fun q a b => by omega⟩, fun j m hj => by simp [S0] at hj⟩⟩ (fun q hq => e q (by omega) (by omega))
  rcases (show k = 0 ∨ k = 1 by omega) with rfl | rfl
  · exact hb _ h6 fun q a b => by omega
  · exact hb _ h7 fun q a b => by omega
