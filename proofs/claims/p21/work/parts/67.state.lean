/-! orders, and the whole state -/
/-- the whole state as it can be -/
def goodS (K : Int) (S : ST) : Prop := goodT K S.1 ∧ (∀ m ∈ S.2.1, goodT K m) ∧ (∀ k m, S.2.2.1 k = some m → goodT K m) ∧ padOK S.2.2.2 ∧ S.2.2.2.length ≤ 60
theorem goodS.mono {K L : Int} {S : ST} (hKL : K ≤ L) (h : goodS K S) : goodS L S := ⟨h.1.mono hKL, fun m hm => (h.2.1 m hm).mono hKL, fun k m hm => (h.2.2.1 k m hm).mono hKL, h.2.2.2⟩
theorem pushH_mem {hi : List MT} {m z : MT} (h : z ∈ pushH hi m) : z ∈ hi ∨ z = m := by
  unfold pushH at h
  rcases List.mem_append.mp h with q | q
  · split at q
    · exact Or.inl (List.mem_of_mem_drop q)
    · exact Or.inl q
  · exact Or.inr (List.mem_singleton.mp q)
theorem goodS.change {K : Int} {S : ST} (h : goodS K S) (q : Int32 × MT) (hq : goodT K q.2) : goodS K (sChange q S).2 := by
  obtain ⟨a, b, c, d⟩ := h
  refine ⟨hq, fun z hz => ?_, c, d⟩
  have hz2 : z ∈ (if q.1 < 0 then S.2.1 else pushH S.2.1 S.1) := hz
  split at hz2
  · exact b z hz2
  · rcases pushH_mem hz2 with w | w
    · exact b z w
    · rw [w]
      exact a
theorem goodS.set {K : Int} {S : ST} (h : goodS K S) (k v : Int32) : goodS K (sChange (mSet k v S.1) S).2 := h.change _ (h.1.set k v)
theorem goodS.arrive {K : Int} {S : ST} (hK : 30 ≤ K) (hK2 : K ≤ 90000000) (h : goodS K S) (v : Int32) : goodS K (sChange (mArrive v S.1) S).2 := h.change _ (h.1.arrive hK (by omega) v)
theorem goodS.turn {K : Int} {S : ST} (hK2 : K ≤ 90000000) (h : goodS K S) (k v : Int32) : goodS (K + 1) (sChange (mTurn k v S.1) S).2 := (h.mono (by omega)).change _ (h.1.turn hK2 k v)
theorem goodS.pass {K : Int} {S : ST} (hK2 : K ≤ 90000000) (h : goodS K S) (v : Int32) : goodS K (sChange (mPass v S.1) S).2 := h.change _ (h.1.pass (by omega) v)
theorem goodS.undo {K : Int} {S : ST} (h : goodS K S) : goodS K (sUndo S).2 := by
  unfold sUndo
  split
  · exact h
  · rename_i m hm
    exact ⟨h.2.1 m (List.mem_of_getLast? hm), fun z hz => h.2.1 z ((List.dropLast_sublist _).subset hz), h.2.2⟩
theorem goodS.zero : goodS 100 S0 := by
  have hw : ∀ k, k < 5 → 0 ≤ (S0.1.1 (22 + k)).toInt ∧ (S0.1.1 (22 + k)).toInt ≤ 9 := fun k hk => by
    have e : S0.1.1 (22 + k) = 0 := by
      show h0M (22 + k) = 0
      unfold h0M
      rw [pk_un (by omega), pk_un (by omega), pk_un (by omega), pk_un (by omega), pk_un (by omega), pk_un (by omega), pk_un (by omega), pk_un (by omega), pk_un (by omega)]
    rw [e]
    decide
  have h0 : 0 ≤ (S0.1.1 0).toInt ∧ (S0.1.1 0).toInt ≤ 9 := by decide
  have h1 : 0 ≤ (S0.1.1 1).toInt ∧ (S0.1.1 1).toInt ≤ 5 := by decide
  have h2 : ∃ G : Nat, G ≤ 5 ∧ S0.1.1 2 = nI G := ⟨2, by decide, rfl⟩
  have h3 : 0 ≤ (S0.1.1 3).toInt ∧ (S0.1.1 3).toInt ≤ 20 := by decide
  have h4 : 1 ≤ (S0.1.1 4).toInt ∧ (S0.1.1 4).toInt ≤ 20 := by decide
  have h5 : 1 ≤ (S0.1.1 5).toInt ∧ (S0.1.1 5).toInt ≤ 60 := by decide
  have h6 : 0 ≤ (S0.1.1 6).toInt ∧ (S0.1.1 6).toInt ≤ 9 := by decide
  have h7 : 0 ≤ (S0.1.1 7).toInt ∧ (S0.1.1 7).toInt ≤ 9 := by decide
  have h8 : 0 ≤ (S0.1.1 8).toInt ∧ (S0.1.1 8).toInt ≤ 30000 := by decide
  have h18 : 0 ≤ (S0.1.1 18).toInt ∧ (S0.1.1 18).toInt ≤ 60 := by decide
  have h17 : 0 ≤ (S0.1.1 17).toInt ∧ (S0.1.1 17).toInt ≤ 28 * (S0.1.1 8).toInt := by decide
  have hs : setOK S0.1 := ⟨h0, h1, h2, ⟨h4, h5, h6⟩, hw, h8⟩
  have nb : ∀ x : Nat → Int32, ¬ x ∈ S0.1.2.1 := fun x hx => by cases hx
  have hb : beltOK 100 S0.1 := ⟨fun x hx => absurd hx (nb x), List.Pairwise.nil, List.Pairwise.nil⟩
  have hp : pendM S0.1 := ⟨⟨fun r hr => (by cases hr), fun p hp => (by cases hp)⟩, PB.nil _⟩
  have hm : MarkOK S0.1 := ⟨h3, h7, fun x hx => absurd hx (nb x)⟩
  have ht : goodT 100 S0.1 := ⟨⟨hs, hb, hp, hm, fun x hx => absurd hx (nb x), h18, h17⟩, by decide⟩
  have hh : ∀ m ∈ S0.2.1, goodT 100 m := fun m hm => by cases hm
  have hsl : ∀ k m, S0.2.2.1 k = some m → goodT 100 m := fun k m hm => by cases hm
  have hpd : padOK S0.2.2.2 := fun c hc => by cases hc
  exact ⟨ht, hh, hsl, hpd, Nat.zero_le _⟩
