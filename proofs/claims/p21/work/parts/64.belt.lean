/-! the boxes through a tick -/
theorem tick_key (m : MT) : (mTick m).2.1.map keyX = ((mSee (mMove m)).2.1.filter (fun x => !isOut x)).map keyX := by
  obtain ⟨-, b, -⟩ := do_fold (mTake (mCount (mSee (mMove m)))).2.2.2 ((mTake (mCount (mSee (mMove m)))).1, (mTake (mCount (mSee (mMove m)))).2.1)
  show (((mTake (mCount (mSee (mMove m)))).2.2.2.foldl doOne ((mTake (mCount (mSee (mMove m)))).1, (mTake (mCount (mSee (mMove m)))).2.1)).2.filter (fun x => !isOut x)).map keyX = _
  rw [key_filter (P := outK) out_key, key_filter (P := outK) out_key]
  exact congrArg (List.filter outK) b
theorem key_mem {bs cs : List (Nat → Int32)} (h : bs.map keyX = cs.map keyX) {y : Nat → Int32} (hy : y ∈ cs) : ∃ x ∈ bs, keyX x = keyX y := by
  have k : keyX y ∈ bs.map keyX := by
    rw [h]
    exact List.mem_map_of_mem hy
  obtain ⟨x, hx, e⟩ := List.mem_map.mp k
  exact ⟨x, hx, e⟩
theorem key_pw {R : (Nat → Int32) → (Nat → Int32) → Prop} (hR : ∀ x y z w, keyX x = keyX z → keyX y = keyX w → R x y → R z w) : ∀ (bs cs : List (Nat → Int32)), bs.map keyX = cs.map keyX → bs.Pairwise R → cs.Pairwise R := by
  intro bs
  induction bs with
  | nil =>
    intro cs h _
    cases cs with
    | nil => exact List.Pairwise.nil
    | cons y r => cases h
  | cons x r ih =>
    intro cs h hp
    cases cs with
    | nil => cases h
    | cons y t =>
      rw [List.map_cons, List.map_cons] at h
      have h1 := (List.cons.inj h).1
      have h2 := (List.cons.inj h).2
      obtain ⟨p1, p2⟩ := List.pairwise_cons.mp hp
      refine List.pairwise_cons.mpr ⟨fun z hz => ?_, ih t h2 p2⟩
      obtain ⟨w, hw, e⟩ := key_mem h2 hz
      exact hR x w y z h1 e (p1 w hw)
theorem bOK_key {K : Int} {x y : Nat → Int32} (h : keyX x = keyX y) (q : bOK K x) : bOK K y := by
  obtain ⟨e1, e2, e3, e4, -⟩ := key_ct h
  unfold bOK at q ⊢
  rw [← e1, ← e2, ← e3, ← e4]
  exact q
theorem xSee_1 (z : Nat → Int32) : frX (xSee z) = frX z ∧ lnX (xSee z) = lnX z ∧ ctX (xSee z) = ctX z ∧ ((unseen z = true ∧ (xSee z) 2 = 1) ∨ (unseen z = false ∧ (xSee z) 2 = z 2)) := by
  cases hu : unseen z with
  | true =>
    rw [xSee_yes hu]
    exact ⟨rfl, rfl, rfl, Or.inl ⟨rfl, rfl⟩⟩
  | false =>
    rw [xSee_no hu]
    exact ⟨rfl, rfl, rfl, Or.inr ⟨rfl, rfl⟩⟩
theorem out_r {x : Nat → Int32} (h1 : 4 ≤ lnX x ∧ lnX x ≤ 30) (h2 : -100000000 ≤ frX x ∧ frX x ≤ 1000) : isOut x = true ↔ 100 ≤ frX x - lnX x := by
  have e : (x 0 - x 1).toInt = frX x - lnX x := by
    unfold frX lnX at *
    exact i_sub (by omega) (by omega)
  have e100 : (100 : Int32).toInt = 100 := rfl
  unfold isOut
  simp only [decide_eq_true_eq]
  rw [Int32.le_iff_toInt_le, e, e100]
/-- a box that moved on and that may be seen now -/
theorem moved_see {K : Int} {m : MT} (hK : K ≤ 100000000) (hs : setOK m) (hb : beltOK K m) : ∀ y ∈ (mSee (mMove m)).2.1, (4 ≤ lnX y ∧ lnX y ≤ 30) ∧ (-100000000 ≤ frX y ∧ frX y ≤ 159) ∧ (y 2 = 0 ∨ y 2 = 1) ∧ -K ≤ ctX y ∧ (y 2 = 0 → ctX y ≤ 34) := by
  intro y hy
  obtain ⟨z, hz, rfl⟩ := List.mem_map.mp hy
  obtain ⟨x, hx, rfl⟩ := List.mem_map.mp hz
  have h1 := hb.1 x hx
  obtain ⟨a, b⟩ := fr_move hK rfl hs.1 h1
  have hlo := fr_lo hK h1
  have hv := hs.1
  obtain ⟨h1, h2, h3, h4, h5⟩ := h1
  have e2 : (xMove (m.1 0) x) 2 = x 2 := rfl
  obtain ⟨c1, c2, c3, c4⟩ := xSee_1 (xMove (m.1 0) x)
  have hz2 : ctX (xMove (m.1 0) x) = 2 * frX (xMove (m.1 0) x) - lnX (xMove (m.1 0) x) := rfl
  have hx2 : ctX x = 2 * frX x - lnX x := rfl
  rw [c1, c2, c3]
  refine ⟨by omega, by omega, ?_, by omega, fun q => ?_⟩
  · rcases c4 with ⟨-, k⟩ | ⟨-, k⟩
    · exact Or.inr k
    · rw [k, e2]
      exact h2
  · rcases c4 with ⟨-, k⟩ | ⟨k1, k⟩
    · rw [k] at q
      exact absurd q (by decide)
    · rw [k] at q
      have k2 : ¬ (20 ≤ frX (xMove (m.1 0) x)) := fun w => by
        have := unseen_i.mpr ⟨q, w⟩
        rw [this] at k1
        cases k1
      omega
theorem apart_see {bs : List (Nat → Int32)} (h : bs.Pairwise apart) : (bs.map xSee).Pairwise apart := by
  rw [List.pairwise_map]
  refine h.imp (fun {x y} hxy => ?_)
  unfold apart at hxy ⊢
  rw [(xSee_1 x).1, (xSee_1 x).2.1, (xSee_1 y).1]
  exact hxy
theorem seenP_see {bs : List (Nat → Int32)} (h01 : ∀ x ∈ bs, x 2 = 0 ∨ x 2 = 1) (hl : ∀ x ∈ bs, 4 ≤ lnX x) (ha : bs.Pairwise apart) (h : seenP bs) : seenP (bs.map xSee) := by
  unfold seenP
  rw [List.pairwise_map]
  refine List.Pairwise.imp_of_mem (fun {x y} hx hy hxy q => ?_) (List.pairwise_and_iff.mpr ⟨ha, h⟩)
  obtain ⟨p1, p2⟩ := hxy
  rcases (xSee_1 x).2.2.2 with ⟨-, k⟩ | ⟨kx, k⟩
  · exact k
  · rw [k]
    rcases h01 x hx with z | z
    · exfalso
      have nx : ¬ 20 ≤ frX x := fun w => by
        have := unseen_i.mpr ⟨z, w⟩
        rw [this] at kx
        cases kx
      rcases (xSee_1 y).2.2.2 with ⟨ky, -⟩ | ⟨-, ky⟩
      · have := (unseen_i.mp ky).2
        have := hl x hx
        unfold apart at p1
        omega
      · rw [ky] at q
        have := p2 q
        rw [z] at this
        exact absurd this (by decide)
    · exact z
theorem beltOK_tick {K : Int} {m : MT} (hK : K ≤ 100000000) (hs : setOK m) (hb : beltOK K m) : beltOK K (mTick m) ∧ ∀ x ∈ (mTick m).2.1, ctX x ≤ 228 := by
  have h0 := moved_see hK hs hb
  have hk := (tick_key m).symm
  have h1 : ∀ x ∈ (mSee (mMove m)).2.1.filter (fun x => !isOut x), bOK K x ∧ ctX x ≤ 228 := by
    intro x hx
    obtain ⟨x1, x2⟩ := List.mem_filter.mp hx
    obtain ⟨a, b, d, e, i⟩ := h0 x x1
    have no : ¬ 100 ≤ frX x - lnX x := fun w => by
      have := (out_r a ⟨b.1, by omega⟩).mpr w
      rw [this] at x2
      cases x2
    have hc : ctX x = 2 * frX x - lnX x := rfl
    exact ⟨⟨a, d, e, by omega, i⟩, by omega⟩
  have m01 : ∀ x ∈ (mMove m).2.1, x 2 = 0 ∨ x 2 = 1 := by
    intro y hy
    obtain ⟨x, hx, rfl⟩ := List.mem_map.mp hy
    exact (hb.1 x hx).2.1
  have mln : ∀ x ∈ (mMove m).2.1, 4 ≤ lnX x := by
    intro y hy
    obtain ⟨x, hx, rfl⟩ := List.mem_map.mp hy
    exact (hb.1 x hx).1.1
  have ma : (mMove m).2.1.Pairwise apart := apart_move hK rfl hs.1 hb.1 hb.2.1
  have sa : (mSee (mMove m)).2.1.Pairwise apart := apart_see ma
  have ss : seenP (mSee (mMove m)).2.1 := seenP_see m01 mln ma (seenP_move hb.2.2)
  refine ⟨⟨fun y hy => ?_, ?_, ?_⟩, fun y hy => ?_⟩
  · obtain ⟨x, hx, e⟩ := key_mem hk hy
    exact bOK_key e (h1 x hx).1
  · refine key_pw (fun x y z w e1 e2 hxy => ?_) _ _ hk (sa.filter _)
    obtain ⟨-, -, a3, a4, -⟩ := key_ct e1
    obtain ⟨-, -, b3, -, -⟩ := key_ct e2
    unfold apart at hxy ⊢
    omega
  · refine key_pw (R := fun x y => y 2 = 1 → x 2 = 1) (fun x y z w e1 e2 hxy q => ?_) _ _ hk (ss.filter _)
    obtain ⟨-, a2, -⟩ := key_ct e1
    obtain ⟨-, b2, -⟩ := key_ct e2
    rw [← a2]
    exact hxy (b2.trans q)
  · obtain ⟨x, hx, e⟩ := key_mem hk hy
    rw [← (key_ct e).1]
    exact (h1 x hx).2
theorem pendM_tick {K : Int} {m : MT} (hK : K ≤ 100000000) (hs : setOK m) (h3 : 0 ≤ (m.1 3).toInt ∧ (m.1 3).toInt ≤ 20) (hb : beltOK K m) (hp : pendM m) : pendM (mTick m) := by
  obtain ⟨w1, w2⟩ := pend_tick hK hs h3 hb hp
  have h0 := moved_see hK hs hb
  have s8 := hs.2.2.2.2.2
  have e1 : (1 : Int32).toInt = 1 := rfl
  have e8 : ((mTick m).1 8).toInt = (m.1 8).toInt + 1 := by
    rw [tick_8, i_add (by omega) (by omega), e1]
  have ma : (mMove m).2.1.Pairwise apart := apart_move hK rfl hs.1 hb.1 hb.2.1
  have sa : (mSee (mMove m)).2.1.Pairwise apart := apart_see ma
  unfold pendM
  rw [e8]
  refine ⟨w1, w2.low ?_⟩
  rw [← dOr_key _ _ 62 (tick_key m).symm]
  refine dOr_leave _ 62 62 (Int.le_refl _) (List.Pairwise.imp_of_mem (fun {x y} hx hy hxy q => ?_) sa) (fun y hy q => ?_)
  · obtain ⟨a1, a2, -⟩ := h0 x hx
    obtain ⟨b1, b2, -⟩ := h0 y hy
    have := (out_r b1 ⟨b2.1, by omega⟩).mp q
    unfold apart at hxy
    exact (out_r a1 ⟨a2.1, by omega⟩).mpr (by omega)
  · obtain ⟨b1, b2, -⟩ := h0 y hy
    have := (out_r b1 ⟨b2.1, by omega⟩).mp q
    have hc : ctX y = 2 * frX y - lnX y := rfl
    omega
