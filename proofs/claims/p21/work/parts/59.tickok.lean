/-! a tick can be made -/
theorem oneU_rng {bs : List (Nat → Int32)} (h : ∀ x ∈ bs, (4 ≤ lnX x ∧ lnX x ≤ 30) ∧ -100000000 ≤ frX x ∧ frX x ≤ 1000) (hp : bs.Pairwise apart) : oneU bs := by
  unfold oneU
  rw [List.pairwise_map]
  refine List.Pairwise.imp_of_mem (fun {x y} hx hy hxy hu => ?_) hp
  have e60 : (60 : Int32).toInt = 60 := rfl
  have hb : (x 0 - x 1).toInt = frX x - lnX x := by
    have := h x hx
    unfold frX lnX at *
    exact i_sub (by omega) (by omega)
  unfold isUnder at hu
  simp only [Bool.and_eq_true, decide_eq_true_eq] at hu
  have h2 := Int32.lt_iff_toInt_lt.mp hu.2
  rw [hb, e60] at h2
  unfold apart at hxy
  unfold isUnder
  rw [Bool.and_eq_false_iff]
  refine Or.inl (decide_eq_false (fun q => ?_))
  have q2 := Int32.le_iff_toInt_le.mp q
  rw [e60] at q2
  unfold frX at *
  omega
theorem fr_lo {K : Int} {x : Nat → Int32} (hK : K ≤ 100000000) (h : bOK K x) : -60000000 ≤ frX x := by
  obtain ⟨h1, -, h3, -, -⟩ := h
  unfold ctX at h3
  omega
/-- the settings, the ways and the clock are as they can be -/
def setOK (m : MT) : Prop := (0 ≤ (m.1 0).toInt ∧ (m.1 0).toInt ≤ 9) ∧ (0 ≤ (m.1 1).toInt ∧ (m.1 1).toInt ≤ 5) ∧ (∃ G : Nat, G ≤ 5 ∧ m.1 2 = nI G) ∧ setS m ∧ (∀ k, k < 5 → 0 ≤ (m.1 (22 + k)).toInt ∧ (m.1 (22 + k)).toInt ≤ 9) ∧ 0 ≤ (m.1 8).toInt ∧ (m.1 8).toInt ≤ 30000
def pendM (m : MT) : Prop := pendOK (m.1 8).toInt m.2.2.1 m.2.2.2 ∧ PB (ages (m.1 8).toInt m.2.2.1 m.2.2.2) (dOr 62 m.2.1)
theorem see_M {K : Int} {m : MT} (hK : K ≤ 100000000) (hs : setOK m) (hb : beltOK K m) (hp : pendM m) : PB (ages ((m.1 8).toInt + 1) (mSee (mMove m)).2.2.1 (mCount (mSee (mMove m))).2.2.2) (dOr 62 (mSee (mMove m)).2.1) ∧ (mSee (mMove m)).2.2.1.length + m.2.2.2.length ≤ 27 := by
  obtain ⟨s0, s1, -, -, -, s8⟩ := hs
  have e8 : (m.1 8 + m.1 1).toInt = (m.1 8).toInt + (m.1 1).toInt := i_add (by omega) (by omega)
  have w := see_PB (K := K) (v32 := m.1 0) (t8 := m.1 8 + m.1 1) hK rfl s0 hb.1 hb.2.1 hb.2.2 s1 e8 hp.1 hp.2
  have k := see_len (v32 := m.1 0) (t8 := m.1 8 + m.1 1) rfl s0 s1 e8 hp.1 w
  refine ⟨w, ?_⟩
  show (m.2.2.1 ++ List.map _ _).length + _ ≤ 27
  rw [List.length_append, List.length_map]
  exact k
theorem tickOK_of {K : Int} {m : MT} (hK : K ≤ 100000000) (hs : setOK m) (hb : beltOK K m) (hp : pendM m) : TickOK m := by
  have k := (see_M hK hs hb hp).2
  refine ⟨?_, hs.2.2.1, oneU_rng (fun y hy => ?_) (apart_move hK rfl hs.1 hb.1 hb.2.1)⟩
  · have e : (mSee (mMove m)).2.2.1.length = m.2.2.1.length + ((mMove m).2.1.filter unseen).length := by
      show (m.2.2.1 ++ List.map _ _).length = _
      rw [List.length_append, List.length_map]
    omega
  · obtain ⟨x, hx, rfl⟩ := List.mem_map.mp hy
    have h1 := hb.1 x hx
    obtain ⟨a, b⟩ := fr_move hK rfl hs.1 h1
    have h2 := fr_lo hK h1
    obtain ⟨c1, -, -, c4, -⟩ := h1
    have := hs.1
    rw [a, b]
    omega
