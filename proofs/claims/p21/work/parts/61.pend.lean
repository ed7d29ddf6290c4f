/-! reports and plans through a tick -/
theorem pend_tick {K : Int} {m : MT} (hK : K ≤ 100000000) (hs : setOK m) (h3 : 0 ≤ (m.1 3).toInt ∧ (m.1 3).toInt ≤ 20) (hb : beltOK K m) (hp : pendM m) : pendOK ((m.1 8).toInt + 1) (mTick m).2.2.1 (mTick m).2.2.2 ∧ PB (ages ((m.1 8).toInt + 1) (mTick m).2.2.1 (mTick m).2.2.2) (dOr 62 (mSee (mMove m)).2.1) := by
  obtain ⟨w, -⟩ := see_M hK hs hb hp
  obtain ⟨s0, s1, ⟨G, hG, hg⟩, s4, sw, s8⟩ := hs
  have e8 : (m.1 8 + m.1 1).toInt = (m.1 8).toInt + (m.1 1).toInt := i_add (by omega) (by omega)
  have e20 : (20 : Int32).toInt = 20 := rfl
  have hw : ∀ k, k < 5 → 0 ≤ (hMove m.1 (22 + k)).toInt ∧ (hMove m.1 (22 + k)).toInt ≤ 9 := by
    intro k hk
    unfold hMove
    by_cases h0 : k = 0
    · subst h0
      exact s0
    · rw [if_neg (by omega), if_pos (by omega), show 22 + k - 1 = 22 + (k - 1) by omega]
      exact sw _ (by omega)
  have hr : ∀ r ∈ (mSee (mMove m)).2.2.1, ((m.1 8).toInt ≤ r.1.toInt ∧ r.1.toInt ≤ (m.1 8).toInt + 5) ∧ 0 ≤ r.2.toInt ∧ r.2.toInt ≤ 40 := by
    intro r hr
    rcases List.mem_append.mp hr with q | q
    · have := hp.1.1 r q
      omega
    · obtain ⟨x, hx, rfl⟩ := List.mem_map.mp q
      obtain ⟨hx1, hx2⟩ := List.mem_filter.mp hx
      have c := unseen_ct hK rfl s0 hb.1 x hx1 hx2
      have u := (unseen_i.mp hx2).2
      obtain ⟨y, hy, rfl⟩ := List.mem_map.mp hx1
      have l := (hb.1 y hy).1
      have hc : ctX (xMove (m.1 0) y) = 2 * frX (xMove (m.1 0) y) - lnX y := rfl
      have ef : ((xMove (m.1 0) y) 0 - 20).toInt = frX (xMove (m.1 0) y) - 20 := by
        unfold frX at *
        rw [i_sub (by omega) (by omega), e20]
      show ((m.1 8).toInt ≤ (m.1 8 + m.1 1).toInt ∧ (m.1 8 + m.1 1).toInt ≤ _) ∧ 0 ≤ ((xMove (m.1 0) y) 0 - 20).toInt ∧ ((xMove (m.1 0) y) 0 - 20).toInt ≤ 40
      rw [e8, ef]
      omega
  have hmp : ∀ r ∈ (mSee (mMove m)).2.2.1, (mkPlan (hMove m.1) r).toInt ≤ 60 := fun r q => (mkPlan_i (h := hMove m.1) hw hG hg h3 (hr r q).2).1
  have hps : ∀ p ∈ (mCount (mSee (mMove m))).2.2.2, p.toInt ≤ 60 := by
    intro p q
    obtain ⟨z, hz, rfl⟩ := List.mem_map.mp q
    have := hp.1.2 z hz
    show (z - m.1 0).toInt ≤ 60
    rw [i_sub (by omega) (by omega)]
    omega
  have w2 := ages_do (ages_take (h := hMove m.1) (s := (m.1 8).toInt) rfl (fun r q => (hr r q).1) hmp hps w)
  refine ⟨⟨fun r q => ?_, fun p q => ?_⟩, w2⟩
  · obtain ⟨q1, q2⟩ := List.mem_filter.mp q
    have k := hr r q1
    have : ¬ r.1.toInt ≤ (m.1 8).toInt := by
      intro z
      have : isDue (hMove m.1) r = true := decide_eq_true (Int32.le_iff_toInt_le.mpr z)
      simp [mCount, mSee, mMove, this] at q2
    omega
  · obtain ⟨q1, q2⟩ := List.mem_filter.mp q
    have hpos : ¬ p ≤ 0 := by simpa using q2
    have h1 : ¬ p.toInt ≤ 0 := fun z => hpos (Int32.le_iff_toInt_le.mpr z)
    have h2 : p.toInt ≤ 60 := by
      rcases List.mem_append.mp q1 with k | k
      · exact hps p k
      · obtain ⟨r, hr2, rfl⟩ := List.mem_map.mp k
        exact hmp r (List.mem_filter.mp hr2).1
    omega
