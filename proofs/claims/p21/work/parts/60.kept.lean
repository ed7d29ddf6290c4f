/-! what a tick keeps: settings, ways, clock -/
theorem tick_8 (m : MT) : (mTick m).1 8 = m.1 8 + 1 := by
  obtain ⟨a, -, -⟩ := do_fold (mTake (mCount (mSee (mMove m)))).2.2.2 ((mTake (mCount (mSee (mMove m)))).1, (mTake (mCount (mSee (mMove m)))).2.1)
  show upd ((mFeed (mDo (mTake (mCount (mSee (mMove m)))))).2.1.foldl outOne (hFeed (mDo (mTake (mCount (mSee (mMove m))))).1)) 8 (((mFeed (mDo (mTake (mCount (mSee (mMove m)))))).2.1.foldl outOne (hFeed (mDo (mTake (mCount (mSee (mMove m))))).1)) 8 + 1) 8 = _
  rw [pk_us, out_h _ _ _ (by omega)]
  congr 1
  unfold hFeed
  rw [pk_un (by decide)]
  exact a 8 (by omega)
theorem tick_way (m : MT) {k : Nat} (hk : k < 5) : (mTick m).1 (22 + k) = if k = 0 then m.1 0 else m.1 (22 + (k - 1)) := by
  obtain ⟨a, -, -⟩ := do_fold (mTake (mCount (mSee (mMove m)))).2.2.2 ((mTake (mCount (mSee (mMove m)))).1, (mTake (mCount (mSee (mMove m)))).2.1)
  show upd ((mFeed (mDo (mTake (mCount (mSee (mMove m)))))).2.1.foldl outOne (hFeed (mDo (mTake (mCount (mSee (mMove m))))).1)) 8 _ (22 + k) = _
  rw [pk_un (by omega), out_h _ _ _ (by omega)]
  unfold hFeed
  rw [pk_un (by omega)]
  refine (a (22 + k) (by omega)).trans ?_
  show hMove m.1 (22 + k) = _
  unfold hMove
  by_cases h0 : k = 0
  · subst h0
    rfl
  · rw [if_neg (by omega), if_pos (by omega), if_neg h0, show 22 + k - 1 = 22 + (k - 1) by omega]
theorem setOK_tick {m : MT} (h : setOK m) (h8 : (m.1 8).toInt ≤ 29999) : setOK (mTick m) := by
  obtain ⟨s0, s1, s2, s4, sw, s8⟩ := h
  refine ⟨by rw [tick_set m (by decide)]; exact s0, by rw [tick_set m (by decide)]; exact s1, by rw [tick_set m (by decide)]; exact s2, ?_, fun k hk => ?_, ?_⟩
  · unfold setS at s4 ⊢
    rw [tick_set m (by decide), tick_set m (by decide), tick_set m (by decide)]
    exact s4
  · rw [tick_way m hk]
    split
    · exact s0
    · exact sw _ (by omega)
  · rw [tick_8]
    have e1 : (1 : Int32).toInt = 1 := rfl
    rw [i_add (by omega) (by omega), e1]
    omega
