/-! more slack never starves more: two runs that differ in slack and marks only -/
def keyX (x : Nat → Int32) : Int32 × Int32 × Int32 := (x 0, x 1, x 2)
/-- two belts that differ in what was counted from 11 to 18 and in marks only -/
def CO (m n : MT) : Prop := (∀ i, ¬ (11 ≤ i ∧ i ≤ 18) → m.1 i = n.1 i) ∧ m.2.1.map keyX = n.2.1.map keyX ∧ m.2.2 = n.2.2
theorem key_map {f : (Nat → Int32) → (Nat → Int32)} {F : Int32 × Int32 × Int32 → Int32 × Int32 × Int32} (hf : ∀ x, keyX (f x) = F (keyX x)) (bs : List (Nat → Int32)) : (bs.map f).map keyX = (bs.map keyX).map F := by
  rw [List.map_map, List.map_map]
  exact List.map_congr_left fun x _ => hf x
theorem key_filter {p : (Nat → Int32) → Bool} {P : Int32 × Int32 × Int32 → Bool} (hp : ∀ x, p x = P (keyX x)) (bs : List (Nat → Int32)) : (bs.filter p).map keyX = (bs.map keyX).filter P := by
  rw [List.filter_map]
  congr 1
  exact List.filter_congr fun x _ => hp x
theorem CO.move {m n : MT} (h : CO m n) : CO (mMove m) (mMove n) := by
  have h0 := h.1 0 (by omega)
  refine ⟨fun i hi => ?_, ?_, h.2.2⟩
  · show hMove m.1 i = hMove n.1 i
    unfold hMove
    split
    · exact h0
    · split
      · exact h.1 _ (by omega)
      · split
        · rw [h.1 21 (by omega), h0]
        · exact h.1 i hi
  · show (m.2.1.map _).map keyX = (n.2.1.map _).map keyX
    rw [key_map (F := fun k => (k.1 + m.1 0, k.2)) (fun x => rfl), key_map (F := fun k => (k.1 + n.1 0, k.2)) (fun x => rfl), h.2.1, h0]
def unsK (k : Int32 × Int32 × Int32) : Bool := decide (k.2.2 = 0) && decide (20 ≤ k.1)
def seeK (k : Int32 × Int32 × Int32) : Int32 × Int32 × Int32 := if unsK k then (k.1, k.2.1, 1) else k
def outK (k : Int32 × Int32 × Int32) : Bool := !decide (100 ≤ k.1 - k.2.1)
theorem unseen_key (x : Nat → Int32) : unseen x = unsK (keyX x) := rfl
theorem CO.see {m n : MT} (h : CO m n) : CO (mSee m) (mSee n) := by
  have h8 := h.1 8 (by omega)
  have h1 := h.1 1 (by omega)
  refine ⟨h.1, ?_, ?_⟩
  · show (m.2.1.map _).map keyX = (n.2.1.map _).map keyX
    have e : ∀ x, keyX (xSee x) = seeK (keyX x) := by
      intro x
      unfold xSee seeK
      rw [unseen_key]
      split <;> rfl
    rw [key_map (F := seeK) e, key_map (F := seeK) e, h.2.1]
  · show (m.2.2.1 ++ (m.2.1.filter unseen).map (mkRep m.1), m.2.2.2) = (n.2.2.1 ++ (n.2.1.filter unseen).map (mkRep n.1), n.2.2.2)
    have e : ∀ q : MT, q.1 8 = n.1 8 → q.1 1 = n.1 1 → (q.2.1.filter unseen).map (mkRep q.1) = ((q.2.1.filter unseen).map keyX).map (fun k => (n.1 8 + n.1 1, k.1 - 20)) := by
      intro q a b
      rw [List.map_map]
      refine List.map_congr_left fun x _ => ?_
      show (q.1 8 + q.1 1, x 0 - 20) = _
      rw [a, b]
      rfl
    rw [e m h8 h1, e n rfl rfl, key_filter (P := unsK) unseen_key, key_filter (P := unsK) unseen_key, h.2.1, h.2.2]
theorem CO.count {m n : MT} (h : CO m n) : CO (mCount m) (mCount n) := by
  refine ⟨h.1, h.2.1, ?_⟩
  show (m.2.2.1, m.2.2.2.map _) = (n.2.2.1, n.2.2.2.map _)
  rw [h.2.2, h.1 0 (by omega)]
theorem gwN_co {h k : Nat → Int32} (e : ∀ i, 22 ≤ i → h i = k i) : ∀ n, gwN h n = gwN k n := by
  intro n
  induction n with
  | zero => rfl
  | succ n ih =>
    unfold gwN
    rw [ih, e _ (by omega)]
theorem CO.take {m n : MT} (h : CO m n) : CO (mTake m) (mTake n) := by
  refine ⟨h.1, h.2.1, ?_⟩
  have e1 : isDue m.1 = isDue n.1 := by
    funext r
    unfold isDue
    rw [h.1 8 (by omega)]
  have e2 : mkPlan m.1 = mkPlan n.1 := by
    funext r
    unfold mkPlan gw
    rw [h.1 3 (by omega), h.1 2 (by omega), gwN_co (fun i hi => h.1 i (by omega))]
  show (m.2.2.1.filter _, m.2.2.2 ++ _) = (n.2.2.1.filter _, n.2.2.2 ++ _)
  rw [e1, e2, h.2.2]
theorem under_key (x : Nat → Int32) : isUnder x = (fun k : Int32 × Int32 × Int32 => decide (60 ≤ k.1) && decide (k.1 - k.2.1 < 60)) (keyX x) := rfl
theorem mark_key (x : Nat → Int32) : keyX (xMark x) = keyX x := by
  unfold xMark
  split <;> rfl
theorem bMark_key (bs : List (Nat → Int32)) : (bMark bs).map keyX = bs.map keyX := by
  induction bs with
  | nil => rfl
  | cons x r ih =>
    unfold bMark
    split
    · simp only [List.map_cons, mark_key]
    · simp only [List.map_cons, ih]
theorem mMark_key (q : (Nat → Int32) × List (Nat → Int32)) : (mMark q).2.map keyX = q.2.map keyX := by
  unfold mMark
  split
  · rfl
  · split
    · rfl
    · exact bMark_key _
theorem mMark_h (q : (Nat → Int32) × List (Nat → Int32)) : (∀ i, ¬ (11 ≤ i ∧ i ≤ 18) → (mMark q).1 i = q.1 i) ∧ (mMark q).1 18 = (if q.1 18 < q.1 4 then q.1 18 else q.1 18 - q.1 4) ∧ (mMark q).1 17 = (if q.1 18 < q.1 4 then q.1 17 + 1 else q.1 17) := by
  unfold mMark
  split
  · refine ⟨fun i hi => ?_, rfl, rfl⟩
    exact pk_un (by omega)
  · split
    · refine ⟨fun i hi => ?_, rfl, rfl⟩
      show upd (upd q.1 18 _) 15 _ i = _
      rw [pk_un (by omega), pk_un (by omega)]
    · refine ⟨fun i hi => ?_, ?_, ?_⟩
      · show hMarked (upd q.1 18 _) _ i = _
        unfold hMarked
        split
        · rw [pk_un (by omega), pk_un (by omega)]
        · rw [pk_un (by omega), pk_un (by omega), pk_un (by omega)]
      · show hMarked (upd q.1 18 _) _ 18 = _
        unfold hMarked
        split <;> rfl
      · show hMarked (upd q.1 18 _) _ 17 = _
        unfold hMarked
        split <;> rfl
/-- slack and starvings through one label -/
def markS (L : Int32) (z : Int32 × Int32) : Int32 × Int32 := if z.1 < L then (z.1, z.2 + 1) else (z.1 - L, z.2)
def marksS (L : Int32) : List Int32 → Int32 × Int32 → Int32 × Int32
  | [], z => z
  | p :: t, z => marksS L t (if p ≤ 0 then markS L z else z)
theorem do_fold (ps : List Int32) : ∀ q : (Nat → Int32) × List (Nat → Int32), (∀ i, ¬ (11 ≤ i ∧ i ≤ 18) → (ps.foldl doOne q).1 i = q.1 i) ∧ (ps.foldl doOne q).2.map keyX = q.2.map keyX ∧ ((ps.foldl doOne q).1 18, (ps.foldl doOne q).1 17) = marksS (q.1 4) ps (q.1 18, q.1 17) := by
  induction ps with
  | nil => exact fun q => ⟨fun _ _ => rfl, rfl, rfl⟩
  | cons p t ih =>
    intro q
    rw [List.foldl_cons]
    obtain ⟨a, b, d⟩ := ih (doOne q p)
    unfold marksS
    by_cases hp : p ≤ 0
    · have e : doOne q p = mMark q := by unfold doOne; rw [if_pos hp]
      rw [e] at a b d ⊢
      obtain ⟨g1, g2, g3⟩ := mMark_h q
      refine ⟨fun i hi => (a i hi).trans (g1 i hi), b.trans (mMark_key q), ?_⟩
      rw [d, g1 4 (by omega), g2, g3, if_pos hp]
      congr 1
      unfold markS
      split <;> rfl
    · have e : doOne q p = q := by unfold doOne; rw [if_neg hp]
      rw [e] at a b d ⊢
      exact ⟨a, b, by rw [d, if_neg hp]⟩
theorem CO.do {m n : MT} (h : CO m n) : CO (mDo m) (mDo n) := by
  obtain ⟨a1, b1, -⟩ := do_fold m.2.2.2 (m.1, m.2.1)
  obtain ⟨a2, b2, -⟩ := do_fold n.2.2.2 (n.1, n.2.1)
  refine ⟨fun i hi => (a1 i hi).trans ((h.1 i hi).trans (a2 i hi).symm), b1.trans (h.2.1.trans b2.symm), ?_⟩
  show (m.2.2.1, m.2.2.2.filter _) = (n.2.2.1, n.2.2.2.filter _)
  rw [h.2.2]
theorem CO.feed {m n : MT} (h : CO m n) : CO (mFeed m) (mFeed n) := by
  refine ⟨fun i hi => ?_, h.2.1, h.2.2⟩
  show upd m.1 18 _ i = upd n.1 18 _ i
  rw [pk_un (by omega), pk_un (by omega)]
  exact h.1 i hi
theorem out_key (x : Nat → Int32) : (!isOut x) = outK (keyX x) := rfl
theorem out_h (bs : List (Nat → Int32)) : ∀ (h : Nat → Int32) (i : Nat), ¬ (11 ≤ i ∧ i ≤ 13) → bs.foldl outOne h i = h i := by
  induction bs with
  | nil => exact fun _ _ _ => rfl
  | cons x r ih =>
    intro h i hi
    rw [List.foldl_cons, ih _ i hi]
    unfold outOne
    split
    · rcases fate_lt h x with e | e | e <;> rw [e] <;> exact pk_un (by omega)
    · rfl
theorem CO.leave {m n : MT} (h : CO m n) : CO (mLeave m) (mLeave n) := by
  refine ⟨fun i hi => ?_, ?_, h.2.2⟩
  · show m.2.1.foldl outOne m.1 i = n.2.1.foldl outOne n.1 i
    rw [out_h _ _ _ (by omega), out_h _ _ _ (by omega)]
    exact h.1 i hi
  · show (m.2.1.filter _).map keyX = (n.2.1.filter _).map keyX
    rw [key_filter (P := outK) out_key, key_filter (P := outK) out_key, h.2.1]
theorem CO.clock {m n : MT} (h : CO m n) : CO (mClock m) (mClock n) := by
  refine ⟨fun i hi => ?_, h.2.1, h.2.2⟩
  show upd m.1 8 _ i = upd n.1 8 _ i
  rw [h.1 8 (by omega)]
  unfold upd
  split
  · rfl
  · exact h.1 i hi
theorem CO.tick {m n : MT} (h : CO m n) : CO (mTick m) (mTick n) := h.move.see.count.take.do.feed.leave.clock
theorem hFeed_18 (h : Nat → Int32) : hFeed h 18 = if h 5 < h 18 + h 6 then h 5 else h 18 + h 6 := pk_us ..
theorem hFeed_17 (h : Nat → Int32) : hFeed h 17 = h 17 := pk_un (by decide)
/-- slack and starvings through a tick -/
def feedS (cap fd : Int32) (z : Int32 × Int32) : Int32 × Int32 := ((if cap < z.1 + fd then cap else z.1 + fd), z.2)
theorem tick_s (m : MT) : ((mTick m).1 18, (mTick m).1 17) = feedS (m.1 5) (m.1 6) (marksS (m.1 4) (mTake (mCount (mSee (mMove m)))).2.2.2 (m.1 18, m.1 17)) := by
  obtain ⟨a, b, d⟩ := do_fold (mTake (mCount (mSee (mMove m)))).2.2.2 ((mTake (mCount (mSee (mMove m)))).1, (mTake (mCount (mSee (mMove m)))).2.1)
  have hm : ∀ i, i ≤ 18 → (mTake (mCount (mSee (mMove m)))).1 i = m.1 i := by
    intro i hi
    show hMove m.1 i = m.1 i
    unfold hMove
    rw [if_neg (by omega), if_neg (by omega), if_neg (by omega)]
  simp only at a d
  rw [hm 4 (by omega), hm 18 (by omega), hm 17 (by omega)] at d
  have e : ∀ i, 14 ≤ i → i ≤ 18 → (mTick m).1 i = (mFeed (mDo (mTake (mCount (mSee (mMove m)))))).1 i := by
    intro i h1 h2
    show upd ((mFeed (mDo (mTake (mCount (mSee (mMove m)))))).2.1.foldl outOne _) 8 _ i = _
    rw [pk_un (by omega), out_h _ _ _ (by omega)]
  rw [e 18 (by omega) (by omega), e 17 (by omega) (by omega)]
  rw [← d]
  have a5 := (a 5 (by omega)).trans (hm 5 (by omega))
  have a6 := (a 6 (by omega)).trans (hm 6 (by omega))
  show (hFeed ((mTake (mCount (mSee (mMove m)))).2.2.2.foldl doOne ((mTake (mCount (mSee (mMove m)))).1, (mTake (mCount (mSee (mMove m)))).2.1)).1 18, hFeed ((mTake (mCount (mSee (mMove m)))).2.2.2.foldl doOne ((mTake (mCount (mSee (mMove m)))).1, (mTake (mCount (mSee (mMove m)))).2.1)).1 17) = _
  rw [hFeed_18, hFeed_17, a5, a6]
  rfl
