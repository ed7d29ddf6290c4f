/-! the needed slack: more slack never starves more -/
def rng (z : Int32 × Int32) (b : Int) : Prop := (0 ≤ z.1.toInt ∧ z.1.toInt ≤ 60) ∧ 0 ≤ z.2.toInt ∧ z.2.toInt ≤ b
def relS (L : Int) (y z : Int32 × Int32) : Prop := ∃ d : Nat, y.2.toInt = z.2.toInt + d ∧ y.1.toInt ≤ z.1.toInt + L * d
theorem markS_i {L : Int32} {z : Int32 × Int32} {b : Int} (hL : 1 ≤ L.toInt ∧ L.toInt ≤ 20) (hz : rng z b) (hb : b ≤ 1000000000) : (markS L z).1.toInt = (if z.1.toInt < L.toInt then z.1.toInt else z.1.toInt - L.toInt) ∧ (markS L z).2.toInt = (if z.1.toInt < L.toInt then z.2.toInt + 1 else z.2.toInt) := by
  obtain ⟨⟨a1, a2⟩, a3, a4⟩ := hz
  have e1 : (1 : Int32).toInt = 1 := rfl
  unfold markS
  by_cases h : z.1 < L
  · have h2 := Int32.lt_iff_toInt_lt.mp h
    rw [if_pos h, if_pos h2, if_pos h2]
    exact ⟨rfl, by rw [i_add (by omega) (by omega), e1]⟩
  · have h2 : ¬ z.1.toInt < L.toInt := fun q => h (Int32.lt_iff_toInt_lt.mpr q)
    rw [if_neg h, if_neg h2, if_neg h2]
    exact ⟨by rw [i_sub (by omega) (by omega)], rfl⟩
theorem markS_rng {L : Int32} {z : Int32 × Int32} {b : Int} (hL : 1 ≤ L.toInt ∧ L.toInt ≤ 20) (hz : rng z b) (hb : b ≤ 1000000000) : rng (markS L z) (b + 1) ∧ z.2.toInt ≤ (markS L z).2.toInt := by
  obtain ⟨e1, e2⟩ := markS_i hL hz hb
  obtain ⟨⟨a1, a2⟩, a3, a4⟩ := hz
  unfold rng
  rw [e1, e2]
  split <;> omega
theorem markS_rel {L : Int32} {y z : Int32 × Int32} {b : Int} (hL : 1 ≤ L.toInt ∧ L.toInt ≤ 20) (hy : rng y b) (hz : rng z b) (hb : b ≤ 1000000000) (h : relS L.toInt y z) : relS L.toInt (markS L y) (markS L z) := by
  obtain ⟨d, h1, h2⟩ := h
  obtain ⟨e1, e2⟩ := markS_i hL hy hb
  obtain ⟨e3, e4⟩ := markS_i hL hz hb
  unfold relS
  rw [e1, e2, e3, e4]
  by_cases c1 : y.1.toInt < L.toInt
  · by_cases c2 : z.1.toInt < L.toInt
    · simp only [c1, c2, if_true]
      exact ⟨d, by omega, h2⟩
    · simp only [c1, c2, if_true, if_false]
      refine ⟨d + 1, by omega, ?_⟩
      have : L.toInt * ((d + 1 : Nat) : Int) = L.toInt * d + L.toInt := by rw [Int.natCast_add, Int.mul_add]; simp
      omega
  · by_cases c2 : z.1.toInt < L.toInt
    · simp only [c1, c2, if_true, if_false]
      cases d with
      | zero => simp at h2; omega
      | succ d =>
        refine ⟨d, by omega, ?_⟩
        have : L.toInt * ((d + 1 : Nat) : Int) = L.toInt * d + L.toInt := by rw [Int.natCast_add, Int.mul_add]; simp
        omega
    · simp only [c1, c2, if_false]
      exact ⟨d, h1, by omega⟩
theorem marks_all {L : Int32} (hL : 1 ≤ L.toInt ∧ L.toInt ≤ 20) (ps : List Int32) : ∀ {y z : Int32 × Int32} {b : Int}, rng y b → rng z b → b + ps.length ≤ 1000000000 → relS L.toInt y z → rng (marksS L ps y) (b + ps.length) ∧ rng (marksS L ps z) (b + ps.length) ∧ relS L.toInt (marksS L ps y) (marksS L ps z) ∧ y.2.toInt ≤ (marksS L ps y).2.toInt := by
  induction ps with
  | nil =>
    intro y z b hy hz hb h
    have e : b + (([] : List Int32).length : Int) = b := by simp
    rw [e]
    exact ⟨hy, hz, h, Int.le_refl _⟩
  | cons p t ih =>
    intro y z b hy hz hb h
    have e : b + ((p :: t).length : Int) = b + 1 + (t.length : Int) := by simp; omega
    rw [e] at hb ⊢
    have ht : 0 ≤ (t.length : Int) := Int.natCast_nonneg _
    unfold marksS
    by_cases hp : p ≤ 0
    · rw [if_pos hp, if_pos hp]
      obtain ⟨g1, g2⟩ := markS_rng hL hy (by omega)
      obtain ⟨g3, -⟩ := markS_rng hL hz (by omega)
      obtain ⟨k1, k2, k3, k4⟩ := ih g1 g3 (by omega) (markS_rel hL hy hz (by omega) h)
      exact ⟨k1, k2, k3, Int.le_trans g2 k4⟩
    · rw [if_neg hp, if_neg hp]
      exact ih ⟨hy.1, hy.2.1, by have := hy.2.2; omega⟩ ⟨hz.1, hz.2.1, by have := hz.2.2; omega⟩ (by omega) h
theorem feedS_i {cap fd : Int32} {z : Int32 × Int32} {b : Int} (hc : 1 ≤ cap.toInt ∧ cap.toInt ≤ 60) (hf : 0 ≤ fd.toInt ∧ fd.toInt ≤ 9) (hz : rng z b) : (feedS cap fd z).1.toInt = (if cap.toInt < z.1.toInt + fd.toInt then cap.toInt else z.1.toInt + fd.toInt) := by
  obtain ⟨⟨a1, a2⟩, a3, a4⟩ := hz
  have e : (z.1 + fd).toInt = z.1.toInt + fd.toInt := i_add (by omega) (by omega)
  unfold feedS
  by_cases h : cap < z.1 + fd
  · have h2 := Int32.lt_iff_toInt_lt.mp h
    rw [e] at h2
    simp only [h, h2, if_true]
  · have h2 : ¬ cap.toInt < z.1.toInt + fd.toInt := fun q => h (Int32.lt_iff_toInt_lt.mpr (by rw [e]; exact q))
    simp only [h, h2, if_false]
    exact e
theorem feed_all {L : Int} {cap fd : Int32} {y z : Int32 × Int32} {b : Int} (hL : 1 ≤ L) (hc : 1 ≤ cap.toInt ∧ cap.toInt ≤ 60) (hf : 0 ≤ fd.toInt ∧ fd.toInt ≤ 9) (hy : rng y b) (hz : rng z b) (h : relS L y z) : rng (feedS cap fd y) b ∧ rng (feedS cap fd z) b ∧ relS L (feedS cap fd y) (feedS cap fd z) := by
  have e1 := feedS_i hc hf hy
  have e2 := feedS_i hc hf hz
  obtain ⟨d, h1, h2⟩ := h
  have hd : 0 ≤ L * (d : Int) := Int.mul_nonneg (by omega) (Int.natCast_nonneg _)
  refine ⟨⟨?_, hy.2⟩, ⟨?_, hz.2⟩, d, h1, ?_⟩
  · rw [e1]; have := hy.1; split <;> omega
  · rw [e2]; have := hz.1; split <;> omega
  · rw [e1, e2]
    generalize L * (d : Int) = P at *
    split <;> split <;> omega
/-- the settings that slack depends on -/
def setS (m : MT) : Prop := (1 ≤ (m.1 4).toInt ∧ (m.1 4).toInt ≤ 20) ∧ (1 ≤ (m.1 5).toInt ∧ (m.1 5).toInt ≤ 60) ∧ 0 ≤ (m.1 6).toInt ∧ (m.1 6).toInt ≤ 9
theorem tick_set (m : MT) {i : Nat} (hi : i < 8) : (mTick m).1 i = m.1 i := by
  obtain ⟨a, -, -⟩ := do_fold (mTake (mCount (mSee (mMove m)))).2.2.2 ((mTake (mCount (mSee (mMove m)))).1, (mTake (mCount (mSee (mMove m)))).2.1)
  show upd ((mFeed (mDo (mTake (mCount (mSee (mMove m)))))).2.1.foldl outOne _) 8 _ i = _
  rw [pk_un (by omega), out_h _ _ _ (by omega)]
  show hFeed _ i = _
  unfold hFeed
  rw [pk_un (by omega)]
  refine (a i (by omega)).trans ?_
  show hMove m.1 i = m.1 i
  unfold hMove
  rw [if_neg (by omega), if_neg (by omega), if_neg (by omega)]
theorem take_len {m : MT} (h : TickOK m) : (mTake (mCount (mSee (mMove m)))).2.2.2.length ≤ 28 := by
  have h1 : m.2.2.1.length + ((mMove m).2.1.filter unseen).length + m.2.2.2.length ≤ 28 := h.1
  show (List.map _ m.2.2.2 ++ List.map _ (List.filter _ (m.2.2.1 ++ List.map _ _))).length ≤ 28
  rw [List.length_append, List.length_map, List.length_map]
  have h2 := List.length_filter_le (isDue (mMove m).1) (m.2.2.1 ++ ((mMove m).2.1.filter unseen).map (mkRep (mMove m).1))
  rw [List.length_append, List.length_map] at h2
  exact Nat.le_trans (Nat.add_le_add_left h2 _) (by omega)
theorem take_co {m n : MT} (h : CO m n) : (mTake (mCount (mSee (mMove m)))).2.2.2 = (mTake (mCount (mSee (mMove n)))).2.2.2 := congrArg Prod.snd h.move.see.count.take.2.2
theorem two_runs : ∀ (n : Nat) {m k : MT} {b : Int}, CO m k → setS m → TicksOK n m → rng (m.1 18, m.1 17) b → rng (k.1 18, k.1 17) b → b + 28 * n ≤ 1000000000 → relS (m.1 4).toInt (m.1 18, m.1 17) (k.1 18, k.1 17) → ((mTicks n k).1 17).toInt ≤ ((mTicks n m).1 17).toInt ∧ (m.1 17).toInt ≤ ((mTicks n m).1 17).toInt := by
  intro n
  induction n with
  | zero =>
    intro m k b hco hs hok hm hk hb h
    obtain ⟨d, h1, -⟩ := h
    simp only at h1
    exact ⟨by show (k.1 17).toInt ≤ (m.1 17).toInt; omega, Int.le_refl _⟩
  | succ n ih =>
    intro m k b hco hs hok hm hk hb h
    have t1 := tick_s m
    have t2 := tick_s k
    rw [← take_co hco, ← hco.1 4 (by omega), ← hco.1 5 (by omega), ← hco.1 6 (by omega)] at t2
    have hl := take_len (hok 0 (by omega))
    have hl : (mTake (mCount (mSee (mMove m)))).2.2.2.length ≤ 28 := hl
    obtain ⟨k1, k2, k3, k4⟩ := marks_all hs.1 (mTake (mCount (mSee (mMove m)))).2.2.2 hm hk (by omega) h
    have k1b := k1.2.2
    obtain ⟨f1, f2, f3⟩ := feed_all hs.1.1 hs.2.1 hs.2.2 k1 k2 k3
    rw [← t1] at f1 f3
    rw [← t2] at f2 f3
    have e17 : (m.1 17).toInt ≤ ((mTick m).1 17).toInt := by
      have := congrArg (fun z : Int32 × Int32 => z.2.toInt) t1
      simp only at this
      rw [this]
      exact k4
    have w := ih (m := mTick m) (k := mTick k) (b := b + 28) hco.tick (by unfold setS; rw [tick_set m (by decide), tick_set m (by decide), tick_set m (by decide)]; exact hs) (fun i hi => hok (i + 1) (by omega)) ⟨f1.1, f1.2.1, by have := f1.2.2; omega⟩ ⟨f2.1, f2.2.1, by have := f2.2.2; omega⟩ (by omega) (by rw [tick_set m (by decide)]; exact f3)
    exact ⟨w.1, Int.le_trans e17 w.2⟩
theorem sub0 {a b : Int32} : a - b = 0 ↔ a = b := by
  constructor
  · intro h
    have : a = a - b + b := (Int32.sub_add_cancel a b).symm
    rw [this, h, Int32.zero_add]
  · rintro rfl
    exact Int32.sub_self _
theorem relS_0 {L : Int} {y z : Int32 × Int32} (h1 : y.2 = z.2) (h2 : y.1.toInt ≤ z.1.toInt) : relS L y z := ⟨0, by rw [h1]; simp, by simpa using h2⟩
theorem withH_co (m : MT) (a b : Int32) : CO (withH m 18 a) (withH m 18 b) := by
  refine ⟨fun i hi => ?_, rfl, rfl⟩
  show upd m.1 18 a i = upd m.1 18 b i
  rw [pk_un (by omega), pk_un (by omega)]
theorem need_ok {m : MT} (hs : setS m) (h17 : 0 ≤ (m.1 17).toInt ∧ (m.1 17).toInt ≤ 900000000) (hok : AllOK m) : NeedOK m := by
  intro n hn
  have hS : ∀ k, setS (withH m 18 (nI k)) := fun k => hs
  have hR : ∀ k : Nat, k ≤ 60 → rng ((withH m 18 (nI k)).1 18, (withH m 18 (nI k)).1 17) 900000000 := fun k hk => ⟨by
    show 0 ≤ (upd m.1 18 (nI k) 18).toInt ∧ (upd m.1 18 (nI k) 18).toInt ≤ 60
    rw [pk_us, nI_toInt (by omega)]
    omega, by
    show 0 ≤ (upd m.1 18 (nI k) 17).toInt ∧ (upd m.1 18 (nI k) 17).toInt ≤ 900000000
    rw [pk_un (by decide)]
    exact h17⟩
  have e17 : ∀ k : Nat, (withH m 18 (nI k)).1 17 = m.1 17 := fun k => (by show upd m.1 18 (nI k) 17 = m.1 17; exact pk_un (by decide))
  have e18 : ∀ k : Nat, (withH m 18 (nI k)).1 18 = nI k := fun k => (by show upd m.1 18 (nI k) 18 = nI k; exact pk_us ..)
  have key : ∀ k l : Nat, k ≤ l → l ≤ 60 → ((mTicks n (withH m 18 (nI l))).1 17).toInt ≤ ((mTicks n (withH m 18 (nI k))).1 17).toInt ∧ (m.1 17).toInt ≤ ((mTicks n (withH m 18 (nI k))).1 17).toInt := by
    intro k l hkl hl
    have w := two_runs n (withH_co m (nI k) (nI l)) (hS k) ((hok n hn).2.2 k (by omega)) (hR k (by omega)) (hR l hl) (by omega) (relS_0 (by simp only; rw [e17, e17]) (by simp only; rw [e18, e18, nI_toInt (by omega), nI_toInt (by omega)]; omega))
    rw [e17] at w
    exact w
  refine ⟨fun k hk => ?_, fun k l hkl hl h => ?_⟩
  · have w := (key k k (Nat.le_refl _) hk).2
    unfold starves brg
    rw [e17, sub0, Int32.lt_iff_toInt_lt]
    constructor
    · intro h q
      rw [q] at h
      omega
    · intro h
      have : (m.1 17).toInt ≠ ((mTicks n (withH m 18 (nI k))).1 17).toInt := fun q => h (Int32.toInt_inj.mp q).symm
      omega
  · have w := (key k l hkl hl).1
    unfold starves at h ⊢
    rw [Int32.lt_iff_toInt_lt] at h ⊢
    omega
