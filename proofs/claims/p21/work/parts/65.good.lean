/-! a belt as it can be: it stays so through ticks, also those that are tried -/
def goodM (K : Int) (m : MT) : Prop := setOK m ∧ beltOK K m ∧ pendM m ∧ MarkOK m ∧ (∀ x ∈ m.2.1, ctX x ≤ 228) ∧ rng (m.1 18, m.1 17) (28 * (m.1 8).toInt)
theorem goodM.tick {K : Int} {m : MT} (hK : K ≤ 100000000) (h : goodM K m) (h8 : (m.1 8).toInt ≤ 29999) : goodM K (mTick m) ∧ ((mTick m).1 8).toInt = (m.1 8).toInt + 1 := by
  obtain ⟨hs, hb, hp, hm, hc, hr⟩ := h
  have s8 := hs.2.2.2.2.2
  have e1 : (1 : Int32).toInt = 1 := rfl
  have e8 : ((mTick m).1 8).toInt = (m.1 8).toInt + 1 := by
    rw [tick_8, i_add (by omega) (by omega), e1]
  obtain ⟨b1, b2⟩ := beltOK_tick hK hs hb
  have hl := take_len (tickOK_of hK hs hb hp)
  have t1 := tick_s m
  have hS := hs.2.2.2.1
  obtain ⟨k1, -, k3, -⟩ := marks_all hS.1 (mTake (mCount (mSee (mMove m)))).2.2.2 hr hr (by omega) (relS_0 rfl (Int.le_refl _))
  obtain ⟨f1, -, -⟩ := feed_all hS.1.1 hS.2.1 hS.2.2 k1 k1 (relS_0 rfl (Int.le_refl _))
  rw [← t1] at f1
  refine ⟨⟨setOK_tick hs h8, b1, pendM_tick hK hs hm.1 hb hp, hm.tick, b2, ?_⟩, e8⟩
  rw [e8]
  obtain ⟨g1, g2, g3⟩ := f1
  exact ⟨g1, g2, by omega⟩
theorem goodM.ticks {K : Int} (hK : K ≤ 100000000) : ∀ (n : Nat) {m : MT}, goodM K m → (m.1 8).toInt + n ≤ 30000 → goodM K (mTicks n m) ∧ ((mTicks n m).1 8).toInt = (m.1 8).toInt + n := by
  intro n
  induction n with
  | zero =>
    intro m h _
    exact ⟨h, by show (m.1 8).toInt = (m.1 8).toInt + ((0 : Nat) : Int); omega⟩
  | succ n ih =>
    intro m h h8
    obtain ⟨a, b⟩ := h.tick hK (by omega)
    obtain ⟨c, d⟩ := ih a (by omega)
    exact ⟨c, by show ((mTicks n (mTick m)).1 8).toInt = _; omega⟩
theorem goodM.ok {K : Int} {m : MT} (hK : K ≤ 100000000) (h : goodM K m) (n : Nat) (h8 : (m.1 8).toInt + n ≤ 30000) : TicksOK n m := by
  intro k hk
  obtain ⟨⟨a, b, c, -⟩, -⟩ := h.ticks hK k (by omega)
  exact tickOK_of hK a b c
theorem upd_P {h : Nat → Int32} {i j : Nat} {v : Int32} (P : Int32 → Prop) (a : P (h j)) (b : j = i → P v) : P (upd h i v j) := by
  unfold upd
  split
  · rename_i e
    exact b e
  · exact a
theorem goodM.put {K : Int} {m : MT} (h : goodM K m) {i : Nat} {v : Int32} (hi : i < 22) (n8 : i ≠ 8) (n17 : i ≠ 17)
    (c0 : i = 0 → 0 ≤ v.toInt ∧ v.toInt ≤ 9) (c1 : i = 1 → 0 ≤ v.toInt ∧ v.toInt ≤ 5) (c2 : i = 2 → ∃ G : Nat, G ≤ 5 ∧ v = nI G) (c3 : i = 3 → 0 ≤ v.toInt ∧ v.toInt ≤ 20)
    (c4 : i = 4 → 1 ≤ v.toInt ∧ v.toInt ≤ 20) (c5 : i = 5 → 1 ≤ v.toInt ∧ v.toInt ≤ 60) (c6 : i = 6 → 0 ≤ v.toInt ∧ v.toInt ≤ 9) (c7 : i = 7 → 0 ≤ v.toInt ∧ v.toInt ≤ 9) (c18 : i = 18 → 0 ≤ v.toInt ∧ v.toInt ≤ 60) : goodM K (upd m.1 i v, m.2) := by
  obtain ⟨⟨s0, s1, s2, ⟨s4, s5, s6⟩, sw, s8⟩, hb, hp, ⟨m3, m7, mx⟩, hc, ⟨r18, r17⟩⟩ := h
  have e8 : upd m.1 i v 8 = m.1 8 := pk_un (fun q => n8 q.symm)
  have e17 : upd m.1 i v 17 = m.1 17 := pk_un (fun q => n17 q.symm)
  refine ⟨⟨upd_P (fun z => 0 ≤ z.toInt ∧ z.toInt ≤ 9) s0 fun q => c0 q.symm, upd_P (fun z => 0 ≤ z.toInt ∧ z.toInt ≤ 5) s1 fun q => c1 q.symm, upd_P (fun z => ∃ G : Nat, G ≤ 5 ∧ z = nI G) s2 fun q => c2 q.symm,
    ⟨upd_P (fun z => 1 ≤ z.toInt ∧ z.toInt ≤ 20) s4 fun q => c4 q.symm, upd_P (fun z => 1 ≤ z.toInt ∧ z.toInt ≤ 60) s5 fun q => c5 q.symm, upd_P (fun z => 0 ≤ z.toInt ∧ z.toInt ≤ 9) s6 fun q => c6 q.symm⟩, fun k hk => ?_, ?_⟩, hb, ?_,
    ⟨upd_P (fun z => 0 ≤ z.toInt ∧ z.toInt ≤ 20) m3 fun q => c3 q.symm, upd_P (fun z => 0 ≤ z.toInt ∧ z.toInt ≤ 9) m7 fun q => c7 q.symm, mx⟩, hc, ?_⟩
  · show 0 ≤ (upd m.1 i v (22 + k)).toInt ∧ (upd m.1 i v (22 + k)).toInt ≤ 9
    rw [pk_un (by omega)]
    exact sw k hk
  · show 0 ≤ (upd m.1 i v 8).toInt ∧ (upd m.1 i v 8).toInt ≤ 30000
    rw [e8]
    exact s8
  · show pendOK (upd m.1 i v 8).toInt _ _ ∧ PB (ages (upd m.1 i v 8).toInt _ _) _
    rw [e8]
    exact hp
  · show rng (upd m.1 i v 18, upd m.1 i v 17) (28 * (upd m.1 i v 8).toInt)
    rw [e8, e17]
    exact ⟨upd_P (fun z => 0 ≤ z.toInt ∧ z.toInt ≤ 60) r18 fun q => c18 q.symm, r17⟩
theorem goodM.all {K : Int} {m : MT} (hK : K ≤ 100000000) (h : goodM K m) (h8 : (m.1 8).toInt ≤ 29000) : AllOK m := by
  intro t ht
  refine ⟨h.ok hK t (by omega), fun k hk => ?_, fun k hk => ?_⟩
  · have g : goodM K (withH m 2 (nI k)) := h.put (by omega) (by omega) (by omega) (fun q => by omega) (fun q => by omega) (fun _ => ⟨k, hk, rfl⟩) (fun q => by omega) (fun q => by omega) (fun q => by omega) (fun q => by omega) (fun q => by omega) (fun q => by omega)
    refine g.ok hK t ?_
    show (upd m.1 2 (nI k) 8).toInt + _ ≤ _
    rw [pk_un (by omega)]
    omega
  · have g : goodM K (withH m 18 (nI k)) := h.put (by omega) (by omega) (by omega) (fun q => by omega) (fun q => by omega) (fun q => by omega) (fun q => by omega) (fun q => by omega) (fun q => by omega) (fun q => by omega) (fun q => by omega) (fun _ => by rw [nI_toInt (by omega)]; omega)
    refine g.ok hK t ?_
    show (upd m.1 18 (nI k) 8).toInt + _ ≤ _
    rw [pk_un (by omega)]
    omega
theorem goodM.need {K : Int} {m : MT} (hK : K ≤ 100000000) (h : goodM K m) (h8 : (m.1 8).toInt ≤ 29000) : NeedOK m := by
  refine need_ok h.1.2.2.2.1 ?_ (h.all hK h8)
  have := h.2.2.2.2.2.2
  simp only at this
  omega
theorem goodM.len {K : Int} {m : MT} (h : goodM K m) : ∀ x ∈ m.2.1, okLen (x 1) = true := by
  intro x hx
  have k := (h.2.1.1 x hx).1
  unfold lnX at k
  unfold okLen
  have e4 : (4 : Int32).toInt = 4 := rfl
  have e30 : (30 : Int32).toInt = 30 := rfl
  simp only [Bool.and_eq_true, decide_eq_true_eq, Int32.le_iff_toInt_le, e4, e30]
  exact k
