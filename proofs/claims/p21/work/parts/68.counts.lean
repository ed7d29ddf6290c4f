/-! what is counted, as naturals: c 10 arrived, c 11 good, c 12 bad, c 13 missed, c 14 marks on boxes, c 15 on the belt, c 16 twice, c 17 starved -/
def seenN (bs : List (Nat → Int32)) : Nat := bs.countP (fun x => decide (x 2 = 1))
def markN (bs : List (Nat → Int32)) : Nat := bs.countP (fun x => decide (¬ x 3 = -6))
def twicN (bs : List (Nat → Int32)) : Nat := bs.countP (fun x => decide (x 4 = 1))
def outN (bs : List (Nat → Int32)) : Nat := bs.countP isOut
/-- the flags of a box -/
def fl4 (x : Nat → Int32) : Prop := (x 2 = 0 ∨ x 2 = 1) ∧ (x 4 = 0 ∨ x 4 = 1) ∧ (x 4 = 1 → ¬ x 3 = -6)
def cH (c : Nat → Nat) (h : Nat → Int32) : Prop := ∀ k, 10 ≤ k → k ≤ 17 → h k = nI (c k)
/-- marks: on the boxes, and counted -/
def cMk (c : Nat → Nat) (bs : List (Nat → Int32)) : Prop := (∀ x ∈ bs, fl4 x) ∧ twicN bs ≤ c 16 ∧ markN bs + c 16 ≤ c 14
/-- the numbers of the boxes -/
def numP (A : Nat) (bs : List (Nat → Int32)) : Prop := bs.Pairwise (fun x y => (x 5).toInt < (y 5).toInt) ∧ ∀ x ∈ bs, 0 ≤ (x 5).toInt ∧ (x 5).toInt < (A : Int)
def cntC (c : Nat → Nat) (m : MT) : Prop := cH c m.1 ∧ c 10 = m.2.1.length + c 11 + c 12 + c 13 ∧ seenN m.2.1 + c 11 + c 12 + c 13 = m.2.2.1.length + m.2.2.2.length + c 14 + c 15 + c 17 ∧ cMk c m.2.1 ∧ numP (c 10) m.2.1
theorem nI_s (n : Nat) : nI n + 1 = nI (n + 1) := nI_1 n
/-! a box is marked -/
theorem bMark_app {bs : List (Nat → Int32)} {x : Nat → Int32} (h : bs.find? isUnder = some x) : ∃ d r, bs = d ++ x :: r ∧ bMark bs = d ++ xMark x :: r ∧ isUnder x = true := by
  obtain ⟨hx, d, r, e, hd⟩ := List.find?_eq_some_iff_append.mp h
  refine ⟨d, r, e, ?_, hx⟩
  rw [e]
  exact bMark_cut (fun z hz => by simpa using hd z hz) hx
theorem xMark_3 {x : Nat → Int32} (h : isUnder x = true) : ¬ (xMark x) 3 = -6 := by
  unfold isUnder at h
  simp only [Bool.and_eq_true, decide_eq_true_eq] at h
  have h1 := Int32.le_iff_toInt_le.mp h.1
  have e60 : (60 : Int32).toInt = 60 := rfl
  have e6 : (-6 : Int32).toInt = -6 := rfl
  have hb := Int32.toInt_lt (x 0)
  rw [e60] at h1
  have e : (xMark x) 3 = x 0 - 60 := by
    unfold xMark
    split <;> exact pk_us
  rw [e]
  intro q
  have k := congrArg Int32.toInt q
  rw [i_sub (by omega) (by omega), e60, e6] at k
  omega
theorem xMark_4 (x : Nat → Int32) : (xMark x) 4 = if x 3 = -6 then x 4 else 1 := by
  unfold xMark
  split
  · exact pk_un (by decide)
  · rw [pk_un (by decide)]
    exact pk_us
theorem xMark_2 (x : Nat → Int32) : (xMark x) 2 = x 2 := by
  unfold xMark
  split
  · exact pk_un (by decide)
  · rw [pk_un (by decide)]
    exact pk_un (by decide)
theorem xMark_5 (x : Nat → Int32) : (xMark x) 5 = x 5 := by
  unfold xMark
  split
  · exact pk_un (by decide)
  · rw [pk_un (by decide)]
    exact pk_un (by decide)
theorem xMark_fl {x : Nat → Int32} (h : isUnder x = true) (hf : fl4 x) : fl4 (xMark x) := by
  refine ⟨by rw [xMark_2]; exact hf.1, ?_, fun _ => xMark_3 h⟩
  rw [xMark_4]
  split
  · exact hf.2.1
  · exact Or.inr rfl
theorem cP_mid {α : Type} (p : α → Bool) (d r : List α) (x : α) : (d ++ x :: r).countP p = d.countP p + r.countP p + (if p x then 1 else 0) := by
  rw [List.countP_append, List.countP_cons]
  omega
/-- what a plan that is done does to the numbers -/
theorem mMark_c {c : Nat → Nat} {h : Nat → Int32} {bs : List (Nat → Int32)} (hc : cH c h) (hm : cMk c bs) : ∃ c2 : Nat → Nat, cH c2 (mMark (h, bs)).1 ∧ cMk c2 (mMark (h, bs)).2 ∧ (∀ k, c k ≤ c2 k) ∧ (∀ k, k ≤ 13 → c2 k = c k) ∧ c2 14 + c2 15 + c2 17 = c 14 + c 15 + c 17 + 1 ∧ (mMark (h, bs)).2.map (fun x => (x 2, x 5)) = bs.map (fun x => (x 2, x 5)) := by
  obtain ⟨m1, m2, m3⟩ := hm
  unfold mMark
  by_cases h18 : h 18 < h 4
  · simp only [if_pos h18]
    refine ⟨fun k => if k = 17 then c 17 + 1 else c k, fun k k1 k2 => ?_, ⟨m1, m2, m3⟩, fun k => ?_, fun k hk => if_neg (by omega), ?_, (by first | rfl | trivial)⟩
    · show upd h 17 (h 17 + 1) k = nI (if k = 17 then c 17 + 1 else c k)
      split
      · rename_i e
        subst e
        rw [pk_us, hc 17 (by omega) (by omega)]
        exact nI_s _
      · rename_i e
        rw [pk_un e]
        exact hc k k1 k2
    · show c k ≤ if k = 17 then c 17 + 1 else c k
      split
      · rename_i e
        subst e
        omega
      · omega
    · simp
      omega
  · simp only [if_neg h18]
    have ht : ∀ k, 10 ≤ k → k ≤ 17 → hTaken h k = nI (c k) := fun k k1 k2 => by
      unfold hTaken
      rw [pk_un (by omega)]
      exact hc k k1 k2
    cases hf : bs.find? isUnder with
    | none =>
      refine ⟨fun k => if k = 15 then c 15 + 1 else c k, fun k k1 k2 => ?_, ⟨m1, m2, m3⟩, fun k => ?_, fun k hk => if_neg (by omega), ?_, rfl⟩
      · show upd (hTaken h) 15 (h 15 + 1) k = nI (if k = 15 then c 15 + 1 else c k)
        split
        · rename_i e
          subst e
          rw [pk_us, hc 15 (by omega) (by omega)]
          exact nI_s _
        · rename_i e
          rw [pk_un e]
          exact ht k k1 k2
      · show c k ≤ if k = 15 then c 15 + 1 else c k
        split
        · rename_i e
          subst e
          omega
        · omega
      · simp
        omega
    | some x =>
      obtain ⟨d, r, e1, e2, hx⟩ := bMark_app hf
      have hfx : fl4 x := m1 x (by rw [e1]; simp)
      have hfl : ∀ y ∈ bMark bs, fl4 y := by
        rw [e2]
        intro y hy
        rcases List.mem_append.mp hy with q | q
        · exact m1 y (by rw [e1]; exact List.mem_append_left _ q)
        · rcases List.mem_cons.mp q with q | q
          · rw [q]
            exact xMark_fl hx hfx
          · exact m1 y (by rw [e1]; exact List.mem_append_right _ (List.mem_cons_of_mem _ q))
      have hmap : (bMark bs).map (fun x => (x 2, x 5)) = bs.map (fun x => (x 2, x 5)) := by
        rw [e2, e1, List.map_append, List.map_append, List.map_cons, List.map_cons, xMark_2, xMark_5]
      have t1 : twicN bs = d.countP (fun x => decide (x 4 = 1)) + r.countP (fun x => decide (x 4 = 1)) + (if x 4 = 1 then 1 else 0) := by
        unfold twicN
        rw [e1, cP_mid]
        simp only [decide_eq_true_eq]
      have t2 : twicN (bMark bs) = d.countP (fun x => decide (x 4 = 1)) + r.countP (fun x => decide (x 4 = 1)) + (if (xMark x) 4 = 1 then 1 else 0) := by
        unfold twicN
        rw [e2, cP_mid]
        simp only [decide_eq_true_eq]
      have n1 : markN bs = d.countP (fun x => decide (¬ x 3 = -6)) + r.countP (fun x => decide (¬ x 3 = -6)) + (if ¬ x 3 = -6 then 1 else 0) := by
        unfold markN
        rw [e1, cP_mid]
        simp only [decide_eq_true_eq]
      have n2 : markN (bMark bs) = d.countP (fun x => decide (¬ x 3 = -6)) + r.countP (fun x => decide (¬ x 3 = -6)) + 1 := by
        unfold markN
        rw [e2, cP_mid, if_pos (by simpa using xMark_3 hx)]
      rw [xMark_4] at t2
      show ∃ c2 : Nat → Nat, cH c2 (hMarked (hTaken h) x) ∧ cMk c2 (bMark bs) ∧ _ ∧ _ ∧ _ ∧ _
      unfold hMarked
      by_cases h3 : x 3 = -6
      · have n4 : ¬ x 4 = 1 := fun q => hfx.2.2 q h3
        rw [if_neg n4] at t1
        rw [if_pos h3, if_neg n4] at t2
        rw [if_neg (fun q => q h3)] at n1
        rw [if_pos h3]
        refine ⟨fun k => if k = 14 then c 14 + 1 else c k, fun k k1 k2 => ?_, ⟨hfl, ?_, ?_⟩, fun k => ?_, fun k hk => if_neg (by omega), ?_, hmap⟩
        · show upd (hTaken h) 14 (hTaken h 14 + 1) k = nI (if k = 14 then c 14 + 1 else c k)
          split
          · rename_i e
            subst e
            rw [pk_us, ht 14 (by omega) (by omega)]
            exact nI_s _
          · rename_i e
            rw [pk_un e]
            exact ht k k1 k2
        · show twicN (bMark bs) ≤ c 16
          omega
        · show markN (bMark bs) + c 16 ≤ c 14 + 1
          omega
        · show c k ≤ if k = 14 then c 14 + 1 else c k
          split
          · rename_i e
            subst e
            omega
          · omega
        · simp
          omega
      · have b4 : (if x 4 = 1 then 1 else 0) ≤ 1 := by split <;> omega
        rw [if_neg h3, if_pos rfl] at t2
        rw [if_pos h3] at n1
        rw [if_neg h3]
        refine ⟨fun k => if k = 14 then c 14 + 1 else if k = 16 then c 16 + 1 else c k, fun k k1 k2 => ?_, ⟨hfl, ?_, ?_⟩, fun k => ?_, fun k hk => (if_neg (by omega)).trans (if_neg (by omega)), ?_, hmap⟩
        · show upd (upd (hTaken h) 14 (hTaken h 14 + 1)) 16 (hTaken h 16 + 1) k = nI (if k = 14 then c 14 + 1 else if k = 16 then c 16 + 1 else c k)
          by_cases k14 : k = 14
          · subst k14
            rw [pk_un (by decide), pk_us, if_pos rfl, ht 14 (by omega) (by omega)]
            exact nI_s _
          · rw [if_neg k14]
            by_cases k16 : k = 16
            · subst k16
              rw [pk_us, if_pos rfl, ht 16 (by omega) (by omega)]
              exact nI_s _
            · rw [if_neg k16, pk_un k16, pk_un k14]
              exact ht k k1 k2
        · show twicN (bMark bs) ≤ c 16 + 1
          omega
        · show markN (bMark bs) + (c 16 + 1) ≤ c 14 + 1
          omega
        · show c k ≤ if k = 14 then c 14 + 1 else if k = 16 then c 16 + 1 else c k
          split
          · rename_i e
            subst e
            omega
          · split
            · rename_i e
              subst e
              omega
            · omega
        · simp
          omega
theorem do_c : ∀ (ps : List Int32) {c : Nat → Nat} {q : (Nat → Int32) × List (Nat → Int32)}, cH c q.1 → cMk c q.2 → ∃ c2 : Nat → Nat, cH c2 (ps.foldl doOne q).1 ∧ cMk c2 (ps.foldl doOne q).2 ∧ (∀ k, c k ≤ c2 k) ∧ (∀ k, k ≤ 13 → c2 k = c k) ∧ c2 14 + c2 15 + c2 17 = c 14 + c 15 + c 17 + ps.countP (fun p => decide (p ≤ 0)) ∧ (ps.foldl doOne q).2.map (fun x => (x 2, x 5)) = q.2.map (fun x => (x 2, x 5)) := by
  intro ps
  induction ps with
  | nil => exact fun {c q} h1 h2 => ⟨c, h1, h2, fun _ => Nat.le_refl _, fun _ _ => rfl, rfl, rfl⟩
  | cons p t ih =>
    intro c q h1 h2
    rw [List.foldl_cons, List.countP_cons]
    by_cases hp : p ≤ 0
    · have e : doOne q p = mMark (q.1, q.2) := by
        unfold doOne
        rw [if_pos hp]
      obtain ⟨c2, a1, a2, a3, a4, a5, a6⟩ := mMark_c h1 h2
      rw [← e] at a1 a2 a6
      obtain ⟨c3, b1, b2, b3, b4, b5, b6⟩ := ih a1 a2
      refine ⟨c3, b1, b2, fun k => Nat.le_trans (a3 k) (b3 k), fun k hk => (b4 k hk).trans (a4 k hk), ?_, b6.trans a6⟩
      rw [if_pos (by simpa using hp)]
      omega
    · have e : doOne q p = q := by
        unfold doOne
        rw [if_neg hp]
      rw [e, if_neg (by simpa using hp)]
      exact ih h1 h2
/-! boxes leave -/
theorem fate_r (h x : Nat → Int32) : fate h x = 11 ∨ fate h x = 12 ∨ fate h x = 13 := by
  unfold fate
  split
  · exact Or.inr (Or.inr rfl)
  · split
    · exact Or.inl rfl
    · exact Or.inr (Or.inl rfl)
theorem out_c : ∀ (bs : List (Nat → Int32)) {c : Nat → Nat} {h : Nat → Int32}, cH c h → ∃ c2 : Nat → Nat, cH c2 (bs.foldl outOne h) ∧ (∀ k, c k ≤ c2 k) ∧ (∀ k, ¬ (11 ≤ k ∧ k ≤ 13) → c2 k = c k) ∧ c2 11 + c2 12 + c2 13 = c 11 + c 12 + c 13 + outN bs := by
  intro bs
  induction bs with
  | nil => exact fun {c h} hc => ⟨c, hc, fun _ => Nat.le_refl _, fun _ _ => rfl, rfl⟩
  | cons x t ih =>
    intro c h hc
    rw [List.foldl_cons]
    unfold outN
    rw [List.countP_cons]
    by_cases ho : isOut x = true
    · have e : outOne h x = upd h (fate h x) (h (fate h x) + 1) := by
        unfold outOne
        rw [if_pos ho]
      rw [if_pos ho]
      have hf := fate_r h x
      generalize fate h x = i at e hf
      have hc1 : cH (fun k => if k = i then c i + 1 else c k) (outOne h x) := fun k k1 k2 => by
        rw [e]
        show upd h i (h i + 1) k = nI (if k = i then c i + 1 else c k)
        split
        · rename_i e
          subst e
          rw [pk_us, hc k k1 k2]
          exact nI_s _
        · rename_i e
          rw [pk_un e]
          exact hc k k1 k2
      obtain ⟨c2, b1, b2, b3, b4⟩ := ih hc1
      refine ⟨c2, b1, fun k => ?_, fun k hk => ?_, ?_⟩
      · have := b2 k
        split at this
        · rename_i e
          subst e
          omega
        · omega
      · have := b3 k hk
        rw [if_neg (by omega)] at this
        exact this
      · unfold outN at b4
        rcases hf with rfl | rfl | rfl
        · simp at b4
          omega
        · simp at b4
          omega
        · simp at b4
          omega
    · have e : outOne h x = h := by
        unfold outOne
        rw [if_neg ho]
      rw [e, if_neg ho]
      exact ih hc
/-! boxes are seen -/
theorem see_N : ∀ bs : List (Nat → Int32), (∀ x ∈ bs, x 2 = 0 ∨ x 2 = 1) → seenN (bs.map xSee) = seenN bs + (bs.filter unseen).length := by
  intro bs
  induction bs with
  | nil => exact fun _ => rfl
  | cons x t ih =>
    intro h
    have w := ih fun y hy => h y (List.mem_cons_of_mem _ hy)
    have hx := h x List.mem_cons_self
    unfold seenN at w ⊢
    rw [List.map_cons, List.countP_cons, List.countP_cons, List.filter_cons]
    cases hu : unseen x with
    | true =>
      have h0 := (unseen_i.mp hu).1
      have h2 : (xSee x) 2 = 1 := by
        rw [xSee_yes hu]
        exact pk_us
      rw [if_pos (by simpa using h2), if_neg (by rw [h0]; decide), if_pos rfl, List.length_cons]
      omega
    | false =>
      rw [xSee_no hu, if_neg (c := (false = true)) (by decide)]
      omega
theorem xSee_un (x : Nat → Int32) {i : Nat} (hi : ¬ i = 2) : (xSee x) i = x i := by
  unfold xSee
  split
  · exact pk_un hi
  · rfl
theorem see_flag {x : Nat → Int32} (h : fl4 x) : fl4 (xSee x) := by
  obtain ⟨a, b, c⟩ := h
  refine ⟨?_, by rw [xSee_un _ (by decide)]; exact b, by rw [xSee_un _ (by decide), xSee_un _ (by decide)]; exact c⟩
  rcases (xSee_1 x).2.2.2 with ⟨-, k⟩ | ⟨-, k⟩
  · exact Or.inr k
  · rw [k]
    exact a
theorem cMk_map {c : Nat → Nat} {f : (Nat → Int32) → (Nat → Int32)} {bs : List (Nat → Int32)} (h3 : ∀ x, (f x) 3 = x 3) (h4 : ∀ x, (f x) 4 = x 4) (hf : ∀ x, fl4 x → fl4 (f x)) (h : cMk c bs) : cMk c (bs.map f) := by
  obtain ⟨a, b, d⟩ := h
  have e4 : twicN (bs.map f) = twicN bs := by
    unfold twicN
    rw [List.countP_map]
    congr 1
    funext x
    show decide ((f x) 4 = 1) = decide (x 4 = 1)
    rw [h4]
  have e3 : markN (bs.map f) = markN bs := by
    unfold markN
    rw [List.countP_map]
    congr 1
    funext x
    show decide (¬ (f x) 3 = -6) = decide (¬ x 3 = -6)
    rw [h3]
  refine ⟨fun y hy => ?_, by rw [e4]; exact b, by rw [e3]; exact d⟩
  obtain ⟨x, hx, rfl⟩ := List.mem_map.mp hy
  exact hf x (a x hx)
theorem numP_map {A : Nat} {f : (Nat → Int32) → (Nat → Int32)} {bs : List (Nat → Int32)} (h5 : ∀ x, (f x) 5 = x 5) (h : numP A bs) : numP A (bs.map f) := by
  refine ⟨?_, fun y hy => ?_⟩
  · rw [List.pairwise_map]
    refine h.1.imp (fun {x y} q => ?_)
    rw [h5, h5]
    exact q
  · obtain ⟨x, hx, rfl⟩ := List.mem_map.mp hy
    rw [h5]
    exact h.2 x hx
theorem numP_of {A : Nat} : ∀ {bs cs : List (Nat → Int32)}, cs.map (fun x => (x 2, x 5)) = bs.map (fun x => (x 2, x 5)) → numP A bs → numP A cs := by
  intro bs cs h hn
  have e5 : cs.map (fun x => x 5) = bs.map (fun x => x 5) := by
    have := congrArg (List.map (fun z : Int32 × Int32 => z.2)) h
    rw [List.map_map, List.map_map] at this
    exact this
  obtain ⟨a, b⟩ := hn
  have a2 : (bs.map (fun x => x 5)).Pairwise (fun p q => p.toInt < q.toInt) := List.pairwise_map.mpr a
  rw [← e5] at a2
  have a3 : cs.Pairwise (fun x y => (x 5).toInt < (y 5).toInt) := by
    have z := List.pairwise_map.mp a2
    exact z
  refine ⟨a3, fun y hy => ?_⟩
  have hy2 : y 5 ∈ bs.map (fun x => x 5) := by
    rw [← e5]
    exact List.mem_map_of_mem hy
  obtain ⟨x, hx, e⟩ := List.mem_map.mp hy2
  rw [← e]
  exact b x hx
theorem seenN_of {bs cs : List (Nat → Int32)} (h : cs.map (fun x => (x 2, x 5)) = bs.map (fun x => (x 2, x 5))) : seenN cs = seenN bs := by
  have e2 : cs.map (fun x => x 2) = bs.map (fun x => x 2) := by
    have := congrArg (List.map (fun z : Int32 × Int32 => z.1)) h
    rw [List.map_map, List.map_map] at this
    exact this
  have k := congrArg (List.countP (fun z : Int32 => decide (z = 1))) e2
  rw [List.countP_map, List.countP_map] at k
  exact k
theorem len_of2 {bs cs : List (Nat → Int32)} (h : cs.map (fun x => (x 2, x 5)) = bs.map (fun x => (x 2, x 5))) : cs.length = bs.length := by
  have k := congrArg List.length h
  rw [List.length_map, List.length_map] at k
  exact k
theorem cP_notl {α : Type} (p : α → Bool) : ∀ l : List α, (l.filter (fun x => !p x)).length + l.countP p = l.length := by
  intro l
  induction l with
  | nil => rfl
  | cons x t ih =>
    rw [List.filter_cons, List.countP_cons, List.length_cons]
    cases p x with
    | true =>
      simp only [Bool.not_true, Bool.false_eq_true, if_false, if_true]
      omega
    | false =>
      simp only [Bool.not_false, Bool.false_eq_true, if_false, if_true, List.length_cons]
      omega
theorem cP_notc {α : Type} (p s : α → Bool) : ∀ l : List α, (∀ x ∈ l, p x = true → s x = true) → (l.filter (fun x => !p x)).countP s + l.countP p = l.countP s := by
  intro l
  induction l with
  | nil => exact fun _ => rfl
  | cons x t ih =>
    intro h
    have w := ih fun y hy => h y (List.mem_cons_of_mem _ hy)
    have hx := h x List.mem_cons_self
    rw [List.filter_cons, List.countP_cons, List.countP_cons]
    cases hp : p x with
    | true =>
      rw [hx hp]
      simp only [Bool.not_true, Bool.false_eq_true, if_false, if_true]
      omega
    | false =>
      simp only [Bool.not_false, if_true, Bool.false_eq_true, if_false, List.countP_cons]
      omega
theorem cMk_filter {c : Nat → Nat} {bs : List (Nat → Int32)} (p : (Nat → Int32) → Bool) (h : cMk c bs) : cMk c (bs.filter p) := by
  obtain ⟨a, b, d⟩ := h
  have e4 : twicN (bs.filter p) ≤ twicN bs := List.Sublist.countP_le List.filter_sublist
  have e3 : markN (bs.filter p) ≤ markN bs := List.Sublist.countP_le List.filter_sublist
  exact ⟨fun x hx => a x (List.mem_filter.mp hx).1, by omega, by omega⟩
theorem numP_filter {A : Nat} {bs : List (Nat → Int32)} (p : (Nat → Int32) → Bool) (h : numP A bs) : numP A (bs.filter p) := ⟨h.1.filter _, fun x hx => h.2 x (List.mem_filter.mp hx).1⟩
theorem cH_of {c : Nat → Nat} {h h2 : Nat → Int32} (hc : cH c h) (e : ∀ k, 10 ≤ k → k ≤ 17 → h2 k = h k) : cH c h2 := fun k k1 k2 => (e k k1 k2).trans (hc k k1 k2)
theorem cMk_c {c c2 : Nat → Nat} {bs : List (Nat → Int32)} (h : cMk c bs) (e : ∀ k, 14 ≤ k → c2 k = c k) : cMk c2 bs := by
  obtain ⟨a, b, d⟩ := h
  exact ⟨a, by rw [e 16 (by omega)]; exact b, by rw [e 16 (by omega), e 14 (by omega)]; exact d⟩
/-- a tick: what is counted stays in its balance, and no number becomes less -/
theorem cnt_tick {K : Int} {m : MT} {c : Nat → Nat} (hK : K ≤ 100000000) (hs : setOK m) (hb : beltOK K m) (hc : cntC c m) : ∃ c2 : Nat → Nat, cntC c2 (mTick m) ∧ (∀ k, c k ≤ c2 k) ∧ c2 10 = c 10 := by
  obtain ⟨k1, k2, k3, k4, k5⟩ := hc
  have h2 : ∀ x ∈ (mMove m).2.1, x 2 = 0 ∨ x 2 = 1 := by
    intro y hy
    obtain ⟨x, hx, rfl⟩ := List.mem_map.mp hy
    exact (hb.1 x hx).2.1
  have a1 : cH c (mTake (mCount (mSee (mMove m)))).1 := cH_of k1 fun k x1 x2 => by
    show hMove m.1 k = m.1 k
    unfold hMove
    rw [if_neg (by omega), if_neg (by omega), if_neg (by omega)]
  have v1 : cMk c (mMove m).2.1 := cMk_map (fun x => pk_un (by decide)) (fun x => pk_un (by decide)) (fun x hx => hx) k4
  have a2 : cMk c (mSee (mMove m)).2.1 := cMk_map (fun x => xSee_un x (by decide)) (fun x => xSee_un x (by decide)) (fun x hx => see_flag hx) v1
  have v3 : numP (c 10) (mMove m).2.1 := numP_map (fun x => pk_un (by decide)) k5
  have a3 : numP (c 10) (mSee (mMove m)).2.1 := numP_map (fun x => xSee_un x (by decide)) v3
  have v4 : seenN (mMove m).2.1 = seenN m.2.1 := by
    show seenN (m.2.1.map (xMove (m.1 0))) = _
    unfold seenN
    rw [List.countP_map]
    rfl
  have a4 : seenN (mSee (mMove m)).2.1 = seenN m.2.1 + ((mMove m).2.1.filter unseen).length := by
    show seenN ((mMove m).2.1.map xSee) = _
    rw [see_N _ h2, v4]
  have l1 : (mSee (mMove m)).2.1.length = m.2.1.length := by
    show ((m.2.1.map (xMove (m.1 0))).map xSee).length = _
    rw [List.length_map, List.length_map]
  have l2 : (mTake (mCount (mSee (mMove m)))).2.2.1.length + (mTake (mCount (mSee (mMove m)))).2.2.2.length = m.2.2.1.length + ((mMove m).2.1.filter unseen).length + m.2.2.2.length := by
    show ((mSee (mMove m)).2.2.1.filter (fun r => !isDue _ r)).length + ((m.2.2.2.map (fun p => p - m.1 0)) ++ ((mSee (mMove m)).2.2.1.filter (isDue _)).map _).length = _
    have e := cP_notl (isDue (mCount (mSee (mMove m))).1) (mSee (mMove m)).2.2.1
    rw [List.countP_eq_length_filter] at e
    have e2 : (mSee (mMove m)).2.2.1.length = m.2.2.1.length + ((mMove m).2.1.filter unseen).length := by
      show (m.2.2.1 ++ List.map _ _).length = _
      rw [List.length_append, List.length_map]
    rw [List.length_append, List.length_map, List.length_map]
    omega
  obtain ⟨c2, b1, b2, b3, b4, b5, b6⟩ := do_c (mTake (mCount (mSee (mMove m)))).2.2.2 (q := ((mTake (mCount (mSee (mMove m)))).1, (mTake (mCount (mSee (mMove m)))).2.1)) a1 a2
  have d1 : cH c2 (mFeed (mDo (mTake (mCount (mSee (mMove m)))))).1 := cH_of b1 fun k x1 x2 => by
    show upd _ 18 _ k = _
    rw [pk_un (by omega)]
    rfl
  have ek : (mFeed (mDo (mTake (mCount (mSee (mMove m)))))).2.1.map (fun x => (x 2, x 5)) = (mSee (mMove m)).2.1.map (fun x => (x 2, x 5)) := b6
  have d5 : numP (c2 10) (mFeed (mDo (mTake (mCount (mSee (mMove m)))))).2.1 := by
    rw [b4 10 (by omega)]
    exact numP_of ek a3
  have d4 := seenN_of ek
  have d3 := len_of2 ek
  have d2 : cMk c2 (mFeed (mDo (mTake (mCount (mSee (mMove m)))))).2.1 := b2
  have d6 : (mFeed (mDo (mTake (mCount (mSee (mMove m)))))).2.2.2.length + (mTake (mCount (mSee (mMove m)))).2.2.2.countP (fun p => decide (p ≤ 0)) = (mTake (mCount (mSee (mMove m)))).2.2.2.length := cP_notl _ _
  have d7 : (mFeed (mDo (mTake (mCount (mSee (mMove m)))))).2.2.1.length = (mTake (mCount (mSee (mMove m)))).2.2.1.length := rfl
  -- who leaves was seen
  have ho : ∀ x ∈ (mFeed (mDo (mTake (mCount (mSee (mMove m)))))).2.1, isOut x = true → decide (x 2 = 1) = true := by
    intro x hx hox
    have kk : (mFeed (mDo (mTake (mCount (mSee (mMove m)))))).2.1.map keyX = (mSee (mMove m)).2.1.map keyX := (do_fold (mTake (mCount (mSee (mMove m)))).2.2.2 ((mTake (mCount (mSee (mMove m)))).1, (mTake (mCount (mSee (mMove m)))).2.1)).2.1
    obtain ⟨y, hy, e⟩ := key_mem kk.symm hx
    obtain ⟨e1, e2, e3, e4, e5⟩ := key_ct e
    obtain ⟨p1, p2, p3, p4, p5⟩ := moved_see hK hs hb y hy
    rw [← e5] at hox
    have q := (out_r p1 ⟨p2.1, by omega⟩).mp hox
    have hcc : ctX y = 2 * frX y - lnX y := rfl
    rw [decide_eq_true_eq, ← e2]
    rcases p3 with z | z
    · have := p5 z
      omega
    · exact z
  have em : mTick m = mClock (mLeave (mFeed (mDo (mTake (mCount (mSee (mMove m))))))) := rfl
  rw [em]
  clear em
  generalize (mFeed (mDo (mTake (mCount (mSee (mMove m)))))) = w at *
  obtain ⟨c3, f1, f2, f3, f4⟩ := out_c w.2.1 d1
  have g1 := cP_notl isOut w.2.1
  have g2 := cP_notc isOut (fun x => decide (x 2 = 1)) w.2.1 ho
  have c10 : c3 10 = c 10 := by rw [f3 10 (by omega), b4 10 (by omega)]
  have c11 := b4 11 (by omega)
  have c12 := b4 12 (by omega)
  have c13 := b4 13 (by omega)
  have c14 := f3 14 (by omega)
  have c15 := f3 15 (by omega)
  have c17 := f3 17 (by omega)
  unfold outN at f4
  refine ⟨c3, ⟨cH_of f1 fun k x1 x2 => ?_, ?_, ?_, ?_, ?_⟩, fun k => Nat.le_trans (b3 k) (f2 k), c10⟩
  · show upd _ 8 _ k = _
    rw [pk_un (by omega)]
    rfl
  · show c3 10 = (w.2.1.filter (fun x => !isOut x)).length + c3 11 + c3 12 + c3 13
    omega
  · show seenN (w.2.1.filter (fun x => !isOut x)) + c3 11 + c3 12 + c3 13 = w.2.2.1.length + w.2.2.2.length + c3 14 + c3 15 + c3 17
    unfold seenN at *
    omega
  · exact cMk_c (cMk_filter _ d2) fun k hk => f3 k (by omega)
  · show numP (c3 10) (w.2.1.filter (fun x => !isOut x))
    rw [f3 10 (by omega)]
    exact numP_filter _ d5
theorem cnt_ticks {K : Int} (hK : K ≤ 100000000) : ∀ (n : Nat) {m : MT} {c : Nat → Nat}, goodM K m → (m.1 8).toInt + n ≤ 30000 → cntC c m → ∃ c2 : Nat → Nat, cntC c2 (mTicks n m) ∧ (∀ k, c k ≤ c2 k) ∧ c2 10 = c 10 := by
  intro n
  induction n with
  | zero => exact fun {m c} _ _ h => ⟨c, h, fun _ => Nat.le_refl _, rfl⟩
  | succ n ih =>
    intro m c hg h8 hc
    obtain ⟨g1, g2⟩ := hg.tick hK (by omega)
    obtain ⟨c2, a1, a2, a3⟩ := cnt_tick hK hg.1 hg.2.1 hc
    obtain ⟨c3, b1, b2, b3⟩ := ih g1 (by omega) a1
    exact ⟨c3, b1, fun k => Nat.le_trans (a2 k) (b2 k), b3.trans a3⟩
/-! the other changes -/
theorem cnt_set {c : Nat → Nat} {m : MT} (h : cntC c m) (k v : Int32) : cntC c (mSet k v m).2 := by
  unfold mSet
  split
  · rename_i ho
    unfold okS at ho
    simp only [Bool.and_eq_true, decide_eq_true_eq] at ho
    obtain ⟨⟨⟨k1, k2⟩, -⟩, -⟩ := ho
    have e0 : (0 : Int32).toInt = 0 := rfl
    have e8 : (8 : Int32).toInt = 8 := rfl
    rw [Int32.le_iff_toInt_le, e0] at k1
    rw [Int32.lt_iff_toInt_lt, e8] at k2
    have hi : k.toNatClampNeg < 8 := by
      unfold Int32.toNatClampNeg
      omega
    exact ⟨cH_of h.1 fun j j1 j2 => pk_un (by omega), h.2⟩
  · exact h
theorem cnt_arrive {c : Nat → Nat} {m : MT} (h : cntC c m) (h10 : c 10 ≤ 1000000) (v : Int32) : ∃ c2 : Nat → Nat, cntC c2 (mArrive v m).2 ∧ c2 10 ≤ c 10 + 1 := by
  unfold mArrive
  split
  · split
    · exact ⟨c, h, by omega⟩
    · split
      · exact ⟨c, h, by omega⟩
      · obtain ⟨k1, k2, k3, ⟨k4, k5, k6⟩, k7, k8⟩ := h
        have e10 : m.1 10 = nI (c 10) := k1 10 (by omega) (by omega)
        have i10 : (m.1 10).toInt = (c 10 : Int) := by
          rw [e10, nI_toInt (by omega)]
        refine ⟨fun k => if k = 10 then c 10 + 1 else c k, ⟨fun k x1 x2 => ?_, ?_, ?_, ⟨fun x hx => ?_, ?_, ?_⟩, ?_, fun x hx => ?_⟩, by simp⟩
        · show upd m.1 10 (m.1 10 + 1) k = nI (if k = 10 then c 10 + 1 else c k)
          split
          · rename_i e
            subst e
            rw [pk_us, e10]
            exact nI_s _
          · rename_i e
            rw [pk_un e]
            exact k1 k x1 x2
        · show c 10 + 1 = (m.2.1 ++ [newX v (m.1 10)]).length + c 11 + c 12 + c 13
          rw [List.length_append, List.length_singleton]
          omega
        · show seenN (m.2.1 ++ [newX v (m.1 10)]) + c 11 + c 12 + c 13 = m.2.2.1.length + m.2.2.2.length + c 14 + c 15 + c 17
          have e : seenN (m.2.1 ++ [newX v (m.1 10)]) = seenN m.2.1 := by
            unfold seenN
            rw [List.countP_append]
            rfl
          omega
        · rcases List.mem_append.mp hx with q | q
          · exact k4 x q
          · rw [List.mem_singleton] at q
            subst q
            exact ⟨Or.inl rfl, Or.inl rfl, fun q => absurd (show (0 : Int32) = 1 from q) (by decide)⟩
        · show twicN (m.2.1 ++ [newX v (m.1 10)]) ≤ c 16
          have e : twicN (m.2.1 ++ [newX v (m.1 10)]) = twicN m.2.1 := by
            unfold twicN
            rw [List.countP_append]
            rfl
          omega
        · show markN (m.2.1 ++ [newX v (m.1 10)]) + c 16 ≤ c 14
          have e : markN (m.2.1 ++ [newX v (m.1 10)]) = markN m.2.1 := by
            unfold markN
            rw [List.countP_append]
            rfl
          omega
        · refine List.pairwise_append.mpr ⟨k7, List.pairwise_singleton _ _, fun x hx y hy => ?_⟩
          rw [List.mem_singleton] at hy
          subst hy
          show (x 5).toInt < (m.1 10).toInt
          rw [i10]
          exact (k8 x hx).2
        · show 0 ≤ (x 5).toInt ∧ (x 5).toInt < ((c 10 + 1 : Nat) : Int)
          rcases List.mem_append.mp hx with q | q
          · have := k8 x q
            omega
          · rw [List.mem_singleton] at q
            subst q
            show 0 ≤ (m.1 10).toInt ∧ (m.1 10).toInt < ((c 10 + 1 : Nat) : Int)
            omega
  · exact ⟨c, h, by omega⟩
theorem cnt_turn {c : Nat → Nat} {m : MT} (h : cntC c m) (b v : Int32) : cntC c (mTurn b v m).2 := by
  unfold mTurn
  split
  · exact h
  · unfold mTurnAt
    cases hx : m.2.1[b.toNatClampNeg]? with
    | none => exact h
    | some x =>
      simp only
      split
      · split
        · obtain ⟨hk, hxe⟩ := List.getElem?_eq_some_iff.mp hx
          generalize b.toNatClampNeg = k at *
          have hcut : m.2.1 = m.2.1.take k ++ x :: m.2.1.drop (k + 1) := by
            rw [← hxe, List.getElem_cons_drop, List.take_append_drop]
          obtain ⟨k1, k2, k3, ⟨k4, k5, k6⟩, k7, k8⟩ := h
          unfold seenN twicN markN at *
          rw [hcut] at k2 k3 k4 k5 k6 k7 k8
          generalize m.2.1.take k = d at *
          generalize m.2.1.drop (k + 1) = r at *
          have t2 : (xTurn x v) 2 = x 2 := rfl
          have t3 : (xTurn x v) 3 = x 3 := rfl
          have t4 : (xTurn x v) 4 = x 4 := rfl
          have t5 : (xTurn x v) 5 = x 5 := rfl
          rw [cP_mid] at k3 k5 k6
          refine ⟨k1, ?_, ?_, ⟨fun y hy => ?_, ?_, ?_⟩, pw_mid k7 (fun a ha => ?_) (fun a ha => ?_), fun y hy => ?_⟩
          · show c 10 = (d ++ xTurn x v :: r).length + c 11 + c 12 + c 13
            rw [List.length_append, List.length_cons] at k2 ⊢
            exact k2
          · show seenN (d ++ xTurn x v :: r) + c 11 + c 12 + c 13 = m.2.2.1.length + m.2.2.2.length + c 14 + c 15 + c 17
            unfold seenN
            rw [cP_mid, t2]
            exact k3
          · rcases List.mem_append.mp hy with q | q
            · exact k4 y (List.mem_append_left _ q)
            · rcases List.mem_cons.mp q with q | q
              · rw [q]
                have := k4 x (by simp)
                exact this
              · exact k4 y (List.mem_append_right _ (List.mem_cons_of_mem _ q))
          · show twicN (d ++ xTurn x v :: r) ≤ c 16
            unfold twicN
            rw [cP_mid, t4]
            exact k5
          · show markN (d ++ xTurn x v :: r) + c 16 ≤ c 14
            unfold markN
            rw [cP_mid, t3]
            exact k6
          · rw [t5]
            exact (List.pairwise_append.mp k7).2.2 a ha x List.mem_cons_self
          · rw [t5]
            exact (List.pairwise_cons.mp (List.pairwise_append.mp k7).2.1).1 a ha
          · rcases List.mem_append.mp hy with q | q
            · exact k8 y (List.mem_append_left _ q)
            · rcases List.mem_cons.mp q with q | q
              · rw [q, t5]
                exact k8 x (by simp)
              · exact k8 y (List.mem_append_right _ (List.mem_cons_of_mem _ q))
        · exact h
      · exact h
