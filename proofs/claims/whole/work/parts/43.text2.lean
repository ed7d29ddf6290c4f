/-! texts, as the class reads them -/
theorem dg_i {v : Int32} : dg v = true ↔ 48 ≤ v ∧ v ≤ 57 := by simp [dg]
theorem here_dg (c : Int32) (t : List Int32) : hereB (c :: t) 48 57 = dg c := rfl
theorem dg_pos {c : Int32} (h : dg c = true) : 0 < c - 48 ↔ ¬ c = 48 := by
  obtain ⟨h1, h2⟩ := dg_i.mp h
  have e1 := Int32.le_iff_toInt_le.mp h1
  have e2 := Int32.le_iff_toInt_le.mp h2
  have e48 : (48 : Int32).toInt = 48 := rfl
  have e57 : (57 : Int32).toInt = 57 := rfl
  rw [e48] at e1
  rw [e57] at e2
  have e : (c - 48).toInt = c.toInt - 48 := by rw [i_sub (by omega) (by omega), e48]
  rw [Int32.lt_iff_toInt_lt, e, show (0 : Int32).toInt = 0 from rfl]
  constructor
  · rintro q rfl
    rw [e48] at q
    omega
  · intro q
    have : c.toInt ≠ 48 := fun w => q (Int32.toInt_inj.mp (by rw [w, e48]))
    omega
theorem kNum_no {c : Int32} {t : List Int32} (h : dg c = false) : rdNum (c :: t) = (false, 0, 0) := by
  show (if dg c = true then _ else _) = _
  rw [if_neg (by rw [h]; decide)]
theorem kNum_z {c : Int32} {t : List Int32} (h : dg c = true) (h0 : c = 48) : rdNum (c :: t) = (true, 1, c - 48) := by
  show (if dg c = true then (if 0 < c - 48 then _ else _) else _) = _
  rw [if_pos h, if_neg (fun q => (dg_pos h).mp q h0)]
theorem kNum_1 {c : Int32} (h : dg c = true) : rdNum [c] = (true, 1, c - 48) := by
  show (if dg c = true then (if 0 < c - 48 then _ else _) else _) = _
  rw [if_pos h]
  split <;> rfl
theorem kNum_2 {c e : Int32} {r : List Int32} (h : dg c = true) (h0 : ¬ c = 48) (h2 : dg e = true) : rdNum (c :: e :: r) = (true, 2, 10 * (c - 48) + e - 48) := by
  show (if dg c = true then (if 0 < c - 48 then (if dg e = true then _ else _) else _) else _) = _
  rw [if_pos h, if_pos ((dg_pos h).mpr h0), if_pos h2]
theorem kNum_1e {c e : Int32} {r : List Int32} (h : dg c = true) (h2 : dg e = false) : rdNum (c :: e :: r) = (true, 1, c - 48) := by
  show (if dg c = true then (if 0 < c - 48 then (if dg e = true then _ else _) else _) else _) = _
  rw [if_pos h]
  by_cases h0 : 0 < c - 48
  · rw [if_pos h0, if_neg (by rw [h2]; decide)]
  · rw [if_neg h0]
def dg7 (b : Int32) : Bool := decide (48 ≤ b) && decide (b ≤ 55)
theorem rdO_b1 {c b : Int32} {t : List Int32} (hc : c = 116) (h : dg7 b = false) : rdOrder (c :: b :: t) = (false, 1, c, 0, 0) := by
  show (if c = 116 then (if dg7 b = true then _ else _) else _) = _
  rw [if_pos hc, if_neg (by rw [h]; decide)]
theorem rdO_b {b : Int32} {t : List Int32} (h : dg7 b = false) : rdOrder (116 :: b :: t) = (false, 1, 116, 0, 0) := rdO_b1 rfl h
theorem rdO_21 {c b : Int32} (hc : c = 116) (h : dg7 b = true) : rdOrder [c, b] = (false, 2, c, b - 48, 0) := by
  show (if c = 116 then (if dg7 b = true then _ else _) else _) = _
  rw [if_pos hc, if_pos h]
theorem rdO_2 {b : Int32} (h : dg7 b = true) : rdOrder [116, b] = (false, 2, 116, b - 48, 0) := rdO_21 rfl h
theorem rdO_e1 {c b e : Int32} {t : List Int32} (hc : c = 116) (h : dg7 b = true) (he : ¬ e = 61) : rdOrder (c :: b :: e :: t) = (false, 2, c, b - 48, 0) := by
  show (if c = 116 then (if dg7 b = true then (if e = 61 then _ else _) else _) else _) = _
  rw [if_pos hc, if_pos h, if_neg he]
theorem rdO_e {b e : Int32} {t : List Int32} (h : dg7 b = true) (he : ¬ e = 61) : rdOrder (116 :: b :: e :: t) = (false, 2, 116, b - 48, 0) := rdO_e1 rfl h he
theorem rdO_31 {c b e : Int32} {t : List Int32} (hc : c = 116) (h : dg7 b = true) (he : e = 61) : rdOrder (c :: b :: e :: t) = ((rdNum t).1, 3 + (rdNum t).2.1, c, b - 48, (rdNum t).2.2) := by
  show (if c = 116 then (if dg7 b = true then (if e = 61 then _ else _) else _) else _) = _
  rw [if_pos hc, if_pos h, if_pos he]
theorem rdO_3 {b : Int32} {t : List Int32} (h : dg7 b = true) : rdOrder (116 :: b :: 61 :: t) = ((rdNum t).1, 3 + (rdNum t).2.1, 116, b - 48, (rdNum t).2.2) := rdO_31 rfl h rfl
theorem kO_n {c : Int32} {t : List Int32} (h : ¬ c = 116) (h2 : c = 98 ∨ c = 119 ∨ c = 115) : rdOrder (c :: t) = ((rdNum t).1, 1 + (rdNum t).2.1, c, 0, (rdNum t).2.2) := by
  show (if c = 116 then _ else (if c = 98 ∨ c = 119 ∨ c = 115 then _ else _)) = _
  rw [if_neg h, if_pos h2]
theorem rdO_x {c : Int32} {t : List Int32} (h : ¬ c = 116) (h2 : ¬ (c = 98 ∨ c = 119 ∨ c = 115)) : rdOrder (c :: t) = (false, 0, c, 0, 0) := by
  show (if c = 116 then _ else (if c = 98 ∨ c = 119 ∨ c = 115 then _ else _)) = _
  rw [if_neg h, if_neg h2]
/-- what follows a number or an order -/
def tailF (i n : Nat) (l : List Int32) : Int32 := match l.drop n with
  | [] => -6
  | c :: r => if c = 59 then autoF 0 (i + n + 1) r else nI (i + n)
theorem autoF5 (i : Nat) (t : List Int32) : autoF 5 i t = tailF i 0 t := by
  cases t with
  | nil => rfl
  | cons c r =>
    unfold tailF
    rw [autoF]
    simp only [duF]
    by_cases h : c = 59
    · simp [h]
    · simp [h]
theorem tailF_s (i n : Nat) (c : Int32) (l : List Int32) : tailF (i + 1) n l = tailF i (n + 1) (c :: l) := by
  unfold tailF
  rw [List.drop_succ_cons, show i + 1 + n = i + (n + 1) by omega]
theorem autoF4 (i : Nat) (t : List Int32) : autoF 4 i t = if hereB t 48 57 then tailF i 1 t else tailF i 0 t := by
  cases t with
  | nil => rfl
  | cons c r =>
    rw [here_dg, autoF]
    by_cases h : dg c = true
    · rw [if_pos h, show duF 4 c = 5 by simp [duF, h], if_neg (by decide), autoF5]
      exact tailF_s i 0 c r
    · have h2 : dg c = false := by simpa using h
      rw [if_neg h]
      by_cases h3 : c = 59
      · rw [show duF 4 c = 0 by subst h3; rfl, if_neg (by decide)]
        unfold tailF
        simp [h3]
      · rw [show duF 4 c = 6 by simp [duF, h2, h3], if_pos rfl]
        unfold tailF
        simp [h3]
theorem autoF3 (i : Nat) (t : List Int32) : autoF 3 i t = if (rdNum t).1 then tailF i (rdNum t).2.1 t else nI (i + (rdNum t).2.1) := by
  cases t with
  | nil => rfl
  | cons c r =>
    rw [autoF]
    cases h : dg c with
    | true =>
      by_cases h0 : c = 48
      · rw [kNum_z h h0, show duF 3 c = 5 by simp [duF, h0], if_neg (by decide), autoF5]
        exact tailF_s i 0 c r
      · rw [show duF 3 c = 4 by simp [duF, h0, h], if_neg (by decide), autoF4]
        cases r with
        | nil =>
          rw [kNum_1 h]
          exact tailF_s i 0 c []
        | cons e r2 =>
          cases h2 : dg e with
          | true =>
            rw [kNum_2 h h0 h2, here_dg, if_pos h2]
            exact tailF_s i 1 c (e :: r2)
          | false =>
            rw [kNum_1e h h2, here_dg, if_neg (by rw [h2]; decide)]
            exact tailF_s i 0 c (e :: r2)
    | false =>
      have h0 : ¬ c = 48 := fun q => by subst q; exact absurd h (by decide)
      rw [kNum_no h, show duF 3 c = 6 by simp [duF, h0, h], if_pos rfl]
      rfl
theorem autoF0 (i : Nat) (l : List Int32) : autoF 0 i l = if (rdOrder l).1 then tailF i (rdOrder l).2.1 l else nI (i + (rdOrder l).2.1) := by
  cases l with
  | nil => rfl
  | cons c t =>
    rw [autoF]
    by_cases h : c = 116
    · subst h
      rw [show duF 0 116 = 1 from rfl, if_neg (by decide)]
      cases t with
      | nil => rfl
      | cons b t2 =>
        rw [autoF]
        cases hb : dg7 b with
        | true =>
          have hb2 : 48 ≤ b ∧ b ≤ 55 := by simpa [dg7] using hb
          rw [show duF 1 b = 2 by simp [duF, hb2], if_neg (by decide)]
          cases t2 with
          | nil =>
            rw [rdO_2 hb]
            rfl
          | cons e t3 =>
            rw [autoF]
            by_cases he : e = 61
            · subst he
              rw [show duF 2 61 = 3 from rfl, if_neg (by decide), autoF3, rdO_3 hb]
              cases hr : (rdNum t3).1 with
              | true =>
                simp only [if_true]
                rw [tailF_s _ _ 61, tailF_s _ _ b, tailF_s _ _ 116, show 3 + (rdNum t3).2.1 = (rdNum t3).2.1 + 1 + 1 + 1 by omega]
              | false =>
                simp only [Bool.false_eq_true, if_false]
                rw [show i + 1 + 1 + 1 + (rdNum t3).2.1 = i + (3 + (rdNum t3).2.1) by omega]
            · rw [show duF 2 e = 6 by simp [duF, he], if_pos rfl, rdO_e hb he]
              rfl
        | false =>
          have hb2 : ¬ (48 ≤ b ∧ b ≤ 55) := by
            intro q
            rw [show dg7 b = true by simpa [dg7] using q] at hb
            cases hb
          rw [rdO_b hb, show duF 1 b = 6 by simp only [duF]; simp [hb2], if_pos rfl]
          rfl
    · by_cases h2 : c = 98 ∨ c = 119 ∨ c = 115
      · rw [show duF 0 c = 3 by simp only [duF, if_true]; rw [if_neg h, if_pos h2], if_neg (by decide), autoF3, kO_n h h2]
        cases hr : (rdNum t).1 with
        | true =>
          simp only [if_true]
          rw [tailF_s _ _ c, Nat.add_comm 1]
        | false =>
          simp only [Bool.false_eq_true, if_false]
          rw [show i + 1 + (rdNum t).2.1 = i + (1 + (rdNum t).2.1) by omega]
      · rw [show duF 0 c = 6 by simp only [duF, if_true]; rw [if_neg h, if_neg h2], if_pos rfl, rdO_x h h2]
        rfl
theorem autoF_R (f : Nat) : ∀ (i : Nat) (l : List Int32), l.length < f → autoF 0 i l = faultR f i l := by
  induction f with
  | zero => intro i l h; omega
  | succ f ih =>
    intro i l h
    rw [autoF0]
    unfold faultR tailF
    split
    · split
      · rename_i h2; rw [h2]
      · rename_i c r h2
        rw [h2]
        simp only
        have hl : r.length + 1 + (rdOrder l).2.1 ≤ l.length := by
          have := congrArg List.length h2
          simp only [List.length_drop, List.length_cons] at this
          omega
        rw [ih _ r (by omega)]
    · rfl
theorem autoF_s (p : List Int32) : autoF 0 0 p = sFault p := autoF_R _ _ _ (Nat.lt_succ_self _)
/-- what a number that is well looks like -/
theorem rdNum_is {t : List Int32} (h : (rdNum t).1 = true) : (∃ c r, t = c :: r ∧ dg c = true ∧ (rdNum t).2 = (1, c - 48)) ∨ ∃ c e r, t = c :: e :: r ∧ dg c = true ∧ dg e = true ∧ (rdNum t).2 = (2, 10 * (c - 48) + e - 48) := by
  cases t with
  | nil => cases h
  | cons c r =>
    cases hd : dg c with
    | true =>
      by_cases h0 : c = 48
      · exact Or.inl ⟨c, r, rfl, hd, by rw [kNum_z hd h0]⟩
      · cases r with
        | nil => exact Or.inl ⟨c, [], rfl, hd, by rw [kNum_1 hd]⟩
        | cons e r2 =>
          cases h2 : dg e with
          | true => exact Or.inr ⟨c, e, r2, rfl, hd, h2, by rw [kNum_2 hd h0 h2]⟩
          | false => exact Or.inl ⟨c, e :: r2, rfl, hd, by rw [kNum_1e hd h2]⟩
    | false =>
      rw [kNum_no hd] at h
      cases h
theorem numL_e (acc : Int32) {l : List Int32} (h : l = [] ∨ ∃ t, l = 59 :: t) : numL acc l = acc := by
  rcases h with rfl | ⟨t, rfl⟩
  · rfl
  · rfl
theorem numL_v {t : List Int32} (h : (rdNum t).1 = true) (he : t.drop (rdNum t).2.1 = [] ∨ ∃ r, t.drop (rdNum t).2.1 = 59 :: r) : numL 0 t = (rdNum t).2.2 := by
  rcases rdNum_is h with ⟨c, r, rfl, hd, e⟩ | ⟨c, e2, r, rfl, hd, hd2, e⟩
  · rw [e] at he ⊢
    rw [numL, if_pos hd, show (10 : Int32) * 0 = 0 from rfl, Int32.zero_add]
    exact numL_e _ he
  · rw [e] at he ⊢
    rw [numL, if_pos hd, numL, if_pos hd2, show (10 : Int32) * 0 = 0 from rfl, Int32.zero_add]
    have he2 : r = [] ∨ ∃ t, r = 59 :: t := he
    rw [numL_e _ he2]
    show 10 * (c - 48) + (e2 - 48) = 10 * (c - 48) + e2 - 48
    rw [Int32.sub_eq_add_neg, Int32.sub_eq_add_neg _ 48, Int32.sub_eq_add_neg (10 * _ + e2), Int32.add_assoc]
theorem rdOrder_is {l : List Int32} (h : (rdOrder l).1 = true) : (∃ c t, l = c :: t ∧ (c = 98 ∨ c = 119 ∨ c = 115) ∧ (rdNum t).1 = true ∧ (rdOrder l).2 = (1 + (rdNum t).2.1, c, 0, (rdNum t).2.2)) ∨ ∃ b t, l = 116 :: b :: 61 :: t ∧ (48 ≤ b ∧ b ≤ 55) ∧ (rdNum t).1 = true ∧ (rdOrder l).2 = (3 + (rdNum t).2.1, 116, b - 48, (rdNum t).2.2) := by
  cases l with
  | nil => cases h
  | cons c t =>
    by_cases hc : c = 116
    · subst hc
      cases t with
      | nil => cases h
      | cons b t2 =>
        cases hb : dg7 b with
        | true =>
          cases t2 with
          | nil => rw [rdO_2 hb] at h; cases h
          | cons e t3 =>
            by_cases he : e = 61
            · subst he
              rw [rdO_3 hb] at h
              exact Or.inr ⟨b, t3, rfl, by simpa [dg7] using hb, h, by rw [rdO_3 hb]⟩
            · rw [rdO_e hb he] at h; cases h
        | false => rw [rdO_b hb] at h; cases h
    · by_cases h2 : c = 98 ∨ c = 119 ∨ c = 115
      · rw [kO_n hc h2] at h
        exact Or.inl ⟨c, t, rfl, h2, h, by rw [kO_n hc h2]⟩
      · rw [rdO_x hc h2] at h; cases h
theorem dg_59 {c : Int32} (h : dg c = true) : ¬ c = 59 := by
  rintro rfl
  exact absurd h (by decide)
theorem rdNum_ns {t : List Int32} (h : (rdNum t).1 = true) : ∀ j, j < (rdNum t).2.1 → ¬ sgn t j = 59 := by
  intro j hj
  rcases rdNum_is h with ⟨c, r, rfl, hd, e⟩ | ⟨c, e2, r, rfl, hd, hd2, e⟩
  · rw [e] at hj
    have : j = 0 := by simp at hj; exact hj
    subst this
    exact dg_59 hd
  · rw [e] at hj
    have : j = 0 ∨ j = 1 := by simp at hj; omega
    rcases this with rfl | rfl
    · exact dg_59 hd
    · exact dg_59 hd2
theorem sgn_c (c : Int32) (t : List Int32) (j : Nat) : sgn (c :: t) (j + 1) = sgn t j := rfl
theorem rdOrder_ns {l : List Int32} (h : (rdOrder l).1 = true) : ∀ j, j < (rdOrder l).2.1 → ¬ sgn l j = 59 := by
  intro j hj
  rcases rdOrder_is h with ⟨c, t, rfl, hc, hn, e⟩ | ⟨b, t, rfl, hb, hn, e⟩
  · rw [e] at hj
    simp only at hj
    cases j with
    | zero =>
      show ¬ c = 59
      rcases hc with rfl | rfl | rfl <;> decide
    | succ j => exact rdNum_ns hn j (by omega)
  · rw [e] at hj
    simp only at hj
    match j, hj with
    | 0, _ => exact (by decide : ¬ (116 : Int32) = 59)
    | 1, _ =>
      show ¬ b = 59
      rintro rfl
      exact absurd hb.2 (by decide)
    | 2, _ => exact (by decide : ¬ (61 : Int32) = 59)
    | j + 3, hj => exact rdNum_ns hn j (by omega)
theorem faultR_is {f i : Nat} {l : List Int32} (hi : i + l.length < 2 ^ 31) (h : faultR (f + 1) i l = -6) : (rdOrder l).1 = true ∧ (l.drop (rdOrder l).2.1 = [] ∨ ∃ t, l.drop (rdOrder l).2.1 = 59 :: t ∧ faultR f (i + (rdOrder l).2.1 + 1) t = -6) := by
  have hle := rdOrder_le l
  unfold faultR at h
  by_cases h1 : (rdOrder l).1 = true
  · rw [if_pos h1] at h
    refine ⟨h1, ?_⟩
    revert h
    cases hd : l.drop (rdOrder l).2.1 with
    | nil => intro _; exact Or.inl rfl
    | cons c t =>
      intro h
      simp only at h
      by_cases hc : c = 59
      · rw [if_pos hc] at h
        exact Or.inr ⟨t, by rw [hc], h⟩
      · rw [if_neg hc] at h
        exact absurd h (nI_nm6 (by omega))
  · rw [if_neg h1] at h
    exact absurd h (nI_nm6 (by omega))
theorem sgn_d (p : List Int32) (i j : Nat) : sgn (p.drop i) j = sgn p (i + j) := by
  unfold sgn
  rw [List.getD_eq_getElem?_getD, List.getD_eq_getElem?_getD, List.getElem?_drop]
/-- every belt from which an order is carried out is as it should be -/
def ordOK2 : Nat → List Int32 → MT → Prop
  | 0, _, _ => True
  | f + 1, l, m => (∀ n, n ≤ 99 → TicksOK n m) ∧ MarkOK m ∧ (∀ x ∈ m.2.1, okLen (x 1) = true) ∧ ((rdOrder l).1 = true → ¬ (ordQ l m).1 < 0 → ∀ t, l.drop (rdOrder l).2.1 = 59 :: t → ordOK2 f t (ordQ l m).2)
theorem ordOK2.ok : ∀ (f : Nat) {l : List Int32} {m : MT}, ordOK2 f l m → ordOK f l m := by
  intro f
  induction f with
  | zero => exact fun _ => trivial
  | succ f ih => exact fun h => ⟨h.1, fun a b t ht => ih (h.2.2.2 a b t ht)⟩
