/-! the ages through a tick -/
def chainC (D : Int) : List Int → Prop
  | [] => True
  | c :: t => 10 ≤ c ∧ c ≤ 52 ∧ c + 10 ≤ D ∧ chainC c t
def lastC (D : Int) : List Int → Int
  | [] => D
  | c :: t => lastC c t
theorem PB.news {a : Int} (ha : 0 ≤ a) : ∀ (cs : List Int) {A : List Int} {D : Int}, PB A D → chainC D cs → PB (List.replicate cs.length a ++ A) (lastC D cs) := by
  intro cs
  induction cs with
  | nil => exact fun h _ => h
  | cons c t ih =>
    intro A D h hc
    obtain ⟨h1, h2, h3, h4⟩ := hc
    have w := ih (h.new ha h1 h2 h3) h4
    refine w.sub (fun b hb => w.1 b ?_) (fun x => ?_)
    · rw [List.length_cons, List.replicate_succ', List.append_assoc] at hb
      exact hb
    · rw [List.length_cons, List.replicate_succ', List.append_assoc]
      exact Nat.le_refl _
theorem gwN_rng {h : Nat → Int32} (hw : ∀ k, k < 5 → 0 ≤ (h (22 + k)).toInt ∧ (h (22 + k)).toInt ≤ 9) : ∀ n : Nat, n ≤ 5 → 0 ≤ (gwN h n).toInt ∧ (gwN h n).toInt ≤ 9 * n := by
  intro n
  induction n with
  | zero =>
    intro _
    have e : (gwN h 0).toInt = 0 := rfl
    rw [e]
    exact ⟨by decide, by decide⟩
  | succ n ih =>
    intro hn
    have w := ih (by omega)
    have k := hw n (by omega)
    show 0 ≤ (gwN h n + h (22 + n)).toInt ∧ (gwN h n + h (22 + n)).toInt ≤ 9 * ((n + 1 : Nat) : Int)
    rw [i_add (by omega) (by omega)]
    omega
theorem gw_rng {h : Nat → Int32} (hw : ∀ k, k < 5 → 0 ≤ (h (22 + k)).toInt ∧ (h (22 + k)).toInt ≤ 9) {G : Nat} (hG : G ≤ 5) (hg : h 2 = nI G) : 0 ≤ (gw h).toInt ∧ (gw h).toInt ≤ 45 := by
  have w := gwN_rng hw G hG
  unfold gw
  rw [hg, nI_clamp (by omega)]
  omega
theorem mkPlan_i {h : Nat → Int32} {r : Int32 × Int32} (hw : ∀ k, k < 5 → 0 ≤ (h (22 + k)).toInt ∧ (h (22 + k)).toInt ≤ 9) {G : Nat} (hG : G ≤ 5) (hg : h 2 = nI G) (h3 : 0 ≤ (h 3).toInt ∧ (h 3).toInt ≤ 20) (he : 0 ≤ r.2.toInt ∧ r.2.toInt ≤ 40) : (mkPlan h r).toInt ≤ 60 ∧ -50 ≤ (mkPlan h r).toInt := by
  have g := gw_rng hw hG hg
  have e40 : (40 : Int32).toInt = 40 := rfl
  unfold mkPlan
  have e1 : (40 + h 3).toInt = 40 + (h 3).toInt := by rw [i_add (by omega) (by omega), e40]
  have e2 : (40 + h 3 - r.2).toInt = 40 + (h 3).toInt - r.2.toInt := by rw [i_sub (by omega) (by omega), e1]
  rw [i_sub (by omega) (by omega), e2]
  omega
def ageR (s : Int) (r : Int32 × Int32) : Int := 9 * (4 - r.1.toInt + s)
def ageP (p : Int32) : Int := 105 - p.toInt
def ages (s : Int) (rs : List (Int32 × Int32)) (ps : List Int32) : List Int := rs.map (ageR s) ++ ps.map ageP
/-- reports and plans are as they can be at the clock s -/
def pendOK (s : Int) (rs : List (Int32 × Int32)) (ps : List Int32) : Prop := (∀ r ∈ rs, s ≤ r.1.toInt ∧ r.1.toInt ≤ s + 4 ∧ 0 ≤ r.2.toInt ∧ r.2.toInt ≤ 40) ∧ ∀ p ∈ ps, 1 ≤ p.toInt ∧ p.toInt ≤ 60
/-- the old ones, counted down -/
theorem ages_old {s v : Int} {v32 : Int32} {rs : List (Int32 × Int32)} {ps : List Int32} {D : Int} (hv : 0 ≤ v ∧ v ≤ 9) (e : v32.toInt = v) (hp : pendOK s rs ps) (h : PB (ages s rs ps) D) : PB (ages (s + 1) rs (ps.map (fun p => p - v32))) (D + 2 * v) := by
  have ep : ∀ p ∈ ps, (p - v32).toInt = p.toInt - v := fun p hp2 => by
    have := hp.2 p hp2
    rw [i_sub (by omega) (by omega), e]
  refine h.older (fun b hb => ?_) hv.1 (fun t => ?_)
  · rcases List.mem_append.mp hb with k | k
    · obtain ⟨r, hr, rfl⟩ := List.mem_map.mp k
      have := hp.1 r hr
      unfold ageR
      omega
    · rw [List.map_map] at k
      obtain ⟨p, hp2, rfl⟩ := List.mem_map.mp k
      have := hp.2 p hp2
      show 0 ≤ 105 - (p - v32).toInt
      rw [ep p hp2]
      omega
  · unfold ages
    rw [nAge_app, nAge_app, List.map_map]
    refine Nat.add_le_add (nAge_map_mem rs (fun r _ => ?_) t) (nAge_map_mem ps (fun p hp2 => ?_) t)
    · unfold ageR
      omega
    · show 105 - p.toInt + v ≤ 105 - (p - v32).toInt
      rw [ep p hp2]
      omega
/-- the ages behind what comes due: the plans made of reports are no younger -/
theorem ages_take {s : Int} {h : Nat → Int32} {rs : List (Int32 × Int32)} {ps : List Int32} {D : Int} (hs : (h 8).toInt = s) (hk : ∀ r ∈ rs, s ≤ r.1.toInt ∧ r.1.toInt ≤ s + 5) (hm : ∀ r ∈ rs, (mkPlan h r).toInt ≤ 60) (hp : ∀ p ∈ ps, p.toInt ≤ 60) (h0 : PB (ages (s + 1) rs ps) D) : PB (ages (s + 1) (rs.filter (fun r => !isDue h r)) (ps ++ (rs.filter (isDue h)).map (mkPlan h))) D := by
  have hd : ∀ r, isDue h r = true → r.1.toInt ≤ s := fun r k => by
    have := of_decide_eq_true k
    rw [Int32.le_iff_toInt_le, hs] at this
    exact this
  refine h0.sub (fun b hb => ?_) (fun t => ?_)
  · rcases List.mem_append.mp hb with k | k
    · obtain ⟨r, hr, rfl⟩ := List.mem_map.mp k
      have := hk r (List.mem_filter.mp hr).1
      unfold ageR
      omega
    · obtain ⟨p, hp2, rfl⟩ := List.mem_map.mp k
      rcases List.mem_append.mp hp2 with w | w
      · have := hp p w
        unfold ageP
        omega
      · obtain ⟨r, hr, rfl⟩ := List.mem_map.mp w
        have := hm r (List.mem_filter.mp hr).1
        unfold ageP
        omega
  · unfold ages
    rw [nAge_app, nAge_app, List.map_append, nAge_app]
    have e := nAge_split (f := ageR (s + 1)) (isDue h) rs t
    have k : nAge (((rs.filter (isDue h)).map (mkPlan h)).map ageP) t ≤ nAge ((rs.filter (isDue h)).map (ageR (s + 1))) (t - 0) := by
      rw [List.map_map]
      refine nAge_map_mem _ (fun r hr => ?_) t
      have h1 := hk r (List.mem_filter.mp hr).1
      have h2 := hd r (List.mem_filter.mp hr).2
      have h3 := hm r (List.mem_filter.mp hr).1
      show 9 * (4 - r.1.toInt + (s + 1)) + 0 ≤ 105 - (mkPlan h r).toInt
      omega
    rw [Int.sub_zero] at k
    omega
/-- the ages behind the plans that are done -/
theorem ages_do {s : Int} {rs : List (Int32 × Int32)} {ps : List Int32} {D : Int} (h0 : PB (ages s rs ps) D) : PB (ages s rs (ps.filter (fun p => !decide (p ≤ 0)))) D := by
  refine h0.sub (fun b hb => h0.1 b ?_) (fun t => ?_)
  · rcases List.mem_append.mp hb with k | k
    · exact List.mem_append_left _ k
    · obtain ⟨p, hp, rfl⟩ := List.mem_map.mp k
      exact List.mem_append_right _ (List.mem_map_of_mem (List.mem_filter.mp hp).1)
  · unfold ages
    rw [nAge_app, nAge_app]
    exact Nat.add_le_add_left (nAge_filter _ _ _) _
