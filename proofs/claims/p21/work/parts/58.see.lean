/-! the ages when the boxes have moved and those in sight are seen -/
theorem dOr_le {d e : Int} (h : d ≤ e) (bs : List (Nat → Int32)) : dOr d bs ≤ dOr e bs := by
  unfold dOr
  split
  · exact h
  · exact Int.le_refl _
theorem see_PB {K v s late : Int} {v32 t8 : Int32} {bs : List (Nat → Int32)} {rs : List (Int32 × Int32)} {ps : List Int32} (hK : K ≤ 100000000) (hv : v32.toInt = v) (h0 : 0 ≤ v ∧ v ≤ 9) (h : ∀ x ∈ bs, bOK K x) (hp : bs.Pairwise apart) (hs : seenP bs) (hl : 0 ≤ late ∧ late ≤ 5) (h8 : t8.toInt = s + late) (hpe : pendOK s rs ps) (hPB : PB (ages s rs ps) (dOr 62 bs)) :
    PB (ages (s + 1) (rs ++ ((bs.map (xMove v32)).filter unseen).map (fun x => (t8, x 0 - 20))) (ps.map (fun p => p - v32))) (dOr 62 ((bs.map (xMove v32)).map xSee)) := by
  have w1 := ages_old h0 hv hpe hPB
  have w2 := w1.news (a := 9 * (5 - late)) (by omega) _ (chain_move hK hv h0 h hp hs)
  have hm : ∀ x ∈ bs.map (xMove v32), x 2 = 0 ∨ x 2 = 1 := by
    intro y hy
    obtain ⟨x, hx, rfl⟩ := List.mem_map.mp hy
    exact (h x hx).2.1
  have hlen : ∀ x ∈ bs.map (xMove v32), 4 ≤ lnX x := by
    intro y hy
    obtain ⟨x, hx, rfl⟩ := List.mem_map.mp hy
    exact (h x hx).1.1
  have hf : (bs.map (xMove v32)).Pairwise (fun x y => unseen y = true → 20 ≤ frX x) := List.Pairwise.imp_of_mem (fun {x y} hx hy hxy hu => by
    have := (unseen_i.mp hu).2
    have := hlen x hx
    unfold apart at hxy
    omega) (apart_move hK hv h0 h hp)
  have e1 := dOr_see (bs.map (xMove v32)) (62 + 2 * v) (seenP_move hs) hm hf
  rw [dOr_move hK hv h0 h] at e1
  rw [← e1] at w2
  have er : (((bs.map (xMove v32)).filter unseen).map (fun x => (t8, x 0 - 20))).map (ageR (s + 1)) = List.replicate (((bs.map (xMove v32)).filter unseen).map ctX).length (9 * (5 - late)) := by
    rw [List.eq_replicate_iff]
    refine ⟨by simp only [List.length_map], fun b hb => ?_⟩
    rw [List.map_map] at hb
    obtain ⟨x, -, rfl⟩ := List.mem_map.mp hb
    show 9 * (4 - t8.toInt + (s + 1)) = 9 * (5 - late)
    omega
  refine (w2.low (dOr_le (by omega) _)).sub (fun b hb => w2.1 b ?_) (fun t => ?_)
  · unfold ages at hb
    rw [List.map_append, er] at hb
    rcases List.mem_append.mp hb with k | k
    · rcases List.mem_append.mp k with k | k
      · exact List.mem_append_right _ (List.mem_append_left _ k)
      · exact List.mem_append_left _ k
    · exact List.mem_append_right _ (List.mem_append_right _ k)
  · unfold ages
    rw [List.map_append, er]
    simp only [nAge_app]
    omega
/-- never more than 27 at once -/
theorem see_len {v s late : Int} {v32 t8 : Int32} {D : Int} {xs : List (Nat → Int32)} {rs : List (Int32 × Int32)} {ps : List Int32} (hv : v32.toInt = v) (h0 : 0 ≤ v ∧ v ≤ 9) (hl : 0 ≤ late ∧ late ≤ 5) (h8 : t8.toInt = s + late) (hpe : pendOK s rs ps) (w : PB (ages (s + 1) (rs ++ xs.map (fun x => (t8, x 0 - 20))) (ps.map (fun p => p - v32))) D) : rs.length + xs.length + ps.length ≤ 27 := by
  have k := w.len (fun a ha => ?_)
  · unfold ages at k
    simp only [List.length_append, List.length_map] at k
    exact k
  · rcases List.mem_append.mp ha with k | k
    · obtain ⟨r, hr, rfl⟩ := List.mem_map.mp k
      unfold ageR
      rcases List.mem_append.mp hr with q | q
      · have := hpe.1 r q
        omega
      · obtain ⟨x, -, rfl⟩ := List.mem_map.mp q
        show 9 * (4 - t8.toInt + (s + 1)) ≤ 113
        omega
    · rw [List.map_map] at k
      obtain ⟨p, hp, rfl⟩ := List.mem_map.mp k
      have := hpe.2 p hp
      show 105 - (p - v32).toInt ≤ 113
      rw [i_sub (by omega) (by omega), hv]
      omega
