/-! the boxes moved on -/
theorem ct_move {K v : Int} {x : Nat → Int32} {v32 : Int32} (hK : K ≤ 100000000) (hv : v32.toInt = v) (h0 : 0 ≤ v ∧ v ≤ 9) (h : bOK K x) : ctX (xMove v32 x) = ctX x + 2 * v := by
  obtain ⟨a, b⟩ := fr_move hK hv h0 h
  unfold ctX
  omega
theorem apart_move {K v : Int} {v32 : Int32} {bs : List (Nat → Int32)} (hK : K ≤ 100000000) (hv : v32.toInt = v) (h0 : 0 ≤ v ∧ v ≤ 9) (h : ∀ x ∈ bs, bOK K x) (hp : bs.Pairwise apart) : (bs.map (xMove v32)).Pairwise apart := by
  rw [List.pairwise_map]
  refine List.Pairwise.imp_of_mem (fun {x y} hx hy hxy => ?_) hp
  obtain ⟨a, b⟩ := fr_move hK hv h0 (h x hx)
  obtain ⟨a2, b2⟩ := fr_move hK hv h0 (h y hy)
  unfold apart at hxy ⊢
  omega
theorem seenP_move {v32 : Int32} {bs : List (Nat → Int32)} (h : seenP bs) : seenP (bs.map (xMove v32)) := by
  unfold seenP at h ⊢
  rw [List.pairwise_map]
  exact h
theorem ctLt_move {K v : Int} {v32 : Int32} {bs : List (Nat → Int32)} (hK : K ≤ 100000000) (hv : v32.toInt = v) (h0 : 0 ≤ v ∧ v ≤ 9) (h : ∀ x ∈ bs, bOK K x) (hp : bs.Pairwise apart) : (bs.map (xMove v32)).Pairwise ctLt := by
  rw [List.pairwise_map]
  refine List.Pairwise.imp_of_mem (fun {x y} hx hy hxy => ?_) (ctLt_of h hp)
  unfold ctLt at hxy ⊢
  rw [ct_move hK hv h0 (h x hx), ct_move hK hv h0 (h y hy)]
  omega
theorem dOr_move {K v d : Int} {v32 : Int32} {bs : List (Nat → Int32)} (hK : K ≤ 100000000) (hv : v32.toInt = v) (h0 : 0 ≤ v ∧ v ≤ 9) (h : ∀ x ∈ bs, bOK K x) : dOr (d + 2 * v) (bs.map (xMove v32)) = dOr d bs + 2 * v := by
  unfold dOr
  have e : (bs.map (xMove v32)).filter (fun x => decide (x 2 = 1)) = (bs.filter (fun x => decide (x 2 = 1))).map (xMove v32) := by
    rw [List.filter_map]
    rfl
  rw [e, List.getLast?_map]
  cases hl : (bs.filter (fun x => decide (x 2 = 1))).getLast? with
  | none => rfl
  | some x =>
    obtain ⟨-, hm, -⟩ := dOr_some (d := d) hl
    exact ct_move hK hv h0 (h x hm)
theorem unseen_ct {K v : Int} {v32 : Int32} {bs : List (Nat → Int32)} (hK : K ≤ 100000000) (hv : v32.toInt = v) (h0 : 0 ≤ v ∧ v ≤ 9) (h : ∀ x ∈ bs, bOK K x) : ∀ x ∈ bs.map (xMove v32), unseen x = true → (10 ≤ ctX x ∧ ctX x ≤ 52) ∧ ctX x + 10 ≤ 62 + 2 * v := by
  intro y hy hu
  obtain ⟨x, hx, rfl⟩ := List.mem_map.mp hy
  obtain ⟨u1, u2⟩ := unseen_i.mp hu
  have hb := h x hx
  have e := ct_move hK hv h0 hb
  obtain ⟨h1, -, -, -, h5⟩ := hb
  have k := h5 u1
  have hl : lnX (xMove v32 x) = lnX x := rfl
  have hc : ctX (xMove v32 x) = 2 * frX (xMove v32 x) - lnX (xMove v32 x) := rfl
  omega
/-- the ages when the boxes have moved, those in sight are seen, and the plans are counted down -/
theorem chain_move {K v : Int} {v32 : Int32} {bs : List (Nat → Int32)} (hK : K ≤ 100000000) (hv : v32.toInt = v) (h0 : 0 ≤ v ∧ v ≤ 9) (h : ∀ x ∈ bs, bOK K x) (hp : bs.Pairwise apart) (hs : seenP bs) : chainC (dOr 62 bs + 2 * v) (((bs.map (xMove v32)).filter unseen).map ctX) := by
  rw [← dOr_move hK hv h0 h]
  have hu := unseen_ct hK hv h0 h
  exact chain_of _ _ (fun x hx hx2 => (hu x hx hx2).1) (ctLt_move hK hv h0 h hp) (unseen_dOr (seenP_move hs) (ctLt_move hK hv h0 h hp) fun x hx hx2 => (hu x hx hx2).2)
