/-! the boxes that are seen in a tick -/
def ctLt (x y : Nat → Int32) : Prop := ctX y + 10 ≤ ctX x
theorem chain_of : ∀ (xs : List (Nat → Int32)) (D : Int), (∀ x ∈ xs, unseen x = true → 10 ≤ ctX x ∧ ctX x ≤ 52) → xs.Pairwise ctLt → (∀ x ∈ xs, unseen x = true → ctX x + 10 ≤ D) → chainC D ((xs.filter unseen).map ctX) := by
  intro xs
  induction xs with
  | nil => exact fun _ _ _ _ => trivial
  | cons x r ih =>
    intro D h1 h2 h3
    obtain ⟨p1, p2⟩ := List.pairwise_cons.mp h2
    rw [List.filter_cons]
    by_cases hu : unseen x = true
    · rw [if_pos hu, List.map_cons]
      obtain ⟨a, b⟩ := h1 x List.mem_cons_self hu
      exact ⟨a, b, h3 x List.mem_cons_self hu, ih (ctX x) (fun y hy => h1 y (List.mem_cons_of_mem _ hy)) p2 fun y hy _ => p1 y hy⟩
    · rw [if_neg hu]
      exact ih D (fun y hy => h1 y (List.mem_cons_of_mem _ hy)) p2 fun y hy => h3 y (List.mem_cons_of_mem _ hy)
theorem seen_ahead : ∀ {xs : List (Nat → Int32)}, seenP xs → xs.Pairwise ctLt → ∀ x ∈ xs, ∀ y ∈ xs, ¬ x 2 = 1 → y 2 = 1 → ctX x + 10 ≤ ctX y := by
  intro xs
  induction xs with
  | nil => exact fun _ _ x hx => by simp at hx
  | cons z r ih =>
    intro hs hp x hx y hy h1 h2
    obtain ⟨s1, s2⟩ := List.pairwise_cons.mp hs
    obtain ⟨p1, p2⟩ := List.pairwise_cons.mp hp
    rcases List.mem_cons.mp hx with rfl | hx2
    · rcases List.mem_cons.mp hy with rfl | hy2
      · exact absurd h2 h1
      · exact absurd (s1 y hy2 h2) h1
    · rcases List.mem_cons.mp hy with rfl | hy2
      · exact p1 x hx2
      · exact ih s2 p2 x hx2 y hy2 h1 h2
/-- the last seen box, or what stands for it -/
def dOr (d : Int) (bs : List (Nat → Int32)) : Int := match (bs.filter (fun x => decide (x 2 = 1))).getLast? with
  | none => d
  | some x => ctX x
theorem dOr_some {d : Int} {bs : List (Nat → Int32)} {x : Nat → Int32} (h : (bs.filter (fun x => decide (x 2 = 1))).getLast? = some x) : dOr d bs = ctX x ∧ x ∈ bs ∧ x 2 = 1 := by
  have hm := List.mem_of_getLast? h
  rw [List.mem_filter] at hm
  refine ⟨?_, hm.1, of_decide_eq_true hm.2⟩
  unfold dOr
  rw [h]
theorem unseen_dOr {xs : List (Nat → Int32)} {d : Int} (hs : seenP xs) (hp : xs.Pairwise ctLt) (hd : ∀ x ∈ xs, unseen x = true → ctX x + 10 ≤ d) : ∀ x ∈ xs, unseen x = true → ctX x + 10 ≤ dOr d xs := by
  intro x hx hu
  have h0 : ¬ x 2 = 1 := by
    rw [(unseen_i.mp hu).1]
    decide
  cases hl : (xs.filter (fun x => decide (x 2 = 1))).getLast? with
  | none =>
    unfold dOr
    rw [hl]
    exact hd x hx hu
  | some y =>
    obtain ⟨e, h1, h2⟩ := dOr_some (d := d) hl
    rw [e]
    exact seen_ahead hs hp x hx y h1 h0 h2
theorem ctLt_of {K : Int} {bs : List (Nat → Int32)} (h : ∀ x ∈ bs, bOK K x) (hp : bs.Pairwise apart) : bs.Pairwise ctLt := List.Pairwise.imp_of_mem (fun {_ _} hx hy hxy => ct_apart (h _ hx) (h _ hy) hxy) hp
/-- where the last seen box lies when those that come into sight are seen -/
theorem dOr_see : ∀ (xs : List (Nat → Int32)) (d : Int), seenP xs → (∀ x ∈ xs, x 2 = 0 ∨ x 2 = 1) → xs.Pairwise (fun x y => unseen y = true → 20 ≤ frX x) → dOr d (xs.map xSee) = lastC (dOr d xs) ((xs.filter unseen).map ctX) := by
  intro xs
  induction xs with
  | nil => exact fun _ _ _ _ => rfl
  | cons x r ih =>
    intro d hs h01 hf
    obtain ⟨s1, s2⟩ := List.pairwise_cons.mp hs
    obtain ⟨f1, f2⟩ := List.pairwise_cons.mp hf
    have key : ∀ (z : Nat → Int32) (l : List (Nat → Int32)), z 2 = 1 → dOr d (z :: l) = dOr (ctX z) l := by
      intro z l hz
      unfold dOr
      rw [List.filter_cons, if_pos (by simpa using hz)]
      cases hl : l.filter (fun x => decide (x 2 = 1)) with
      | nil => rfl
      | cons a b => rw [List.getLast?_cons_cons, List.getLast?_cons]
    have key0 : ∀ (z : Nat → Int32) (l : List (Nat → Int32)), ¬ z 2 = 1 → dOr d (z :: l) = dOr d l := by
      intro z l hz
      unfold dOr
      rw [List.filter_cons, if_neg (by simpa using hz)]
    have w := fun d => ih d s2 (fun y hy => h01 y (List.mem_cons_of_mem _ hy)) f2
    rw [List.map_cons, List.filter_cons]
    rcases h01 x List.mem_cons_self with hx | hx
    · have hr : ∀ y ∈ r, ¬ y 2 = 1 := fun y hy q => by have := s1 y hy q; rw [hx] at this; exact absurd this (by decide)
      have hn : ∀ d, dOr d r = d := by
        intro d
        unfold dOr
        rw [show r.filter (fun x => decide (x 2 = 1)) = [] by rw [List.filter_eq_nil_iff]; intro y hy; simpa using hr y hy]
        rfl
      rw [key0 x r (by rw [hx]; decide), hn]
      by_cases hu : unseen x = true
      · rw [if_pos hu, List.map_cons, key _ _ (by rw [xSee_yes hu]; rfl), w, hn]
        show lastC (ctX (xSee x)) _ = lastC (ctX x) _
        rw [xSee_yes hu]
        rfl
      · rw [if_neg hu, xSee_no (by simpa using hu), key0 _ _ (by rw [hx]; decide), w, hn]
    · have hu : ¬ unseen x = true := fun q => by rw [(unseen_i.mp q).1] at hx; exact absurd hx (by decide)
      rw [if_neg hu, xSee_no (by simpa using hu), key _ _ hx, key _ _ hx, w]
