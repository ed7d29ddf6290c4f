/-- the boxes in two parts: the first as K, from i on as r -/
def twoX (p : Nat → Nat) (gx : Nat → Nat → Int32) (K r : List (Nat → Int32)) (i : Nat) : Prop := (∀ j, j < 8 → p j < 8) ∧ (∀ i j, i < 8 → j < 8 → p i = p j → i = j) ∧ (∀ j x, K[j]? = some x → isX (gx (p j)) x) ∧ ∀ j x, r[j]? = some x → isX (gx (p (i + j))) x
theorem twoX.hd {p : Nat → Nat} {gx : Nat → Nat → Int32} {K r : List (Nat → Int32)} {x : Nat → Int32} {i : Nat} (h : twoX p gx K (x :: r) i) : isX (gx (p i)) x := h.2.2.2 0 x rfl
theorem twoX.skip {p : Nat → Nat} {gx : Nat → Nat → Int32} {K r : List (Nat → Int32)} {x : Nat → Int32} {i : Nat} (h : twoX p gx K (x :: r) i) : twoX p gx K r (i + 1) := ⟨h.1, h.2.1, h.2.2.1, fun j q hq => by rw [show i + 1 + j = i + (j + 1) by omega]; exact h.2.2.2 (j + 1) q hq⟩
theorem swap_v {p : Nat → Nat} {i k j : Nat} : va_up (va_up p i (p k)) k (p i) j = if j = k then p i else if j = i then p k else p j := by simp [va_up]
theorem twoX.keep {p : Nat → Nat} {gx : Nat → Nat → Int32} {K r : List (Nat → Int32)} {x : Nat → Int32} {i : Nat} (h : twoX p gx K (x :: r) i) (hk : K.length ≤ i) (hi : i < 8) : twoX (va_up (va_up p i (p K.length)) K.length (p i)) gx (K ++ [x]) r (i + 1) := by
  have hx := h.hd
  refine ⟨fun j hj => ?_, fun a b ha hb e => ?_, fun j q hq => ?_, fun j q hq => ?_⟩
  · rw [swap_v]
    split
    · exact h.1 _ hi
    · split
      · exact h.1 _ (by omega)
      · exact h.1 _ hj
  · rw [swap_v, swap_v] at e
    have key : (if a = K.length then i else if a = i then K.length else a) = (if b = K.length then i else if b = i then K.length else b) := by
      refine h.2.1 _ _ (by split <;> (try split) <;> omega) (by split <;> (try split) <;> omega) ?_
      rw [apply_ite p, apply_ite p, apply_ite p, apply_ite p]
      exact e
    split at key <;> split at key <;> (try split at key) <;> (try split at key) <;> omega
  · have hj : j < K.length + 1 := by simpa using (List.getElem?_eq_some_iff.mp hq).1
    rw [swap_v]
    by_cases h2 : j < K.length
    · rw [if_neg (by omega), if_neg (by omega)]
      exact h.2.2.1 j q ((cut_s h2).mp hq)
    · have : j = K.length := by omega
      subst this
      rw [cut_m] at hq
      cases hq
      rw [if_pos rfl]
      exact hx
  · rw [swap_v, if_neg (by omega), if_neg (by omega), show i + 1 + j = i + (j + 1) by omega]
    exact h.2.2.2 (j + 1) q hq
theorem fate_b (h x : Nat → Int32) : fate h x - 8 < 14 ∧ 8 + (fate h x - 8) = fate h x ∧ fate h x - 8 ≠ 1 ∧ fate h x - 8 ≠ 11 ∧ fate h x - 8 ≠ 12 := by
  rcases fate_lt h x with e | e | e <;> rw [e] <;> decide
theorem outOne_37 (h x : Nat → Int32) : outOne h x 3 = h 3 ∧ outOne h x 7 = h 7 := by
  unfold outOne
  split
  · rcases fate_lt h x with e | e | e <;> rw [e] <;> exact ⟨rfl, rfl⟩
  · exact ⟨rfl, rfl⟩
theorem inX0_X0_letBoxesLeave : ∀ w ∈ wsX00, w ∈ wsX0_letBoxesLeave := by decide +kernel
theorem inX1_X0_letBoxesLeave : ∀ w ∈ wsX10, w ∈ wsX0_letBoxesLeave := by decide +kernel
abbrev rmX0_letBoxesLeave : Room := { frames := 2, cells := 0, slots := 0, locals := 62 }
set_option maxHeartbeats 4000000 in
set_option maxRecDepth 100000 in
theorem c_X0_letBoxesLeave (g : GE) (lau : Launch) {N : Nat} {ad : Nat → Nat} {f : Nat → va_E} {c : Nat} {s t : Nat → Int32} {p : Nat → Nat} {bc : Int32} {co ex : Nat → Int32} {rc : Int32} {pl : Nat → Int32} {pn : Int32} {wy : Nat → Int32} {gx : Nat → Nat → Int32} (hN : c + 16 ≤ N) {h : Nat → Int32} {bs : List (Nat → Int32)} {rs : List (Int32 × Int32)} {ps : List Int32} (hh : qH s t wy h) (hx : qX p gx bc bs) (hr : qR co ex rc rs) (hp : qP pl pn ps) (hok : MarkOK (h, bs, rs, ps)) : Ct g lau yX0_letBoxesLeave wsX0_letBoxesLeave rmX0_letBoxesLeave N ad [.ref (ad c)] (zB g ad f c s t p bc co ex rc pl pn wy gx) (pV N ad (fun u => BIs g ad f c (mLeave (h, bs, rs, ps)) u)) 0 0 := by
  refine Ct.of (maxL := 4) rfl (by decide +kernel) [some (.ref (ad c)), none, none, none] (Nat.le_of_ble_eq_true rfl) (by simp [lvo, lv_args, Value.category]) (fun E hnl _ hC hR => ?_)
  obtain ⟨tg, htg⟩ : ∃ z, z = bs.foldl outOne h := ⟨_, rfl⟩
  have hbc := hx.1
  have h8 := hx.2.1
  have loop : ∀ (r K : List (Nat → Int32)) (i : Nat) (p : Nat → Nat) (t h : Nat → Int32) (w3 : Option Value), i + r.length = bs.length → K.length ≤ i → K ++ r.filter (fun x => !isOut x) = bs.filter (fun x => !isOut x) → r.foldl outOne h = tg → (∀ x ∈ r, x 3 = -6 ∨ 0 ≤ (x 3).toInt) → (0 ≤ (h 3).toInt ∧ (h 3).toInt ≤ 20) → (0 ≤ (h 7).toInt ∧ (h 7).toInt ≤ 9) → twoX p gx K r i → qH s t wy h → V E g N ad 0 0 (zB g ad f c s t p bc co ex rc pl pn wy gx) 4 [some (.ref (ad c)), some (.int (nI K.length)), some (.int (nI i)), w3] [] := by
    intro r
    induction r with
    | nil =>
      intro K i p t h1 w3 hi hk ht hq hm3 hr3 hr7 h2 hh
      refine V_iload_n hC dX0_letBoxesLeave_4 rfl rfl ?_
      refine V_aload_n hC dX0_letBoxesLeave_5 rfl rfl ?_
      refine V_B_boxCount hC hN dX0_letBoxesLeave_6 inX0_X0_letBoxesLeave (by decide +kernel) ?_
      refine V_icmp_ge_t hC 73 dX0_letBoxesLeave_9 (by decide) (by rw [hbc, ← hi]; exact nI_le (Nat.le_refl _) (by simp at hi ⊢; omega)) ?_
      refine V_aload_n hC dX0_letBoxesLeave_73 rfl rfl ?_
      refine V_iload_n hC dX0_letBoxesLeave_74 rfl rfl ?_
      refine V_B_put_boxCount hC hN dX0_letBoxesLeave_75 inX0_X0_letBoxesLeave (by decide +kernel) ?_
      refine V_vret hC hR dX0_letBoxesLeave_78 ⟨rfl, rfl, rfl, ?_⟩
      simp only [List.filter_nil, List.append_nil] at ht
      have hq2 : h1 = bs.foldl outOne h := hq.trans htg
      have hm : mLeave (h, bs, rs, ps) = (h1, K, rs, ps) := by
        show (bs.foldl outOne h, bs.filter (fun x => !isOut x), rs, ps) = _
        rw [← hq2, ht]
      rw [hm]
      exact BIs.mk ⟨hh, ⟨rfl, (by show K.length ≤ 8; simp at hi; omega), h2.1, h2.2.1, h2.2.2.1⟩, hr, hp⟩
    | cons x r ih =>
      intro K i p t h1 w3 hi hk ht hq hm3 hr3 hr7 h2 hh
      simp only [List.length_cons] at hi
      have e := h2.hd
      have hi8 : i < 8 := by omega
      have hpi := h2.1 i hi8
      have hpk := h2.1 K.length (by omega)
      have hmx := hm3 x List.mem_cons_self
      have hmr : ∀ z ∈ r, z 3 = -6 ∨ 0 ≤ (z 3).toInt := fun z hz => hm3 z (List.mem_cons_of_mem _ hz)
      rw [List.foldl_cons] at hq
      obtain ⟨f1, f2, f3, f4, f5⟩ := fate_b h1 x
      have ef := hh.2.1 _ f1 f3 f4 f5
      rw [f2] at ef
      refine V_iload_n hC dX0_letBoxesLeave_4 rfl rfl ?_
      refine V_aload_n hC dX0_letBoxesLeave_5 rfl rfl ?_
      refine V_B_boxCount hC hN dX0_letBoxesLeave_6 inX0_X0_letBoxesLeave (by decide +kernel) ?_
      refine V_icmp_ge_f (tgt := 73) hC dX0_letBoxesLeave_9 (by decide) (by rw [hbc]; exact nI_ge (by omega) (by omega)) ?_
      refine V_aload_n hC dX0_letBoxesLeave_12 rfl rfl ?_
      refine V_B_boxes hC hN dX0_letBoxesLeave_13 inX0_X0_letBoxesLeave (by decide +kernel) ?_
      refine V_iload_n hC dX0_letBoxesLeave_16 rfl rfl ?_
      refine V_B_ld3 hC hN dX0_letBoxesLeave_17 (ix_nI (j := i) hi8 (by decide)) ?_
      refine V_astore_n3 hC dX0_letBoxesLeave_18 rfl (by rw [hnl]; decide) rfl ?_
      refine V_aload_n hC dX0_letBoxesLeave_19 rfl rfl ?_
      refine V_cvI (n := 0) hC (c_X1_back g (eL E) (i := c + 8 + p i) (by omega) (zB_box hpi)) dX0_letBoxesLeave_20 gX0_letBoxesLeave_X1_back rfl rfl rfl ⟨rfl, rfl⟩ (by decide +kernel) (by decide +kernel) (by omega) (zB_box hpi) rfl (Nat.le_of_ble_eq_true rfl) (by decide) (fun x20 u20 h20 => ?_)
      obtain ⟨rfl, rfl⟩ := h20
      refine V_bipush hC 100 dX0_letBoxesLeave_23 (by decide) ?_
      refine V_icmp_lt hC 45 dX0_letBoxesLeave_25 (by decide) (fun c25 => ?_) (fun c25 => ?_)
      · refine V_aload_n hC dX0_letBoxesLeave_45 rfl rfl ?_
        refine V_B_boxes hC hN dX0_letBoxesLeave_46 inX0_X0_letBoxesLeave (by decide +kernel) ?_
        refine V_iload_n hC dX0_letBoxesLeave_49 rfl rfl ?_
        refine V_aload_n hC dX0_letBoxesLeave_50 rfl rfl ?_
        refine V_B_boxes hC hN dX0_letBoxesLeave_51 inX0_X0_letBoxesLeave (by decide +kernel) ?_
        refine V_iload_n hC dX0_letBoxesLeave_54 rfl rfl ?_
        refine V_B_ld3 hC hN dX0_letBoxesLeave_55 (ix_nI (j := K.length) (by omega) (by decide)) ?_
        refine V_B_st3 hC hN dX0_letBoxesLeave_56 (ix_nI (j := i) hi8 (by decide)) hpk ?_
        refine V_aload_n hC dX0_letBoxesLeave_57 rfl rfl ?_
        refine V_B_boxes hC hN dX0_letBoxesLeave_58 inX0_X0_letBoxesLeave (by decide +kernel) ?_
        refine V_iload_n hC dX0_letBoxesLeave_61 rfl rfl ?_
        refine V_aload_n hC dX0_letBoxesLeave_62 rfl rfl ?_
        refine V_B_st3 hC hN dX0_letBoxesLeave_63 (ix_nI (j := K.length) (by omega) (by decide)) hpi ?_
        refine V_iinc1 hC (nI (K ++ [x]).length) dX0_letBoxesLeave_64 len_s (by rw [hnl]; decide) rfl ?_
        refine V_iinc2 hC (nI (i + 1)) dX0_letBoxesLeave_67 (nI_1 i) (by rw [hnl]; decide) rfl ?_
        refine V_goto hC 4 dX0_letBoxesLeave_70 (by decide) ?_
        have hu : isOut x = false := by rw [e.1, e.2.1] at c25; simp [isOut]; exact c25
        simp only [List.filter_cons, hu, Bool.not_false, if_true] at ht
        rw [show outOne h1 x = h1 by unfold outOne; rw [hu]; rfl] at hq
        exact ih (K ++ [x]) (i + 1) _ t h1 _ (by omega) (by simp; omega) (by rw [List.append_assoc]; exact ht) hq hmr hr3 hr7 (h2.keep hk hi8) hh
      · refine V_aload_n hC dX0_letBoxesLeave_28 rfl rfl ?_
        refine V_B_tallies hC hN dX0_letBoxesLeave_29 inX0_X0_letBoxesLeave (by decide +kernel) ?_
        refine V_aload_n hC dX0_letBoxesLeave_32 rfl rfl ?_
        refine V_aload_n hC dX0_letBoxesLeave_33 rfl rfl ?_
        refine V_cvI (n := 1) hC (c_X0_fate g (eL E) hN hh hpi e hmx hr3 hr7) dX0_letBoxesLeave_34 gX0_letBoxesLeave_X0_fate rfl rfl rfl ⟨rfl, rfl⟩ (by decide +kernel) (by decide +kernel) (by omega) zB_0 rfl (Nat.le_of_ble_eq_true rfl) (by decide) (fun x34 u34 h34 => ?_)
        obtain ⟨rfl, rfl⟩ := h34
        refine V_dup2 hC dX0_letBoxesLeave_37 rfl rfl ?_
        refine V_B_ld2 hC hN dX0_letBoxesLeave_38 (ix_nI (j := fate h1 x - 8) f1 (by decide)) ?_
        refine V_iconst hC 1 dX0_letBoxesLeave_39 (by decide) ?_
        refine V_iadd hC dX0_letBoxesLeave_40 ?_
        refine V_B_st2 hC hN dX0_letBoxesLeave_41 (ix_nI (j := fate h1 x - 8) f1 (by decide)) ?_
        refine V_goto hC 67 dX0_letBoxesLeave_42 (by decide) ?_
        refine V_iinc2 hC (nI (i + 1)) dX0_letBoxesLeave_67 (nI_1 i) (by rw [hnl]; decide) rfl ?_
        refine V_goto hC 4 dX0_letBoxesLeave_70 (by decide) ?_
        have hu : isOut x = true := by rw [e.1, e.2.1] at c25; simp [isOut]; exact Int32.not_lt.mp c25
        simp only [List.filter_cons, hu, Bool.not_true, Bool.false_eq_true, if_false] at ht
        have eo : outOne h1 x = upd h1 (fate h1 x) (h1 (fate h1 x) + 1) := by unfold outOne; rw [hu]; rfl
        have e37 := outOne_37 h1 x
        refine ih K (i + 1) p _ (outOne h1 x) _ (by omega) (by omega) ht hq hmr (by rw [e37.1]; exact hr3) (by rw [e37.2]; exact hr7) h2.skip ?_
        have k1 := hh.t (k := fate h1 x - 8) (z := h1 (fate h1 x) + 1) f1
        rw [f2] at k1
        rw [eo, ef]
        exact k1
  refine V_iconst hC 0 dX0_letBoxesLeave_0 (by decide) ?_
  refine V_istore_n1 hC dX0_letBoxesLeave_1 rfl (by rw [hnl]; decide) rfl ?_
  refine V_iconst hC 0 dX0_letBoxesLeave_2 (by decide) ?_
  refine V_istore_n2 hC dX0_letBoxesLeave_3 rfl (by rw [hnl]; decide) rfl ?_
  exact loop bs [] 0 p t h _ (by omega) (Nat.le_refl _) rfl htg.symm hok.2.2 hok.1 hok.2.1 ⟨hx.2.2.1, hx.2.2.2.1, fun j q hq => by simp at hq, fun j q hq => by rw [Nat.zero_add]; exact hx.2.2.2.2 j q hq⟩ hh
/-! the marks through a tick -/
theorem sub60_0 {x : Int32} (h : 60 ≤ x) : 0 ≤ (x - 60).toInt := by
  have h2 := Int32.le_iff_toInt_le.mp h
  have e : (60 : Int32).toInt = 60 := rfl
  have l := x.toInt_lt
  rw [i_sub (by omega) (by omega)]
  omega
def m3ok (x : Nat → Int32) : Prop := x 3 = -6 ∨ 0 ≤ (x 3).toInt
theorem m3ok.see {x : Nat → Int32} (h : m3ok x) : m3ok (xSee x) := by
  unfold xSee
  split
  · exact h
  · exact h
theorem m3ok.mk {x : Nat → Int32} (hu : isUnder x = true) : m3ok (xMark x) := by
  have h0 := sub60_0 (x := x 0) (by simp [isUnder] at hu; exact hu.1)
  unfold xMark
  split <;> exact Or.inr h0
theorem m3ok.bM {bs : List (Nat → Int32)} (h : ∀ x ∈ bs, m3ok x) : ∀ x ∈ bMark bs, m3ok x := by
  induction bs with
  | nil => exact h
  | cons x r ih =>
    unfold bMark
    split
    · rename_i hu
      intro z hz
      rcases List.mem_cons.mp hz with k | k
      · subst k; exact m3ok.mk hu
      · exact h z (List.mem_cons_of_mem _ k)
    · intro z hz
      rcases List.mem_cons.mp hz with k | k
      · subst k; exact h z List.mem_cons_self
      · exact ih (fun w hw => h w (List.mem_cons_of_mem _ hw)) z k
def qMark (q : (Nat → Int32) × List (Nat → Int32)) : Prop := (0 ≤ (q.1 3).toInt ∧ (q.1 3).toInt ≤ 20) ∧ (0 ≤ (q.1 7).toInt ∧ (q.1 7).toInt ≤ 9) ∧ ∀ x ∈ q.2, m3ok x
theorem qMark.mark {q : (Nat → Int32) × List (Nat → Int32)} (h : qMark q) : qMark (mMark q) := by
  obtain ⟨h1, h2, h3⟩ := h
  unfold mMark
  split
  · exact ⟨h1, h2, h3⟩
  · split
    · exact ⟨h1, h2, h3⟩
    · refine ⟨?_, ?_, m3ok.bM h3⟩ <;> (unfold hMarked hTaken; split <;> assumption)
theorem qMark.plans {ps : List Int32} : ∀ {q : (Nat → Int32) × List (Nat → Int32)}, qMark q → qMark (ps.foldl doOne q) := by
  induction ps with
  | nil => exact fun h => h
  | cons p ps ih =>
    intro q h
    rw [List.foldl_cons]
    refine ih ?_
    unfold doOne
    split
    · exact h.mark
    · exact h
theorem out_37 (bs : List (Nat → Int32)) : ∀ h : Nat → Int32, bs.foldl outOne h 3 = h 3 ∧ bs.foldl outOne h 7 = h 7 := by
  induction bs with
  | nil => exact fun h => ⟨rfl, rfl⟩
  | cons x r ih =>
    intro h
    rw [List.foldl_cons, (ih _).1, (ih _).2]
    exact outOne_37 h x
theorem MarkOK.move {m : MT} (h : MarkOK m) : MarkOK (mMove m) := by
  refine ⟨h.1, h.2.1, fun x hx => ?_⟩
  obtain ⟨y, hy, rfl⟩ := List.mem_map.mp hx
  exact h.2.2 y hy
theorem MarkOK.see {m : MT} (h : MarkOK m) : MarkOK (mSee m) := by
  refine ⟨h.1, h.2.1, fun x hx => ?_⟩
  obtain ⟨y, hy, rfl⟩ := List.mem_map.mp hx
  exact m3ok.see (h.2.2 y hy)
theorem MarkOK.do {m : MT} (h : MarkOK m) : MarkOK (mDo m) := qMark.plans (ps := m.2.2.2) (q := (m.1, m.2.1)) h
theorem MarkOK.put {m : MT} (h : MarkOK m) {k : Nat} {v : Int32} (h3 : k ≠ 3) (h7 : k ≠ 7) : MarkOK (upd m.1 k v, m.2) := by
  refine ⟨?_, ?_, h.2.2⟩
  · show 0 ≤ (upd m.1 k v 3).toInt ∧ (upd m.1 k v 3).toInt ≤ 20
    rw [pk_un (Ne.symm h3)]
    exact h.1
  · show 0 ≤ (upd m.1 k v 7).toInt ∧ (upd m.1 k v 7).toInt ≤ 9
    rw [pk_un (Ne.symm h7)]
    exact h.2.1
theorem MarkOK.leave {m : MT} (h : MarkOK m) : MarkOK (mLeave m) := by
  refine ⟨?_, ?_, fun x hx => h.2.2 x (List.mem_filter.mp hx).1⟩
  · show 0 ≤ (m.2.1.foldl outOne m.1 3).toInt ∧ (m.2.1.foldl outOne m.1 3).toInt ≤ 20
    rw [(out_37 _ _).1]
    exact h.1
  · show 0 ≤ (m.2.1.foldl outOne m.1 7).toInt ∧ (m.2.1.foldl outOne m.1 7).toInt ≤ 9
    rw [(out_37 _ _).2]
    exact h.2.1
theorem MarkOK.half {m : MT} (h : MarkOK m) : MarkOK (mFeed (mDo (mTake (mCount (mSee (mMove m)))))) := (show MarkOK (mDo (mTake (mCount (mSee (mMove m))))) from MarkOK.do (m := mTake (mCount (mSee (mMove m)))) h.move.see).put (by decide) (by decide)
theorem MarkOK.tick {m : MT} (h : MarkOK m) : MarkOK (mTick m) := h.half.leave.put (by decide) (by decide)
theorem inX0_X0_tickOn : ∀ w ∈ wsX00, w ∈ wsX0_tickOn := by decide +kernel
theorem inX1_X0_tickOn : ∀ w ∈ wsX10, w ∈ wsX0_tickOn := by decide +kernel
abbrev rmX0_tickOn : Room := { frames := 3, cells := 0, slots := 0, locals := 85 }
set_option maxHeartbeats 4000000 in
set_option maxRecDepth 100000 in
theorem c_X0_tickOn (g : GE) (lau : Launch) {N : Nat} {ad : Nat → Nat} {f : Nat → va_E} {c : Nat} {s t : Nat → Int32} {p : Nat → Nat} {bc : Int32} {co ex : Nat → Int32} {rc : Int32} {pl : Nat → Int32} {pn : Int32} {wy : Nat → Int32} {gx : Nat → Nat → Int32} (hN : c + 16 ≤ N) {n : Nat} {m0 : MT} (hn : n < 2 ^ 31) (hm : RepB s t p bc co ex rc pl pn wy gx m0) (hok : TicksOK n m0) (hmk : MarkOK m0) : Ct g lau yX0_tickOn wsX0_tickOn rmX0_tickOn N ad [.ref (ad c), .int (nI n)] (zB g ad f c s t p bc co ex rc pl pn wy gx) (pV N ad (fun u => BIs g ad f c (mTicks n m0) u)) 0 0 := by
  refine Ct.of (maxL := 3) rfl (by decide +kernel) [some (.ref (ad c)), some (.int (nI n)), none] (Nat.le_of_ble_eq_true rfl) (by simp [lvo, lv_args, Value.category]) (fun E hnl _ hC hR => ?_)
  have loop : ∀ (j k : Nat) (m : MT) (s t : Nat → Int32) (p : Nat → Nat) (bc : Int32) (co ex : Nat → Int32) (rc : Int32) (pl : Nat → Int32) (pn : Int32) (wy : Nat → Int32) (gx : Nat → Nat → Int32), k + j = n → TicksOK j m → MarkOK m → mTicks j m = mTicks n m0 → RepB s t p bc co ex rc pl pn wy gx m → V E g N ad 0 0 (zB g ad f c s t p bc co ex rc pl pn wy gx) 2 [some (.ref (ad c)), some (.int (nI n)), some (.int (nI k))] [] := by
    intro j
    induction j with
    | zero =>
      intro k m s t p bc co ex rc pl pn wy gx hk hok hmk he hm
      have hk : k = n := by omega
      subst hk
      refine V_iload_n hC dX0_tickOn_2 rfl rfl ?_
      refine V_iload_n hC dX0_tickOn_3 rfl rfl ?_
      refine V_icmp_ge_t hC 51 dX0_tickOn_4 (by decide) (Int32.le_refl _) ?_
      refine V_vret hC hR dX0_tickOn_51 ⟨rfl, rfl, rfl, ?_⟩
      have he : m = mTicks k m0 := he
      subst he
      exact BIs.mk hm
    | succ j ih =>
      intro k m s t p bc co ex rc pl pn wy gx hk hok hmk he hm
      obtain ⟨hh, hx, hr, hp⟩ := hm
      obtain ⟨hc1, ⟨G, hG, hg⟩, hU⟩ := hok 0 (by omega)
      have hc1 : m.2.2.1.length + ((mMove m).2.1.filter unseen).length + m.2.2.2.length ≤ 28 := hc1
      have hg : m.1 2 = nI G := hg
      refine V_iload_n hC dX0_tickOn_2 rfl rfl ?_
      refine V_iload_n hC dX0_tickOn_3 rfl rfl ?_
      refine V_icmp_ge_f (tgt := 51) hC dX0_tickOn_4 (by decide) (nI_ge (by omega) hn) ?_
      refine V_aload_n hC dX0_tickOn_7 rfl rfl ?_
      refine V_cvV (n := 0) hC (c_X0_moveOn g (eL E) hN hh hx hr hp) dX0_tickOn_8 gX0_tickOn_X0_moveOn rfl rfl rfl ⟨rfl, rfl⟩ (by decide +kernel) (by decide +kernel) (by omega) zB_0 rfl (Nat.le_of_ble_eq_true rfl) (by decide) (fun u8 h8 => ?_)
      obtain ⟨s1, t1, p1, bc1, co1, ex1, rc1, pl1, pn1, wy1, gx1, rfl, hh1, hx1, hr1, hp1⟩ := h8
      refine V_aload_n hC dX0_tickOn_11 rfl rfl ?_
      refine V_cvV (n := 0) hC (c_X0_seeBoxes g (eL E) hN hh1 hx1 hr1 hp1 (Nat.le_trans (Nat.le_add_right _ _) hc1)) dX0_tickOn_12 gX0_tickOn_X0_seeBoxes rfl rfl rfl ⟨rfl, rfl⟩ (by decide +kernel) (by decide +kernel) (by omega) zB_0 rfl (Nat.le_of_ble_eq_true rfl) (by decide) (fun u12 h12 => ?_)
      obtain ⟨s2, t2, p2, bc2, co2, ex2, rc2, pl2, pn2, wy2, gx2, rfl, hh2, hx2, hr2, hp2⟩ := h12
      refine V_aload_n hC dX0_tickOn_15 rfl rfl ?_
      refine V_cvV (n := 0) hC (c_X0_countPlansDown g (eL E) hN hh2 hx2 hr2 hp2) dX0_tickOn_16 gX0_tickOn_X0_countPlansDown rfl rfl rfl ⟨rfl, rfl⟩ (by decide +kernel) (by decide +kernel) (by omega) zB_0 rfl (Nat.le_of_ble_eq_true rfl) (by decide) (fun u16 h16 => ?_)
      obtain ⟨s3, t3, p3, bc3, co3, ex3, rc3, pl3, pn3, wy3, gx3, rfl, hh3, hx3, hr3, hp3⟩ := h16
      refine V_aload_n hC dX0_tickOn_19 rfl rfl ?_
      refine V_cvV (n := 0) hC (c_X0_takeReports g (eL E) hN hh3 hx3 hr3 hp3 hG hg (by show (m.2.2.1 ++ List.map _ _).length + (List.map _ m.2.2.2).length ≤ 28; rw [List.length_append, List.length_map, List.length_map]; omega)) dX0_tickOn_20 gX0_tickOn_X0_takeReports rfl rfl rfl ⟨rfl, rfl⟩ (by decide +kernel) (by decide +kernel) (by omega) zB_0 rfl (Nat.le_of_ble_eq_true rfl) (by decide) (fun u20 h20 => ?_)
      obtain ⟨s4, t4, p4, bc4, co4, ex4, rc4, pl4, pn4, wy4, gx4, rfl, hh4, hx4, hr4, hp4⟩ := h20
      refine V_aload_n hC dX0_tickOn_23 rfl rfl ?_
      refine V_cvV (n := 0) hC (c_X0_doPlans g (eL E) hN hh4 hx4 hr4 hp4) dX0_tickOn_24 gX0_tickOn_X0_doPlans rfl rfl rfl ⟨rfl, rfl⟩ (by decide +kernel) (by decide +kernel) (by omega) zB_0 rfl (Nat.le_of_ble_eq_true rfl) (by decide) (fun u24 h24 => ?_)
      obtain ⟨s5, t5, p5, bc5, co5, ex5, rc5, pl5, pn5, wy5, gx5, rfl, hh5, hx5, hr5, hp5⟩ := h24
      refine V_aload_n hC dX0_tickOn_27 rfl rfl ?_
      refine V_cvV (n := 0) hC (c_X0_feed g (eL E) hN hh5 hx5 hr5 hp5) dX0_tickOn_28 gX0_tickOn_X0_feed rfl rfl rfl ⟨rfl, rfl⟩ (by decide +kernel) (by decide +kernel) (by omega) zB_0 rfl (Nat.le_of_ble_eq_true rfl) (by decide) (fun u28 h28 => ?_)
      obtain ⟨s6, t6, p6, bc6, co6, ex6, rc6, pl6, pn6, wy6, gx6, rfl, hh6, hx6, hr6, hp6⟩ := h28
      refine V_aload_n hC dX0_tickOn_31 rfl rfl ?_
      refine V_cvV (n := 0) hC (c_X0_letBoxesLeave g (eL E) hN hh6 hx6 hr6 hp6 hmk.half) dX0_tickOn_32 gX0_tickOn_X0_letBoxesLeave rfl rfl rfl ⟨rfl, rfl⟩ (by decide +kernel) (by decide +kernel) (by omega) zB_0 rfl (Nat.le_of_ble_eq_true rfl) (by decide) (fun u32 h32 => ?_)
      obtain ⟨s7, t7, p7, bc7, co7, ex7, rc7, pl7, pn7, wy7, gx7, rfl, hh7, hx7, hr7, hp7⟩ := h32
      refine V_aload_n hC dX0_tickOn_35 rfl rfl ?_
      refine V_B_tallies hC hN dX0_tickOn_36 inX0_X0_tickOn (by decide +kernel) ?_
      refine V_iconst hC 0 dX0_tickOn_39 (by decide) ?_
      refine V_dup2 hC dX0_tickOn_40 rfl rfl ?_
      refine V_B_ld2 hC hN (k := 0) dX0_tickOn_41 (ix_c (by decide)) ?_
      refine V_iconst hC 1 dX0_tickOn_42 (by decide) ?_
      refine V_iadd hC dX0_tickOn_43 ?_
      refine V_B_st2 (k := 0) hC hN dX0_tickOn_44 (ix_c (by decide)) ?_
      refine V_iinc2 hC (nI (k + 1)) dX0_tickOn_45 (nI_1 k) (by rw [hnl]; decide) rfl ?_
      refine V_goto hC 2 dX0_tickOn_48 (by decide) ?_
      have e8 := hh7.2.1 0 (by decide) (by decide) (by decide) (by decide)
      refine ih (k + 1) (mTick m) _ _ _ _ _ _ _ _ _ _ _ (by omega) (fun i hi => hok (i + 1) (by omega)) hmk.tick he ⟨?_, hx7, hr7, hp7⟩
      rw [e8]
      exact hh7.t (k := 0) (by decide)
  refine V_iconst hC 0 dX0_tickOn_0 (by decide) ?_
  refine V_istore_n2 hC dX0_tickOn_1 rfl (by rw [hnl]; decide) rfl ?_
  exact loop n 0 m0 s t p bc co ex rc pl pn wy gx (by omega) hok hmk rfl hm
