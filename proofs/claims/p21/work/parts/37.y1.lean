/-- the cells y, y+1 of the world u are a history: its object and the array of its states -/
def hasY (g : GE) (ad : Nat → Nat) (u : Nat → va_E) (y ol n : Nat) : Prop := u y = .inr (2, [.ref (ad (y + 1)), .int (nI ol), .int (nI n)]) ∧ u (y + 1) = .inl (g.2.1 3, 7, .inr (.inr (.inr (.inr (fun k => some (ad (y + 2 + 16 * k)))))))
def YAt (g : GE) (ad : Nat → Nat) (y : Nat) (hi : List MT) (u : Nat → va_E) : Prop := ∃ ol, ol < 7 ∧ hi.length ≤ 6 ∧ hasY g ad u y ol hi.length ∧ (∀ k, k < 7 → ∃ m, BAt g ad (y + 2 + 16 * k) m u) ∧ ∀ j m, hi[j]? = some m → BAt g ad (y + 2 + 16 * ((ol + j) % 7)) m u
def YN (g : GE) (ad : Nat → Nat) (y : Nat) (hi : List MT) (mk : MT) (u : Nat → va_E) : Prop := ∃ ol, ol < 7 ∧ hi.length ≤ 6 ∧ hasY g ad u y ol hi.length ∧ (∀ k, k < 7 → ∃ m, BAt g ad (y + 2 + 16 * k) m u) ∧ (∀ j m, hi[j]? = some m → BAt g ad (y + 2 + 16 * ((ol + j) % 7)) m u) ∧ BAt g ad (y + 2 + 16 * ((ol + hi.length) % 7)) mk u
theorem YN.at {g : GE} {ad : Nat → Nat} {y : Nat} {hi : List MT} {mk : MT} {u : Nat → va_E} (h : YN g ad y hi mk u) : YAt g ad y hi u := by
  obtain ⟨ol, h1, h2, h3, h4, h5, -⟩ := h
  exact ⟨ol, h1, h2, h3, h4, h5⟩
theorem YN.keep {g : GE} {ad : Nat → Nat} {y : Nat} {hi : List MT} {mk : MT} {u v : Nat → va_E} (h : YN g ad y hi mk u) (he : ∀ q, y ≤ q → q < y + 114 → v q = u q) : YN g ad y hi mk v := by
  obtain ⟨ol, h1, h2, h3, h4, h5, h6⟩ := h
  refine ⟨ol, h1, h2, ⟨(he _ (by omega) (by omega)).trans h3.1, (he _ (by omega) (by omega)).trans h3.2⟩, fun k hk => ?_, fun j m hj => (h5 j m hj).keep fun q a b => he q (by omega) (by omega), h6.keep fun q a b => he q (by omega) (by omega)⟩
  obtain ⟨m, hm⟩ := h4 k hk
  exact ⟨m, hm.keep fun q a b => he q (by omega) (by omega)⟩
theorem YAt.keep {g : GE} {ad : Nat → Nat} {y : Nat} {hi : List MT} {u v : Nat → va_E} (h : YAt g ad y hi u) (he : ∀ q, y ≤ q → q < y + 114 → v q = u q) : YAt g ad y hi v := by
  obtain ⟨ol, h1, h2, h3, h4, h5⟩ := h
  refine ⟨ol, h1, h2, ⟨(he _ (by omega) (by omega)).trans h3.1, (he _ (by omega) (by omega)).trans h3.2⟩, fun k hk => ?_, fun j m hj => (h5 j m hj).keep fun q a b => he q (by omega) (by omega)⟩
  obtain ⟨m, hm⟩ := h4 k hk
  exact ⟨m, hm.keep fun q a b => he q (by omega) (by omega)⟩
theorem fmd7_p : ∀ a : Fin 14, fmd (nI a.val) 7 = nI (a.val % 7) := by decide +kernel
theorem fmd7 {a : Nat} (h : a < 14) : fmd (nI a) 7 = nI (a % 7) := fmd7_p ⟨a, h⟩
theorem inX2_X2_stateAt : ∀ w ∈ wsX20, w ∈ wsX2_stateAt := by decide +kernel
abbrev rmX2_stateAt : Room := { frames := 1, cells := 0, slots := 0, locals := 22 }
set_option maxHeartbeats 4000000 in
set_option maxRecDepth 100000 in
theorem c_X2_stateAt (g : GE) (lau : Launch) {N : Nat} {ad : Nat → Nat} {f : Nat → va_E} {y : Nat} (hN : y + 114 ≤ N) {ol n k : Nat} (hY : hasY g ad f y ol n) (ho : ol < 7) (hk : k ≤ 6) : Ct g lau yX2_stateAt wsX2_stateAt rmX2_stateAt N ad [.ref (ad y), .int (nI k)] f (pR N ad (fun x u => x = ad (y + 2 + 16 * ((ol + k) % 7)) ∧ u = f)) 0 0 := by
  refine Ct.of (maxL := 2) rfl (by decide +kernel) [some (.ref (ad y)), some (.int (nI k))] (Nat.le_of_ble_eq_true rfl) (by simp [lvo, lv_args, Value.category]) (fun E hnl _ hC hR => ?_)
  refine V_aload_n hC dX2_stateAt_0 rfl rfl ?_
  refine V_get hC 0 dX2_stateAt_1 (by omega) hY.1 rfl (by decide) inX2_X2_stateAt (by decide +kernel) rfl ?_
  refine V_aload_n hC dX2_stateAt_4 rfl rfl ?_
  refine V_get hC 1 dX2_stateAt_5 (by omega) hY.1 rfl (by decide) inX2_X2_stateAt (by decide +kernel) rfl ?_
  refine V_iload_n hC dX2_stateAt_8 rfl rfl ?_
  refine V_iadd hC dX2_stateAt_9 ?_
  refine V_eqt (nI (ol + k)) (nI_add _ _) ?_
  refine V_bipush hC 7 dX2_stateAt_10 (by decide) ?_
  refine V_csI (n := 2) hC (c_J9_floorMod_7cf53 g (eL E) _ 7 (by decide)) dX2_stateAt_12 gX2_stateAt_J9_floorMod_7cf53 rfl rfl rfl ⟨rfl, rfl⟩ (by decide +kernel) (by decide +kernel) (Nat.le_of_ble_eq_true rfl) (by decide) (fun x12 u12 h12 => ?_)
  obtain ⟨rfl, he⟩ := h12
  obtain rfl := he.symm
  refine V_eqt (nI ((ol + k) % 7)) (fmd7 (by omega)) ?_
  refine V_aald (t0 := 3) hC dX2_stateAt_15 (by omega) hY.2 rfl (ix_nI (j := (ol + k) % 7) (by omega) (by decide)) rfl ?_
  refine V_aret hC hR (Or.inl ⟨_, rfl⟩) dX2_stateAt_16 ⟨rfl, rfl, _, rfl, ?_⟩
  exact ⟨rfl, rfl⟩
theorem inX0_X2_note : ∀ w ∈ wsX00, w ∈ wsX2_note := by decide +kernel
theorem inX1_X2_note : ∀ w ∈ wsX10, w ∈ wsX2_note := by decide +kernel
theorem inX2_X2_note : ∀ w ∈ wsX20, w ∈ wsX2_note := by decide +kernel
abbrev rmX2_note : Room := { frames := 2, cells := 0, slots := 0, locals := 62 }
set_option maxHeartbeats 4000000 in
set_option maxRecDepth 100000 in
theorem c_X2_note (g : GE) (lau : Launch) {N : Nat} {ad : Nat → Nat} {f : Nat → va_E} {y : Nat} (hN : y + 114 ≤ N) {hi : List MT} (hH : YAt g ad y hi f) {c : Nat} {m : MT} (hN2 : c + 16 ≤ N) (hd : c + 16 ≤ y ∨ y + 114 ≤ c) (hc : BAt g ad c m f) : Ct g lau yX2_note wsX2_note rmX2_note N ad [.ref (ad y), .ref (ad c)] f (pV N ad (fun u => YN g ad y hi m u ∧ ∀ q, q < y ∨ y + 114 ≤ q → u q = f q)) 0 0 := by
  refine Ct.of (maxL := 2) rfl (by decide +kernel) [some (.ref (ad y)), some (.ref (ad c))] (Nat.le_of_ble_eq_true rfl) (by simp [lvo, lv_args, Value.category]) (fun E hnl _ hC hR => ?_)
  obtain ⟨ol, ho, h6, hY, hA, hj⟩ := hH
  obtain ⟨m1, s, t, p, bc, co, ex, rc, pl, pn, wy, gx, hB, hm1⟩ := hA ((ol + hi.length) % 7) (by omega)
  obtain ⟨s2, t2, p2, bc2, co2, ex2, rc2, pl2, pn2, wy2, gx2, hB2, hm⟩ := hc
  refine V_aload_n hC dX2_note_0 rfl rfl ?_
  refine V_aload_n hC dX2_note_1 rfl rfl ?_
  refine V_get hC 2 dX2_note_2 (by omega) hY.1 rfl (by decide) inX2_X2_note (by decide +kernel) rfl ?_
  refine V_cvR (n := 1) hC (c_X2_stateAt g (eL E) hN hY ho h6) dX2_note_5 gX2_note_X2_stateAt rfl rfl rfl ⟨rfl, rfl⟩ (by decide +kernel) (by decide +kernel) (by omega) hY.1 rfl (Nat.le_of_ble_eq_true rfl) (by decide) (fun x5 u5 h5 => ?_)
  obtain ⟨rfl, he⟩ := h5
  obtain rfl := he.symm
  refine V_aload_n hC dX2_note_8 rfl rfl ?_
  refine V_f hB.self ?_
  refine V_cvV (n := 1) hC (c_X0_copyFrom g (eL E) (f := f) (by omega) hm1 (by omega) (by omega) hB2 hm) dX2_note_9 gX2_note_X0_copyFrom rfl rfl rfl ⟨rfl, rfl⟩ (by decide +kernel) (by decide +kernel) (by omega) zB_0 rfl (Nat.le_of_ble_eq_true rfl) (by decide) (fun u9 h9 => ?_)
  obtain hu := h9
  refine V_vret hC hR dX2_note_12 ⟨rfl, rfl, rfl, ?_⟩
  obtain ⟨hu1, hu2⟩ := BIs.at h9
  refine ⟨⟨ol, ho, h6, ⟨(hu2 _ (by omega)).trans hY.1, (hu2 _ (by omega)).trans hY.2⟩, fun k hk => ?_, fun j m2 hjm => ?_, hu1⟩, fun q hq => hu2 q (by omega)⟩
  · by_cases hk2 : k = (ol + hi.length) % 7
    · subst hk2; exact ⟨m, hu1⟩
    · obtain ⟨m3, hm3⟩ := hA k hk
      exact ⟨m3, hm3.keep fun q a b => hu2 q (by omega)⟩
  · have hjl := (List.getElem?_eq_some_iff.mp hjm).1
    exact (hj j m2 hjm).keep fun q a b => hu2 q (by omega)
theorem inX2_X2_keepNoted : ∀ w ∈ wsX20, w ∈ wsX2_keepNoted := by decide +kernel
abbrev rmX2_keepNoted : Room := { frames := 1, cells := 0, slots := 0, locals := 22 }
set_option maxHeartbeats 4000000 in
set_option maxRecDepth 100000 in
theorem c_X2_keepNoted (g : GE) (lau : Launch) {N : Nat} {ad : Nat → Nat} {f : Nat → va_E} {y : Nat} (hN : y + 114 ≤ N) {hi : List MT} {mk : MT} (hH : YN g ad y hi mk f) : Ct g lau yX2_keepNoted wsX2_keepNoted rmX2_keepNoted N ad [.ref (ad y)] f (pV N ad (fun u => YAt g ad y (pushH hi mk) u ∧ ∀ q, q < y ∨ y + 114 ≤ q → u q = f q)) 0 0 := by
  refine Ct.of (maxL := 1) rfl (by decide +kernel) [some (.ref (ad y))] (Nat.le_of_ble_eq_true rfl) (by simp [lvo, lv_args, Value.category]) (fun E hnl _ hC hR => ?_)
  obtain ⟨ol, ho, h6, hY, hA, hj, hmk⟩ := hH
  refine V_aload_n hC dX2_keepNoted_0 rfl rfl ?_
  refine V_get hC 2 dX2_keepNoted_1 (by omega) hY.1 rfl (by decide) inX2_X2_keepNoted (by decide +kernel) rfl ?_
  refine V_bipush hC 6 dX2_keepNoted_4 (by decide) ?_
  refine V_icmp_ge hC 22 dX2_keepNoted_6 (by decide) (fun c6 => ?_) (fun c6 => ?_)
  · have hl : hi.length = 6 := by have := (nI_leI (a := 6) (by decide) (by omega)).mp c6; omega
    refine V_aload_n hC dX2_keepNoted_22 rfl rfl ?_
    refine V_aload_n hC dX2_keepNoted_23 rfl rfl ?_
    refine V_get hC 1 dX2_keepNoted_24 (by omega) hY.1 rfl (by decide) inX2_X2_keepNoted (by decide +kernel) rfl ?_
    refine V_iconst hC 1 dX2_keepNoted_27 (by decide) ?_
    refine V_iadd hC dX2_keepNoted_28 ?_
    refine V_eqt (nI (ol + 1)) (nI_1 _) ?_
    refine V_bipush hC 7 dX2_keepNoted_29 (by decide) ?_
    refine V_csI (n := 2) hC (c_J9_floorMod_7cf53 g (eL E) _ 7 (by decide)) dX2_keepNoted_31 gX2_keepNoted_J9_floorMod_7cf53 rfl rfl rfl ⟨rfl, rfl⟩ (by decide +kernel) (by decide +kernel) (Nat.le_of_ble_eq_true rfl) (by decide) (fun x31 u31 h31 => ?_)
    obtain ⟨rfl, he⟩ := h31
    obtain rfl := he.symm
    refine V_eqt (nI ((ol + 1) % 7)) (fmd7 (by omega)) ?_
    refine V_put hC (ty := .int) 1 dX2_keepNoted_34 (by omega) hY.1 rfl (by decide) inX2_X2_keepNoted (by decide +kernel) tyX2_ok nmX2 rfl rfl rfl rfl (by simp) ?_
    refine V_vret hC hR dX2_keepNoted_37 ⟨rfl, rfl, rfl, ?_⟩
    have hY2 : hasY g ad (va_up f y (.inr (2, [.ref (ad (y + 1)), .int (nI ((ol + 1) % 7)), .int (nI (hi.length))]))) y ((ol + 1) % 7) (hi.length) := ⟨va_up_self _ _ _, (va_up_ne _ _ (by omega)).trans hY.2⟩
    have ko : ∀ {k : Nat} {m : MT}, BAt g ad (y + 2 + 16 * k) m f → BAt g ad (y + 2 + 16 * k) m (va_up f y (.inr (2, [.ref (ad (y + 1)), .int (nI ((ol + 1) % 7)), .int (nI (hi.length))]))) := fun h => h.keep fun q a b => va_up_ne _ _ (by omega)
    refine ⟨?_, fun q hq => va_up_ne _ _ (by omega)⟩
    rw [pushH, if_pos hl]
    have hdl : (hi.drop 1).length = 5 := by rw [List.length_drop, hl]
    have e6 : (hi.drop 1 ++ [mk]).length = hi.length := by rw [List.length_append, hdl, hl]; rfl
    refine ⟨(ol + 1) % 7, by omega, by omega, by rw [e6]; exact hY2, fun k hk => ?_, fun j m hjm => ?_⟩
    · obtain ⟨m, hm⟩ := hA k hk
      exact ⟨m, ko hm⟩
    · have hl2 : j < 5 + 1 := by have := (List.getElem?_eq_some_iff.mp hjm).1; rw [List.length_append, hdl] at this; exact this
      by_cases h : j < 5
      · have q := (cut_s (by omega)).mp hjm
        rw [List.getElem?_drop] at q
        have k := hj (1 + j) m q
        rw [show (ol + (1 + j)) % 7 = ((ol + 1) % 7 + j) % 7 by omega] at k
        exact ko k
      · have e : j = (hi.drop 1).length := by omega
        rw [e, cut_m] at hjm
        cases hjm
        rw [show (ol + hi.length) % 7 = ((ol + 1) % 7 + j) % 7 by omega] at hmk
        exact ko hmk
  · have hl : hi.length < 6 := by rcases Nat.lt_or_ge hi.length 6 with q | q; exact q; exact absurd (nI_le (a := 6) q (by omega)) c6
    refine V_aload_n hC dX2_keepNoted_9 rfl rfl ?_
    refine V_dup hC dX2_keepNoted_10 rfl ?_
    refine V_get hC 2 dX2_keepNoted_11 (by omega) hY.1 rfl (by decide) inX2_X2_keepNoted (by decide +kernel) rfl ?_
    refine V_iconst hC 1 dX2_keepNoted_14 (by decide) ?_
    refine V_iadd hC dX2_keepNoted_15 ?_
    refine V_eqt (nI (hi.length + 1)) (nI_1 _) ?_
    refine V_put hC (ty := .int) 2 dX2_keepNoted_16 (by omega) hY.1 rfl (by decide) inX2_X2_keepNoted (by decide +kernel) tyX2_ok nmX2 rfl rfl rfl rfl (by simp) ?_
    refine V_goto hC 37 dX2_keepNoted_19 (by decide) ?_
    refine V_vret hC hR dX2_keepNoted_37 ⟨rfl, rfl, rfl, ?_⟩
    have hY2 : hasY g ad (va_up f y (.inr (2, [.ref (ad (y + 1)), .int (nI (ol)), .int (nI (hi.length + 1))]))) y (ol) (hi.length + 1) := ⟨va_up_self _ _ _, (va_up_ne _ _ (by omega)).trans hY.2⟩
    have ko : ∀ {k : Nat} {m : MT}, BAt g ad (y + 2 + 16 * k) m f → BAt g ad (y + 2 + 16 * k) m (va_up f y (.inr (2, [.ref (ad (y + 1)), .int (nI (ol)), .int (nI (hi.length + 1))]))) := fun h => h.keep fun q a b => va_up_ne _ _ (by omega)
    refine ⟨?_, fun q hq => va_up_ne _ _ (by omega)⟩
    rw [pushH, if_neg (by omega)]
    refine ⟨ol, ho, by simp; omega, by rw [List.length_append]; exact hY2, fun k hk => ?_, fun j m hjm => ?_⟩
    · obtain ⟨m, hm⟩ := hA k hk
      exact ⟨m, ko hm⟩
    · have hl2 : j < hi.length + 1 := by simpa using (List.getElem?_eq_some_iff.mp hjm).1
      by_cases h : j < hi.length
      · exact ko (hj j m ((cut_s h).mp hjm))
      · have e : j = hi.length := by omega
        subst e
        rw [cut_m] at hjm
        cases hjm
        exact ko hmk
theorem inX0_X2_takeBack : ∀ w ∈ wsX00, w ∈ wsX2_takeBack := by decide +kernel
theorem inX1_X2_takeBack : ∀ w ∈ wsX10, w ∈ wsX2_takeBack := by decide +kernel
theorem inX2_X2_takeBack : ∀ w ∈ wsX20, w ∈ wsX2_takeBack := by decide +kernel
abbrev rmX2_takeBack : Room := { frames := 2, cells := 0, slots := 0, locals := 62 }
set_option maxHeartbeats 4000000 in
set_option maxRecDepth 100000 in
theorem c_X2_takeBack (g : GE) (lau : Launch) {N : Nat} {ad : Nat → Nat} {f : Nat → va_E} {y : Nat} (hN : y + 114 ≤ N) {hi : List MT} {m : MT} (hH : YAt g ad y (hi ++ [m]) f) {c : Nat} {m0 : MT} (hN2 : c + 16 ≤ N) (hd : c + 16 ≤ y ∨ y + 114 ≤ c) (hc : BAt g ad c m0 f) : Ct g lau yX2_takeBack wsX2_takeBack rmX2_takeBack N ad [.ref (ad y), .ref (ad c)] f (pV N ad (fun u => YAt g ad y hi u ∧ BAt g ad c m u ∧ ∀ q, (q < y ∨ y + 114 ≤ q) → (q < c ∨ c + 16 ≤ q) → u q = f q)) 0 0 := by
  refine Ct.of (maxL := 2) rfl (by decide +kernel) [some (.ref (ad y)), some (.ref (ad c))] (Nat.le_of_ble_eq_true rfl) (by simp [lvo, lv_args, Value.category]) (fun E hnl _ hC hR => ?_)
  obtain ⟨ol, ho, h6, hY, hA, hj⟩ := hH
  have hlen : (hi ++ [m]).length = hi.length + 1 := by simp
  rw [hlen] at hY h6
  obtain ⟨s, t, p, bc, co, ex, rc, pl, pn, wy, gx, hB, hm1⟩ := hc
  have hY2 : hasY g ad (va_up f y (.inr (2, [.ref (ad (y + 1)), .int (nI ol), .int (nI hi.length)]))) y ol hi.length := ⟨va_up_self _ _ _, (va_up_ne _ _ (by omega)).trans hY.2⟩
  have hjl := hj hi.length m cut_m
  obtain ⟨s2, t2, p2, bc2, co2, ex2, rc2, pl2, pn2, wy2, gx2, hB2, hm⟩ := hjl.keep (v := (va_up f y (.inr (2, [.ref (ad (y + 1)), .int (nI ol), .int (nI hi.length)])))) fun q a b => va_up_ne _ _ (by omega)
  have hB3 : hasB g ad (va_up f y (.inr (2, [.ref (ad (y + 1)), .int (nI ol), .int (nI hi.length)]))) c s t p bc co ex rc pl pn wy gx := hB.keep fun q a b => va_up_ne _ _ (by omega)
  refine V_aload_n hC dX2_takeBack_0 rfl rfl ?_
  refine V_get hC 2 dX2_takeBack_1 (by omega) hY.1 rfl (by decide) inX2_X2_takeBack (by decide +kernel) rfl ?_
  refine V_if_le_f (tgt := 29) hC dX2_takeBack_4 (by decide) (nI_nle (by omega) (by omega)) ?_
  refine V_aload_n hC dX2_takeBack_7 rfl rfl ?_
  refine V_dup hC dX2_takeBack_8 rfl ?_
  refine V_get hC 2 dX2_takeBack_9 (by omega) hY.1 rfl (by decide) inX2_X2_takeBack (by decide +kernel) rfl ?_
  refine V_iconst hC 1 dX2_takeBack_12 (by decide) ?_
  refine V_isub hC dX2_takeBack_13 ?_
  refine V_eqt (nI hi.length) (nI_pred _) ?_
  refine V_put hC (ty := .int) 2 dX2_takeBack_14 (by omega) hY.1 rfl (by decide) inX2_X2_takeBack (by decide +kernel) tyX2_ok nmX2 rfl rfl rfl rfl (by simp) ?_
  show V E g N ad 0 0 (va_up f y (.inr (2, [.ref (ad (y + 1)), .int (nI ol), .int (nI hi.length)]))) _ _ _
  refine V_aload_n hC dX2_takeBack_17 rfl rfl ?_
  refine V_aload_n hC dX2_takeBack_18 rfl rfl ?_
  refine V_aload_n hC dX2_takeBack_19 rfl rfl ?_
  refine V_get hC 2 dX2_takeBack_20 (by omega) hY2.1 rfl (by decide) inX2_X2_takeBack (by decide +kernel) rfl ?_
  refine V_cvR (n := 1) hC (c_X2_stateAt g (eL E) hN hY2 ho (k := hi.length) (by omega)) dX2_takeBack_23 gX2_takeBack_X2_stateAt rfl rfl rfl ⟨rfl, rfl⟩ (by decide +kernel) (by decide +kernel) (by omega) hY2.1 rfl (Nat.le_of_ble_eq_true rfl) (by decide) (fun x23 u23 h23 => ?_)
  obtain ⟨rfl, he⟩ := h23
  obtain rfl := he.symm
  refine V_f hB3.self ?_
  refine V_cvV (n := 1) hC (c_X0_copyFrom g (eL E) (f := (va_up f y (.inr (2, [.ref (ad (y + 1)), .int (nI ol), .int (nI hi.length)])))) hN2 hm1 (by omega) (by omega) hB2 hm) dX2_takeBack_26 gX2_takeBack_X0_copyFrom rfl rfl rfl ⟨rfl, rfl⟩ (by decide +kernel) (by decide +kernel) (by omega) zB_0 rfl (Nat.le_of_ble_eq_true rfl) (by decide) (fun u26 h26 => ?_)
  obtain hu := h26
  refine V_vret hC hR dX2_takeBack_29 ⟨rfl, rfl, rfl, ?_⟩
  obtain ⟨hu1, hu2⟩ := BIs.at h26
  have e2 : ∀ q, q ≠ y → (q < c ∨ c + 16 ≤ q) → u26 q = f q := fun q hq h => (hu2 q h).trans (va_up_ne _ _ hq)
  refine ⟨⟨ol, ho, by omega, ⟨(hu2 _ (by omega)).trans hY2.1, (hu2 _ (by omega)).trans hY2.2⟩, fun k hk => ?_, fun j m2 hjm => ?_⟩, hu1, fun q h1 h2 => e2 q (by omega) h2⟩
  · obtain ⟨m3, hm3⟩ := hA k hk
    exact ⟨m3, hm3.keep fun q a b => e2 q (by omega) (by omega)⟩
  · have hl2 := (List.getElem?_eq_some_iff.mp hjm).1
    exact (hj j m2 ((cut_s hl2).mpr hjm)).keep fun q a b => e2 q (by omega) (by omega)
