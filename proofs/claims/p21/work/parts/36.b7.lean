/-- the cells from c on of the world u are a belt -/
def hasB (g : GE) (ad : Nat → Nat) (u : Nat → va_E) (c : Nat) (s t : Nat → Int32) (p : Nat → Nat) (bc : Int32) (co ex : Nat → Int32) (rc : Int32) (pl : Nat → Int32) (pn : Int32) (wy : Nat → Int32) (gx : Nat → Nat → Int32) : Prop := u c = .inr (0, [.ref (ad (c + 1)), .ref (ad (c + 2)), .ref (ad (c + 3)), .int bc, .ref (ad (c + 4)), .ref (ad (c + 5)), .int rc, .ref (ad (c + 6)), .int pn, .ref (ad (c + 7))]) ∧ u (c + 1) = .inl (g.2.1 0, 8, .inl s) ∧ u (c + 2) = .inl (g.2.1 0, 14, .inl t) ∧ u (c + 3) = .inl (g.2.1 4, 8, .inr (.inr (.inr (.inr (fun i => some (ad (c + 8 + p i))))))) ∧ u (c + 4) = .inl (g.2.1 0, 32, .inl co) ∧ u (c + 5) = .inl (g.2.1 0, 32, .inl ex) ∧ u (c + 6) = .inl (g.2.1 0, 32, .inl pl) ∧ u (c + 7) = .inl (g.2.1 0, 5, .inl wy) ∧ ∀ j, j < 8 → u (c + 8 + j) = boxE (gx j)
theorem hasB.of {g : GE} {ad : Nat → Nat} {c : Nat} {s t : Nat → Int32} {p : Nat → Nat} {bc : Int32} {co ex : Nat → Int32} {rc : Int32} {pl : Nat → Int32} {pn : Int32} {wy : Nat → Int32} {gx : Nat → Nat → Int32} {f : Nat → va_E} : hasB g ad (zB g ad f c s t p bc co ex rc pl pn wy gx) c s t p bc co ex rc pl pn wy gx := ⟨zB_0, zB0_a1, zB0_a2, zB0_a3, zB0_a4, zB0_a5, zB0_a6, zB0_a7, fun _ h => zB_box h⟩
theorem hasB.keep {g : GE} {ad : Nat → Nat} {c : Nat} {s t : Nat → Int32} {p : Nat → Nat} {bc : Int32} {co ex : Nat → Int32} {rc : Int32} {pl : Nat → Int32} {pn : Int32} {wy : Nat → Int32} {gx : Nat → Nat → Int32} {u v : Nat → va_E} (h : hasB g ad u c s t p bc co ex rc pl pn wy gx) (he : ∀ q, c ≤ q → q < c + 16 → v q = u q) : hasB g ad v c s t p bc co ex rc pl pn wy gx := ⟨(he _ (by omega) (by omega)).trans h.1, (he _ (by omega) (by omega)).trans h.2.1, (he _ (by omega) (by omega)).trans h.2.2.1, (he _ (by omega) (by omega)).trans h.2.2.2.1, (he _ (by omega) (by omega)).trans h.2.2.2.2.1, (he _ (by omega) (by omega)).trans h.2.2.2.2.2.1, (he _ (by omega) (by omega)).trans h.2.2.2.2.2.2.1, (he _ (by omega) (by omega)).trans h.2.2.2.2.2.2.2.1, fun j hj => (he _ (by omega) (by omega)).trans (h.2.2.2.2.2.2.2.2 j hj)⟩
theorem hasB.over {g : GE} {ad : Nat → Nat} {c : Nat} {s t : Nat → Int32} {p : Nat → Nat} {bc : Int32} {co ex : Nat → Int32} {rc : Int32} {pl : Nat → Int32} {pn : Int32} {wy : Nat → Int32} {gx : Nat → Nat → Int32} {c2 : Nat} {s2 t2 : Nat → Int32} {p2 : Nat → Nat} {bc2 : Int32} {co2 ex2 : Nat → Int32} {rc2 : Int32} {pl2 : Nat → Int32} {pn2 : Int32} {wy2 : Nat → Int32} {gx2 : Nat → Nat → Int32} {u : Nat → va_E} (h : hasB g ad u c s t p bc co ex rc pl pn wy gx) (hd : c + 16 ≤ c2 ∨ c2 + 16 ≤ c) : hasB g ad (zB g ad u c2 s2 t2 p2 bc2 co2 ex2 rc2 pl2 pn2 wy2 gx2) c s t p bc co ex rc pl pn wy gx := h.keep fun q h1 h2 => zB_out (by omega)
theorem hasB.self {g : GE} {ad : Nat → Nat} {c : Nat} {s t : Nat → Int32} {p : Nat → Nat} {bc : Int32} {co ex : Nat → Int32} {rc : Int32} {pl : Nat → Int32} {pn : Int32} {wy : Nat → Int32} {gx : Nat → Nat → Int32} {u : Nat → va_E} (h : hasB g ad u c s t p bc co ex rc pl pn wy gx) : u = zB g ad u c s t p bc co ex rc pl pn wy gx := by
  funext q
  by_cases hq : q < c ∨ c + 16 ≤ q
  · rw [zB_out hq]
  · by_cases h8 : c + 8 ≤ q
    · obtain ⟨j, hj⟩ : ∃ j, q = c + 8 + j := ⟨q - (c + 8), by omega⟩
      subst hj
      rw [h.2.2.2.2.2.2.2.2 j (by omega), zB_box (by omega)]
    · have hh : hasB g ad (zB g ad u c s t p bc co ex rc pl pn wy gx) c s t p bc co ex rc pl pn wy gx := hasB.of
      rcases (show q = c ∨ q = c + 1 ∨ q = c + 2 ∨ q = c + 3 ∨ q = c + 4 ∨ q = c + 5 ∨ q = c + 6 ∨ q = c + 7 by omega) with e | e | e | e | e | e | e | e <;> subst e
      · exact h.1.trans hh.1.symm
      · exact h.2.1.trans hh.2.1.symm
      · exact h.2.2.1.trans hh.2.2.1.symm
      · exact h.2.2.2.1.trans hh.2.2.2.1.symm
      · exact h.2.2.2.2.1.trans hh.2.2.2.2.1.symm
      · exact h.2.2.2.2.2.1.trans hh.2.2.2.2.2.1.symm
      · exact h.2.2.2.2.2.2.1.trans hh.2.2.2.2.2.2.1.symm
      · exact h.2.2.2.2.2.2.2.1.trans hh.2.2.2.2.2.2.2.1.symm
/-- the world u has at c a belt with the value m -/
def BAt (g : GE) (ad : Nat → Nat) (c : Nat) (m : MT) (u : Nat → va_E) : Prop := ∃ (s t : Nat → Int32) (p : Nat → Nat) (bc : Int32) (co ex : Nat → Int32) (rc : Int32) (pl : Nat → Int32) (pn : Int32) (wy : Nat → Int32) (gx : Nat → Nat → Int32), hasB g ad u c s t p bc co ex rc pl pn wy gx ∧ RepB s t p bc co ex rc pl pn wy gx m
theorem BIs.at {g : GE} {ad : Nat → Nat} {f u : Nat → va_E} {c : Nat} {m : MT} (h : BIs g ad f c m u) : BAt g ad c m u ∧ ∀ q, q < c ∨ c + 16 ≤ q → u q = f q := by
  obtain ⟨s, t, p, bc, co, ex, rc, pl, pn, wy, gx, rfl, hm⟩ := h
  exact ⟨⟨s, t, p, bc, co, ex, rc, pl, pn, wy, gx, hasB.of, hm⟩, fun q hq => zB_out hq⟩
theorem BAt.keep {g : GE} {ad : Nat → Nat} {u v : Nat → va_E} {c : Nat} {m : MT} (h : BAt g ad c m u) (he : ∀ q, c ≤ q → q < c + 16 → v q = u q) : BAt g ad c m v := by
  obtain ⟨s, t, p, bc, co, ex, rc, pl, pn, wy, gx, hu, hm⟩ := h
  exact ⟨s, t, p, bc, co, ex, rc, pl, pn, wy, gx, hu.keep he, hm⟩
theorem cpy0 {a b : Nat → Int32} {n i : Nat} (h : i < n) : va_cpy a b 0 0 n i = a i := by simp [va_cpy, h]
theorem V_B_cp1 {E : EV} {g : GE} {N : Nat} {ad : Nat → Nat} {f : Nat → va_E} {pc : Nat} {lo : List (Option Value)} {st : List Value} {cc : ByteArray} {Ts : List Cond} {own : String} {rm : Room} {c : Nat} {s t : Nat → Int32} {p : Nat → Nat} {bc : Int32} {co ex : Nat → Int32} {rc : Int32} {pl : Nat → Int32} {pn : Int32} {wy : Nat → Int32} {gx : Nat → Nat → Int32} (hC : CX E g cc Ts own rm) (hN : c + 16 ≤ N) {i0 n0 k : Nat} {a : Nat → Int32} {index : Nat} {n : Int32} (hd : decode cc pc = .ok (.invokestatic index, 3)) (hw1 : Cond.methodLink own index arraycopyName ∈ Ts) (hw2 : Cond.native arraycopyName ∈ Ts) (hw3 : Cond.static arraycopyName ∈ Ts) (hw4 : Cond.initialized "java/lang/System" ∈ Ts) (hi0 : i0 < N) (hf0 : zB g ad f c s t p bc co ex rc pl pn wy gx i0 = .inl (g.2.1 0, n0, .inl a)) (hn : ¬ n < 0) (hk : n.toNatClampNeg = k) (h4 : k ≤ n0) (h5 : k ≤ 8) (hR : 1 ≤ rm.frames) (hR2 : (st.map fun v => v.category).sum + (nativeFrameWords "java/lang/System" "arraycopy" 5 + 11) ≤ rm.locals) (kk : V E g N ad 0 0 (zB g ad f c (va_cpy a s 0 0 k) t p bc co ex rc pl pn wy gx) (pc + 3) lo st) : V E g N ad 0 0 (zB g ad f c s t p bc co ex rc pl pn wy gx) pc lo (.int n :: .int 0 :: .ref (ad (c + 1)) :: .int 0 :: .ref (ad i0) :: st) := V_copy hC hd hw1 hw2 hw3 hw4 hi0 hf0 (by omega) zB0_a1 hn hk h4 h5 hR hR2 (V_f zB0_u1 kk)
theorem V_B_cp2 {E : EV} {g : GE} {N : Nat} {ad : Nat → Nat} {f : Nat → va_E} {pc : Nat} {lo : List (Option Value)} {st : List Value} {cc : ByteArray} {Ts : List Cond} {own : String} {rm : Room} {c : Nat} {s t : Nat → Int32} {p : Nat → Nat} {bc : Int32} {co ex : Nat → Int32} {rc : Int32} {pl : Nat → Int32} {pn : Int32} {wy : Nat → Int32} {gx : Nat → Nat → Int32} (hC : CX E g cc Ts own rm) (hN : c + 16 ≤ N) {i0 n0 k : Nat} {a : Nat → Int32} {index : Nat} {n : Int32} (hd : decode cc pc = .ok (.invokestatic index, 3)) (hw1 : Cond.methodLink own index arraycopyName ∈ Ts) (hw2 : Cond.native arraycopyName ∈ Ts) (hw3 : Cond.static arraycopyName ∈ Ts) (hw4 : Cond.initialized "java/lang/System" ∈ Ts) (hi0 : i0 < N) (hf0 : zB g ad f c s t p bc co ex rc pl pn wy gx i0 = .inl (g.2.1 0, n0, .inl a)) (hn : ¬ n < 0) (hk : n.toNatClampNeg = k) (h4 : k ≤ n0) (h5 : k ≤ 14) (hR : 1 ≤ rm.frames) (hR2 : (st.map fun v => v.category).sum + (nativeFrameWords "java/lang/System" "arraycopy" 5 + 11) ≤ rm.locals) (kk : V E g N ad 0 0 (zB g ad f c s (va_cpy a t 0 0 k) p bc co ex rc pl pn wy gx) (pc + 3) lo st) : V E g N ad 0 0 (zB g ad f c s t p bc co ex rc pl pn wy gx) pc lo (.int n :: .int 0 :: .ref (ad (c + 2)) :: .int 0 :: .ref (ad i0) :: st) := V_copy hC hd hw1 hw2 hw3 hw4 hi0 hf0 (by omega) zB0_a2 hn hk h4 h5 hR hR2 (V_f zB0_u2 kk)
theorem V_B_cp4 {E : EV} {g : GE} {N : Nat} {ad : Nat → Nat} {f : Nat → va_E} {pc : Nat} {lo : List (Option Value)} {st : List Value} {cc : ByteArray} {Ts : List Cond} {own : String} {rm : Room} {c : Nat} {s t : Nat → Int32} {p : Nat → Nat} {bc : Int32} {co ex : Nat → Int32} {rc : Int32} {pl : Nat → Int32} {pn : Int32} {wy : Nat → Int32} {gx : Nat → Nat → Int32} (hC : CX E g cc Ts own rm) (hN : c + 16 ≤ N) {i0 n0 k : Nat} {a : Nat → Int32} {index : Nat} {n : Int32} (hd : decode cc pc = .ok (.invokestatic index, 3)) (hw1 : Cond.methodLink own index arraycopyName ∈ Ts) (hw2 : Cond.native arraycopyName ∈ Ts) (hw3 : Cond.static arraycopyName ∈ Ts) (hw4 : Cond.initialized "java/lang/System" ∈ Ts) (hi0 : i0 < N) (hf0 : zB g ad f c s t p bc co ex rc pl pn wy gx i0 = .inl (g.2.1 0, n0, .inl a)) (hn : ¬ n < 0) (hk : n.toNatClampNeg = k) (h4 : k ≤ n0) (h5 : k ≤ 32) (hR : 1 ≤ rm.frames) (hR2 : (st.map fun v => v.category).sum + (nativeFrameWords "java/lang/System" "arraycopy" 5 + 11) ≤ rm.locals) (kk : V E g N ad 0 0 (zB g ad f c s t p bc (va_cpy a co 0 0 k) ex rc pl pn wy gx) (pc + 3) lo st) : V E g N ad 0 0 (zB g ad f c s t p bc co ex rc pl pn wy gx) pc lo (.int n :: .int 0 :: .ref (ad (c + 4)) :: .int 0 :: .ref (ad i0) :: st) := V_copy hC hd hw1 hw2 hw3 hw4 hi0 hf0 (by omega) zB0_a4 hn hk h4 h5 hR hR2 (V_f zB0_u4 kk)
theorem V_B_cp5 {E : EV} {g : GE} {N : Nat} {ad : Nat → Nat} {f : Nat → va_E} {pc : Nat} {lo : List (Option Value)} {st : List Value} {cc : ByteArray} {Ts : List Cond} {own : String} {rm : Room} {c : Nat} {s t : Nat → Int32} {p : Nat → Nat} {bc : Int32} {co ex : Nat → Int32} {rc : Int32} {pl : Nat → Int32} {pn : Int32} {wy : Nat → Int32} {gx : Nat → Nat → Int32} (hC : CX E g cc Ts own rm) (hN : c + 16 ≤ N) {i0 n0 k : Nat} {a : Nat → Int32} {index : Nat} {n : Int32} (hd : decode cc pc = .ok (.invokestatic index, 3)) (hw1 : Cond.methodLink own index arraycopyName ∈ Ts) (hw2 : Cond.native arraycopyName ∈ Ts) (hw3 : Cond.static arraycopyName ∈ Ts) (hw4 : Cond.initialized "java/lang/System" ∈ Ts) (hi0 : i0 < N) (hf0 : zB g ad f c s t p bc co ex rc pl pn wy gx i0 = .inl (g.2.1 0, n0, .inl a)) (hn : ¬ n < 0) (hk : n.toNatClampNeg = k) (h4 : k ≤ n0) (h5 : k ≤ 32) (hR : 1 ≤ rm.frames) (hR2 : (st.map fun v => v.category).sum + (nativeFrameWords "java/lang/System" "arraycopy" 5 + 11) ≤ rm.locals) (kk : V E g N ad 0 0 (zB g ad f c s t p bc co (va_cpy a ex 0 0 k) rc pl pn wy gx) (pc + 3) lo st) : V E g N ad 0 0 (zB g ad f c s t p bc co ex rc pl pn wy gx) pc lo (.int n :: .int 0 :: .ref (ad (c + 5)) :: .int 0 :: .ref (ad i0) :: st) := V_copy hC hd hw1 hw2 hw3 hw4 hi0 hf0 (by omega) zB0_a5 hn hk h4 h5 hR hR2 (V_f zB0_u5 kk)
theorem V_B_cp6 {E : EV} {g : GE} {N : Nat} {ad : Nat → Nat} {f : Nat → va_E} {pc : Nat} {lo : List (Option Value)} {st : List Value} {cc : ByteArray} {Ts : List Cond} {own : String} {rm : Room} {c : Nat} {s t : Nat → Int32} {p : Nat → Nat} {bc : Int32} {co ex : Nat → Int32} {rc : Int32} {pl : Nat → Int32} {pn : Int32} {wy : Nat → Int32} {gx : Nat → Nat → Int32} (hC : CX E g cc Ts own rm) (hN : c + 16 ≤ N) {i0 n0 k : Nat} {a : Nat → Int32} {index : Nat} {n : Int32} (hd : decode cc pc = .ok (.invokestatic index, 3)) (hw1 : Cond.methodLink own index arraycopyName ∈ Ts) (hw2 : Cond.native arraycopyName ∈ Ts) (hw3 : Cond.static arraycopyName ∈ Ts) (hw4 : Cond.initialized "java/lang/System" ∈ Ts) (hi0 : i0 < N) (hf0 : zB g ad f c s t p bc co ex rc pl pn wy gx i0 = .inl (g.2.1 0, n0, .inl a)) (hn : ¬ n < 0) (hk : n.toNatClampNeg = k) (h4 : k ≤ n0) (h5 : k ≤ 32) (hR : 1 ≤ rm.frames) (hR2 : (st.map fun v => v.category).sum + (nativeFrameWords "java/lang/System" "arraycopy" 5 + 11) ≤ rm.locals) (kk : V E g N ad 0 0 (zB g ad f c s t p bc co ex rc (va_cpy a pl 0 0 k) pn wy gx) (pc + 3) lo st) : V E g N ad 0 0 (zB g ad f c s t p bc co ex rc pl pn wy gx) pc lo (.int n :: .int 0 :: .ref (ad (c + 6)) :: .int 0 :: .ref (ad i0) :: st) := V_copy hC hd hw1 hw2 hw3 hw4 hi0 hf0 (by omega) zB0_a6 hn hk h4 h5 hR hR2 (V_f zB0_u6 kk)
theorem V_B_cp7 {E : EV} {g : GE} {N : Nat} {ad : Nat → Nat} {f : Nat → va_E} {pc : Nat} {lo : List (Option Value)} {st : List Value} {cc : ByteArray} {Ts : List Cond} {own : String} {rm : Room} {c : Nat} {s t : Nat → Int32} {p : Nat → Nat} {bc : Int32} {co ex : Nat → Int32} {rc : Int32} {pl : Nat → Int32} {pn : Int32} {wy : Nat → Int32} {gx : Nat → Nat → Int32} (hC : CX E g cc Ts own rm) (hN : c + 16 ≤ N) {i0 n0 k : Nat} {a : Nat → Int32} {index : Nat} {n : Int32} (hd : decode cc pc = .ok (.invokestatic index, 3)) (hw1 : Cond.methodLink own index arraycopyName ∈ Ts) (hw2 : Cond.native arraycopyName ∈ Ts) (hw3 : Cond.static arraycopyName ∈ Ts) (hw4 : Cond.initialized "java/lang/System" ∈ Ts) (hi0 : i0 < N) (hf0 : zB g ad f c s t p bc co ex rc pl pn wy gx i0 = .inl (g.2.1 0, n0, .inl a)) (hn : ¬ n < 0) (hk : n.toNatClampNeg = k) (h4 : k ≤ n0) (h5 : k ≤ 5) (hR : 1 ≤ rm.frames) (hR2 : (st.map fun v => v.category).sum + (nativeFrameWords "java/lang/System" "arraycopy" 5 + 11) ≤ rm.locals) (kk : V E g N ad 0 0 (zB g ad f c s t p bc co ex rc pl pn (va_cpy a wy 0 0 k) gx) (pc + 3) lo st) : V E g N ad 0 0 (zB g ad f c s t p bc co ex rc pl pn wy gx) pc lo (.int n :: .int 0 :: .ref (ad (c + 7)) :: .int 0 :: .ref (ad i0) :: st) := V_copy hC hd hw1 hw2 hw3 hw4 hi0 hf0 (by omega) zB0_a7 hn hk h4 h5 hR hR2 (V_f zB0_u7 kk)
theorem inX0_X0_copyFrom : ∀ w ∈ wsX00, w ∈ wsX0_copyFrom := by decide +kernel
theorem inX1_X0_copyFrom : ∀ w ∈ wsX10, w ∈ wsX0_copyFrom := by decide +kernel
abbrev rmX0_copyFrom : Room := { frames := 1, cells := 0, slots := 0, locals := 40 }
set_option maxHeartbeats 4000000 in
set_option maxRecDepth 100000 in
theorem c_X0_copyFrom (g : GE) (lau : Launch) {N : Nat} {ad : Nat → Nat} {f : Nat → va_E} {c : Nat} {s t : Nat → Int32} {p : Nat → Nat} {bc : Int32} {co ex : Nat → Int32} {rc : Int32} {pl : Nat → Int32} {pn : Int32} {wy : Nat → Int32} {gx : Nat → Nat → Int32} (hN : c + 16 ≤ N) {m0 : MT} (hm0 : RepB s t p bc co ex rc pl pn wy gx m0) {c2 : Nat} {s2 t2 : Nat → Int32} {p2 : Nat → Nat} {bc2 : Int32} {co2 ex2 : Nat → Int32} {rc2 : Int32} {pl2 : Nat → Int32} {pn2 : Int32} {wy2 : Nat → Int32} {gx2 : Nat → Nat → Int32} (hN2 : c2 + 16 ≤ N) (hd2 : c2 + 16 ≤ c ∨ c + 16 ≤ c2) (hO : hasB g ad f c2 s2 t2 p2 bc2 co2 ex2 rc2 pl2 pn2 wy2 gx2) {m : MT} (hm : RepB s2 t2 p2 bc2 co2 ex2 rc2 pl2 pn2 wy2 gx2 m) : Ct g lau yX0_copyFrom wsX0_copyFrom rmX0_copyFrom N ad [.ref (ad c), .ref (ad c2)] (zB g ad f c s t p bc co ex rc pl pn wy gx) (pV N ad (fun u => BIs g ad f c m u)) 0 0 := by
  refine Ct.of (maxL := 3) rfl (by decide +kernel) [some (.ref (ad c)), some (.ref (ad c2)), none] (Nat.le_of_ble_eq_true rfl) (by simp [lvo, lv_args, Value.category]) (fun E hnl _ hC hR => ?_)
  have hxp := hm0.2.1
  have hpi : ∀ j, j < 8 → p j < 8 := hxp.2.2.1
  have hinj := hxp.2.2.2.1
  obtain ⟨h, bs, rs, ps⟩ := m
  obtain ⟨hh, hx, hr, hp⟩ : qH s2 t2 wy2 h ∧ qX p2 gx2 bc2 bs ∧ qR co2 ex2 rc2 rs ∧ qP pl2 pn2 ps := hm
  have hr28 := hr.2.1
  have hp29 := hp.2.1
  have loop : ∀ (r d : List (Nat → Int32)) (gx : Nat → Nat → Int32), d ++ r = bs → (∀ j x, d[j]? = some x → isX (gx (p j)) x) → V E g N ad 0 0 (zB g ad f c (va_cpy s2 s 0 0 8) (va_cpy t2 t 0 0 14) p bc2 co ex rc pl pn wy gx) 46 [some (.ref (ad c)), some (.ref (ad c2)), some (.int (nI d.length))] [] := by
    intro r
    induction r with
    | nil =>
      intro d gx hd hg
      rw [List.append_nil] at hd
      subst hd
      refine V_iload_n hC dX0_copyFrom_46 rfl rfl ?_
      refine V_aload_n hC dX0_copyFrom_47 rfl rfl ?_
      refine V_B_boxCount hC hN dX0_copyFrom_48 inX0_X0_copyFrom (by decide +kernel) ?_
      refine V_icmp_ge_t hC 75 dX0_copyFrom_51 (by decide) (by rw [hx.1]; exact Int32.le_refl _) ?_
      refine V_aload_n hC dX0_copyFrom_75 rfl rfl ?_
      refine V_aload_n hC dX0_copyFrom_76 rfl rfl ?_
      refine V_get hC 6 dX0_copyFrom_77 (by omega) ((hO.over hd2)).1 rfl (by decide) inX0_X0_copyFrom (by decide +kernel) rfl ?_
      refine V_B_put_reportCount hC hN dX0_copyFrom_80 inX0_X0_copyFrom (by decide +kernel) ?_
      refine V_aload_n hC dX0_copyFrom_83 rfl rfl ?_
      refine V_get hC 4 dX0_copyFrom_84 (by omega) ((hO.over hd2)).1 rfl (by decide) inX0_X0_copyFrom (by decide +kernel) rfl ?_
      refine V_iconst hC 0 dX0_copyFrom_87 (by decide) ?_
      refine V_aload_n hC dX0_copyFrom_88 rfl rfl ?_
      refine V_B_comes hC hN dX0_copyFrom_89 inX0_X0_copyFrom (by decide +kernel) ?_
      refine V_iconst hC 0 dX0_copyFrom_92 (by decide) ?_
      refine V_aload_n hC dX0_copyFrom_93 rfl rfl ?_
      refine V_B_reportCount hC hN dX0_copyFrom_94 inX0_X0_copyFrom (by decide +kernel) ?_
      refine V_B_cp4 (k := rs.length) hC hN dX0_copyFrom_97 (by decide +kernel) (by decide +kernel) (by decide +kernel) (by decide +kernel) (by omega) (hO.over hd2).2.2.2.2.1 (by rw [hr.1]; exact nI_pos (by omega)) (by rw [hr.1]; exact nI_clamp (by omega)) (by omega) (by omega) (by decide) (Nat.le_of_ble_eq_true rfl) ?_
      refine V_aload_n hC dX0_copyFrom_100 rfl rfl ?_
      refine V_get hC 5 dX0_copyFrom_101 (by omega) ((hO.over hd2)).1 rfl (by decide) inX0_X0_copyFrom (by decide +kernel) rfl ?_
      refine V_iconst hC 0 dX0_copyFrom_104 (by decide) ?_
      refine V_aload_n hC dX0_copyFrom_105 rfl rfl ?_
      refine V_B_excesses hC hN dX0_copyFrom_106 inX0_X0_copyFrom (by decide +kernel) ?_
      refine V_iconst hC 0 dX0_copyFrom_109 (by decide) ?_
      refine V_aload_n hC dX0_copyFrom_110 rfl rfl ?_
      refine V_B_reportCount hC hN dX0_copyFrom_111 inX0_X0_copyFrom (by decide +kernel) ?_
      refine V_B_cp5 (k := rs.length) hC hN dX0_copyFrom_114 (by decide +kernel) (by decide +kernel) (by decide +kernel) (by decide +kernel) (by omega) (hO.over hd2).2.2.2.2.2.1 (by rw [hr.1]; exact nI_pos (by omega)) (by rw [hr.1]; exact nI_clamp (by omega)) (by omega) (by omega) (by decide) (Nat.le_of_ble_eq_true rfl) ?_
      refine V_aload_n hC dX0_copyFrom_117 rfl rfl ?_
      refine V_aload_n hC dX0_copyFrom_118 rfl rfl ?_
      refine V_get hC 8 dX0_copyFrom_119 (by omega) ((hO.over hd2)).1 rfl (by decide) inX0_X0_copyFrom (by decide +kernel) rfl ?_
      refine V_B_put_planCount hC hN dX0_copyFrom_122 inX0_X0_copyFrom (by decide +kernel) ?_
      refine V_aload_n hC dX0_copyFrom_125 rfl rfl ?_
      refine V_get hC 7 dX0_copyFrom_126 (by omega) ((hO.over hd2)).1 rfl (by decide) inX0_X0_copyFrom (by decide +kernel) rfl ?_
      refine V_iconst hC 0 dX0_copyFrom_129 (by decide) ?_
      refine V_aload_n hC dX0_copyFrom_130 rfl rfl ?_
      refine V_B_plans hC hN dX0_copyFrom_131 inX0_X0_copyFrom (by decide +kernel) ?_
      refine V_iconst hC 0 dX0_copyFrom_134 (by decide) ?_
      refine V_aload_n hC dX0_copyFrom_135 rfl rfl ?_
      refine V_B_planCount hC hN dX0_copyFrom_136 inX0_X0_copyFrom (by decide +kernel) ?_
      refine V_B_cp6 (k := ps.length) hC hN dX0_copyFrom_139 (by decide +kernel) (by decide +kernel) (by decide +kernel) (by decide +kernel) (by omega) (hO.over hd2).2.2.2.2.2.2.1 (by rw [hp.1]; exact nI_pos (by omega)) (by rw [hp.1]; exact nI_clamp (by omega)) (by omega) (by omega) (by decide) (Nat.le_of_ble_eq_true rfl) ?_
      refine V_aload_n hC dX0_copyFrom_142 rfl rfl ?_
      refine V_get hC 9 dX0_copyFrom_143 (by omega) ((hO.over hd2)).1 rfl (by decide) inX0_X0_copyFrom (by decide +kernel) rfl ?_
      refine V_iconst hC 0 dX0_copyFrom_146 (by decide) ?_
      refine V_aload_n hC dX0_copyFrom_147 rfl rfl ?_
      refine V_B_ways hC hN dX0_copyFrom_148 inX0_X0_copyFrom (by decide +kernel) ?_
      refine V_iconst hC 0 dX0_copyFrom_151 (by decide) ?_
      refine V_aload_n hC dX0_copyFrom_152 rfl rfl ?_
      refine V_B_ways hC hN dX0_copyFrom_153 inX0_X0_copyFrom (by decide +kernel) ?_
      refine V_B_len7 hC hN 5 dX0_copyFrom_156 rfl ?_
      refine V_B_cp7 (k := 5) hC hN dX0_copyFrom_157 (by decide +kernel) (by decide +kernel) (by decide +kernel) (by decide +kernel) (by omega) (hO.over hd2).2.2.2.2.2.2.2.1 (by decide) (by decide) (by decide) (by decide) (by decide) (Nat.le_of_ble_eq_true rfl) ?_
      refine V_vret hC hR dX0_copyFrom_160 ⟨rfl, rfl, rfl, ?_⟩
      refine BIs.mk ⟨⟨fun i hi => ?_, fun i h1 h2 h3 h4 => ?_, fun k hk => ?_⟩, ⟨hx.1, hx.2.1, hpi, hinj, hg⟩, ⟨hr.1, hr.2.1, fun j q hq => ?_⟩, hp.1, hp.2.1, fun j q hq => ?_⟩
      · rw [cpy0 hi]; exact hh.1 i hi
      · rw [cpy0 h1]; exact hh.2.1 i h1 h2 h3 h4
      · rw [cpy0 hk]; exact hh.2.2 k hk
      · have := (List.getElem?_eq_some_iff.mp hq).1
        rw [cpy0 this, cpy0 this]; exact hr.2.2 j q hq
      · rw [cpy0 (List.getElem?_eq_some_iff.mp hq).1]; exact hp.2.2 j q hq
    | cons x r ih =>
      intro d gx hd hg
      have hx2 := hx
      rw [← hd] at hx2
      have hlt := hx2.lt
      have e := hx2.get
      have hpl := hpi _ hlt
      have hp2 := hx2.p8 hlt
      refine V_iload_n hC dX0_copyFrom_46 rfl rfl ?_
      refine V_aload_n hC dX0_copyFrom_47 rfl rfl ?_
      refine V_B_boxCount hC hN dX0_copyFrom_48 inX0_X0_copyFrom (by decide +kernel) ?_
      refine V_icmp_ge_f (tgt := 75) hC dX0_copyFrom_51 (by decide) (by rw [hx2.1]; exact nI_ge (by simp) (by have := hx2.2.1; omega)) ?_
      refine V_aload_n hC dX0_copyFrom_54 rfl rfl ?_
      refine V_B_boxes hC hN dX0_copyFrom_55 inX0_X0_copyFrom (by decide +kernel) ?_
      refine V_iload_n hC dX0_copyFrom_58 rfl rfl ?_
      refine V_B_ld3 hC hN dX0_copyFrom_59 (ix_nI (j := d.length) hlt (by decide)) ?_
      refine V_aload_n hC dX0_copyFrom_60 rfl rfl ?_
      refine V_get hC 2 dX0_copyFrom_61 (by omega) ((hO.over hd2)).1 rfl (by decide) inX0_X0_copyFrom (by decide +kernel) rfl ?_
      refine V_iload_n hC dX0_copyFrom_64 rfl rfl ?_
      refine V_aald (t0 := 4) hC dX0_copyFrom_65 (by omega) ((hO.over hd2)).2.2.2.1 rfl (ix_nI (j := d.length) hlt (by decide)) rfl ?_
      refine V_cvV (n := 1) hC (c_X1_copyFrom g (eL E) (i := c + 8 + p d.length) (by omega) (zB_box hpl) (j := c2 + 8 + p2 d.length) (by omega) ((hO.over hd2).2.2.2.2.2.2.2.2 _ hp2) (by omega) e.ok) dX0_copyFrom_66 gX0_copyFrom_X1_copyFrom rfl rfl rfl ⟨rfl, rfl⟩ (by decide +kernel) (by decide +kernel) (by omega) (zB_box hpl) rfl (Nat.le_of_ble_eq_true rfl) (by decide) (fun u66 h66 => ?_)
      obtain rfl := h66
      refine V_f (zB_ubox hpl) ?_
      refine V_iinc2 hC (nI (d ++ [x]).length) dX0_copyFrom_69 len_s (by rw [hnl]; decide) rfl ?_
      refine V_goto hC 46 dX0_copyFrom_72 (by decide) ?_
      refine ih (d ++ [x]) _ (by rw [List.append_assoc]; exact hd) (fun j y hy => ?_)
      have hj : j < d.length + 1 := by simpa using (List.getElem?_eq_some_iff.mp hy).1
      by_cases h2 : j < d.length
      · have hne : p j ≠ p d.length := fun q => by have := hinj j d.length (by omega) hlt q; omega
        rw [va_up_ne _ _ hne]
        exact hg j y ((cut_s h2).mp hy)
      · have : j = d.length := by omega
        subst this
        rw [cut_m] at hy
        cases hy
        rw [va_up_self]
        exact e
  refine V_aload_n hC dX0_copyFrom_0 rfl rfl ?_
  refine V_get hC 0 dX0_copyFrom_1 (by omega) ((hO.over hd2)).1 rfl (by decide) inX0_X0_copyFrom (by decide +kernel) rfl ?_
  refine V_iconst hC 0 dX0_copyFrom_4 (by decide) ?_
  refine V_aload_n hC dX0_copyFrom_5 rfl rfl ?_
  refine V_B_settings hC hN dX0_copyFrom_6 inX0_X0_copyFrom (by decide +kernel) ?_
  refine V_iconst hC 0 dX0_copyFrom_9 (by decide) ?_
  refine V_aload_n hC dX0_copyFrom_10 rfl rfl ?_
  refine V_B_settings hC hN dX0_copyFrom_11 inX0_X0_copyFrom (by decide +kernel) ?_
  refine V_B_len1 hC hN 8 dX0_copyFrom_14 rfl ?_
  refine V_B_cp1 (k := 8) hC hN dX0_copyFrom_15 (by decide +kernel) (by decide +kernel) (by decide +kernel) (by decide +kernel) (by omega) (hO.over hd2).2.1 (by decide) (by decide) (by decide) (by decide) (by decide) (Nat.le_of_ble_eq_true rfl) ?_
  refine V_aload_n hC dX0_copyFrom_18 rfl rfl ?_
  refine V_get hC 1 dX0_copyFrom_19 (by omega) ((hO.over hd2)).1 rfl (by decide) inX0_X0_copyFrom (by decide +kernel) rfl ?_
  refine V_iconst hC 0 dX0_copyFrom_22 (by decide) ?_
  refine V_aload_n hC dX0_copyFrom_23 rfl rfl ?_
  refine V_B_tallies hC hN dX0_copyFrom_24 inX0_X0_copyFrom (by decide +kernel) ?_
  refine V_iconst hC 0 dX0_copyFrom_27 (by decide) ?_
  refine V_aload_n hC dX0_copyFrom_28 rfl rfl ?_
  refine V_B_tallies hC hN dX0_copyFrom_29 inX0_X0_copyFrom (by decide +kernel) ?_
  refine V_B_len2 hC hN 14 dX0_copyFrom_32 rfl ?_
  refine V_B_cp2 (k := 14) hC hN dX0_copyFrom_33 (by decide +kernel) (by decide +kernel) (by decide +kernel) (by decide +kernel) (by omega) (hO.over hd2).2.2.1 (by decide) (by decide) (by decide) (by decide) (by decide) (Nat.le_of_ble_eq_true rfl) ?_
  refine V_aload_n hC dX0_copyFrom_36 rfl rfl ?_
  refine V_aload_n hC dX0_copyFrom_37 rfl rfl ?_
  refine V_get hC 3 dX0_copyFrom_38 (by omega) ((hO.over hd2)).1 rfl (by decide) inX0_X0_copyFrom (by decide +kernel) rfl ?_
  refine V_B_put_boxCount hC hN dX0_copyFrom_41 inX0_X0_copyFrom (by decide +kernel) ?_
  refine V_iconst hC 0 dX0_copyFrom_44 (by decide) ?_
  refine V_istore_n2 hC dX0_copyFrom_45 rfl (by rw [hnl]; decide) rfl ?_
  exact loop bs [] gx rfl (fun j x hj => by simp at hj)
