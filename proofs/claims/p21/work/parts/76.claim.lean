theorem len_of {args : Array Value} {s : State} {t : Term} {N a : Nat} {cell : Cell} (hN : N < 2 ^ 31) (h : (Term.length t).eval args s none [] s = some (.int (Int32.ofNat N))) (ht : t.eval args s none [] s = some (.ref a)) (hc : s.heap[a]? = some cell) : cell.slots.size = N := by
  simp only [Term.eval, Option.bind_eq_bind] at h
  simp [ht] at h
  obtain ⟨cell2, hcell2, h⟩ := Option.bind_eq_some_iff.mp h
  obtain ⟨hc2, -⟩ := State.arrayAt?_spec hcell2
  cases hc.symm.trans hc2
  by_cases hn : cell.slots.size < 2147483648
  · rw [if_pos hn] at h
    have e : nI cell.slots.size = nI N := Value.int.inj (Option.some.inj h)
    have e2 := congrArg Int32.toNatClampNeg e
    rw [nI_clamp (by omega), nI_clamp hN] at e2
    exact e2
  · rw [if_neg hn] at h
    cases h
/-! THE CLAIM OUT OF ONE WALK OF THE LAW'S BODY. Your part is whole_start (and what it stands on); all else here is the same for every law, but numbers. -/
def R_law : String := "BeltMarksLaw"
def lw_P (b : Addr) (xs : List Int32) (args : Array Value) (s : State) : Prop := args = #[.ref b] ∧ s.IntsAt b xs ∧ xs.length ≤ 260 ∧ (Jvm.Cond.and given_1 narrow_1).before args s = true
def lw_Q (_ : Array Value) (s : State) (o : Outcome) (t : State) : Prop := o = .returned (some (.int 1)) ∧ Framed s o t [] 600000 7302250
def lw_Z (below : List Frame) (a : Array Value) (s : State) : State → Prop := fun t => ∃ o, t.status = .running ∧ Ended t below o ∧ lw_Q a s o t
/-- the law's own end, with 1 on the stack, nothing written that was there before, its room as the claim has it -/
theorem lw_ret {p : Program} {l : Launch} {e : Env} {s : State} {m : MethodId} {below : List Frame} {meth : Method} {c : Code} {b : Nat} (hx : p.tables.exec = Jvm.exec) (hb : c.code = code) (hr : meth.sig.returnType = ret) (hlocks : meth.locks = false) {pc : Nat} {H : Heap} {ls : Array Slot} (hdg : decode code pc = .ok (.ireturn, 1)) : W p l e room_1 s m #[Value.ref b] below meth c H [] 600000 7302250 (lw_Z below #[Value.ref b] s) (F0 m pc ls [.int 1]) := by
  intro T hT X
  obtain ⟨fs, hret, hrun, hended, hW, hframe⟩ := X.leave (v := some (.int 1)) (hlocks := hlocks) (fun h => by rw [hr] at h; cases h)
  have hmeth' : T.vm.method? m = some meth := X.method'
  refine ⟨T.setFrames fs, ?_, .returned (some (.int 1)), hrun, hended, rfl, ⟨_, rfl⟩, hW, hframe⟩
  jvm_step X.here [X.here.top, hx, hb, hdg, hmeth', hr, ret, narrow_b1]
  (try refine ⟨rfl, ?_⟩); (try refine ⟨rfl, ?_⟩)
  first | (intro acts; rw [hret _ acts rfl rfl rfl]) | rw [hret _ _ rfl rfl rfl]
  exact Steps.refl _
/-- what holds at the law's entry: the machine, the code, the tables' words (any of lw_tbl by 'hts w (by decide +kernel)'), the script of L ints xs at the cell b, what the Statement gives of the start (any of its parts by flat_of_before) -/
def lw_At (p : Program) (s : State) (m : MethodId) (meth : Method) (c : Code) (b L : Nat) (xs : Nat → Int32) : Prop :=
  p.tables.exec = Jvm.exec ∧ c.code = code ∧ meth.sig.returnType = ret ∧ c.maxLocals = 5 ∧ s.vm.findClass R_law = some m.cls ∧ (∀ w ∈ lw_tbl, w.before #[Value.ref b] s = true) ∧ va_X b L xs s s.heap ∧ b < s.heap.size ∧ meth.locks = false ∧ (Jvm.Cond.and given_1 narrow_1).before #[Value.ref b] s = true
set_option maxHeartbeats 4000000 in
set_option maxRecDepth 100000 in
theorem whole_start {p : Program} {e : Env} {s : State} {m : MethodId} {below : List Frame} {meth : Method} {c : Code} (l : Launch) (hflags : l.flags = flags0) {b L : Nat} {xs : Nat → Int32} (hL : L ≤ 260) (hAt : lw_At p s m meth c b L xs) : W p l e room_1 s m #[Value.ref b] below meth c s.heap [] 0 0 (lw_Z below #[Value.ref b] s) (entryFrame m ([Value.ref b] : List Value).toArray 5) := by
  obtain ⟨hx, hb, hr, hml, hown, hts, hX, hbl, hlocks, hgv⟩ := hAt
  have hs := flat_of_before _ hgv
  have hA : ∀ a : Nat, a < s.heap.size → ¬ (fun q : Nat => s.heap.size ≤ q) a := fun a h => Nat.not_le.mpr h
  obtain ⟨c0, i0, k0⟩ := u_known (C := RX0) (T := TX0) (N := 10) (n := 10) hts inX0 (hts (.instantiable RX0 10) (by decide +kernel))
  obtain ⟨c1, i1, k1⟩ := u_known (C := RX1) (T := TX1) (N := 7) (n := 7) hts inX1 (hts (.instantiable RX1 7) (by decide +kernel))
  obtain ⟨c2, i2, k2⟩ := u_known (C := RX2) (T := TX2) (N := 3) (n := 3) hts inX2 (hts (.instantiable RX2 3) (by decide +kernel))
  obtain ⟨c3, i3, k3⟩ := u_known (C := RX3) (T := TX3) (N := 2) (n := 2) hts inX3 (hts (.instantiable RX3 2) (by decide +kernel))
  obtain ⟨c4, i4, k4⟩ := u_known (C := RX4) (T := TX4) (N := 6) (n := 6) hts inX4 (hts (.instantiable RX4 6) (by decide +kernel))
  obtain ⟨a0, ka0, co0, p0, q0, r0⟩ := Cond.arrayClass_spec (hts (.arrayClass .int) (by decide +kernel))
  obtain ⟨a1, ka1, co1, p1, q1, r1⟩ := Cond.arrayClass_spec (hts (.arrayClass .char) (by decide +kernel))
  obtain ⟨a2, ka2, co2, p2, q2, r2⟩ := Cond.arrayClass_spec (hts (.arrayClass .boolean) (by decide +kernel))
  obtain ⟨co3, a3, ka3, p3, -, q3, r3, u3⟩ := Cond.arrayOver_spec (hts (.arrayOver (.object RX0)) (by decide +kernel))
  obtain ⟨co4, a4, ka4, p4, -, q4, r4, u4⟩ := Cond.arrayOver_spec (hts (.arrayOver (.object RX1)) (by decide +kernel))
  have le0 : (Term.length (.static RX0 "LOWEST" "[I")).eval #[Value.ref b] s none [] s = some (.int (Int32.ofNat 8)) := va_eqt (hs (.eq (.length (.static RX0 "LOWEST" "[I")) (.int 8)) (by decide +kernel))
  obtain ⟨t0, e0, T0⟩ := va_Tof (args := #[Value.ref b]) (s := s) (tm := (.static RX0 "LOWEST" "[I")) (ty := .int) (N := 8) (f := fun j => .int (lstA [0, 0, 0, 0, 1, 1, 0, 0] j)) (A := fun q => s.heap.size ≤ q) (by decide) (hs (.arrayOf (.static RX0 "LOWEST" "[I") .int) (by decide +kernel)) le0 (fun j hj => by
      rcases (show j = 0 ∨ j = 1 ∨ j = 2 ∨ j = 3 ∨ j = 4 ∨ j = 5 ∨ j = 6 ∨ j = 7 by omega) with rfl | rfl | rfl | rfl | rfl | rfl | rfl | rfl
      · exact va_eqt (hs (.eq (.elem (.static RX0 "LOWEST" "[I") (.int 0)) (.int 0)) (by decide +kernel))
      · exact va_eqt (hs (.eq (.elem (.static RX0 "LOWEST" "[I") (.int 1)) (.int 0)) (by decide +kernel))
      · exact va_eqt (hs (.eq (.elem (.static RX0 "LOWEST" "[I") (.int 2)) (.int 0)) (by decide +kernel))
      · exact va_eqt (hs (.eq (.elem (.static RX0 "LOWEST" "[I") (.int 3)) (.int 0)) (by decide +kernel))
      · exact va_eqt (hs (.eq (.elem (.static RX0 "LOWEST" "[I") (.int 4)) (.int 1)) (by decide +kernel))
      · exact va_eqt (hs (.eq (.elem (.static RX0 "LOWEST" "[I") (.int 5)) (.int 1)) (by decide +kernel))
      · exact va_eqt (hs (.eq (.elem (.static RX0 "LOWEST" "[I") (.int 6)) (.int 0)) (by decide +kernel))
      · exact va_eqt (hs (.eq (.elem (.static RX0 "LOWEST" "[I") (.int 7)) (.int 0)) (by decide +kernel))) hA
  have Z0 := va_Zof (A := fun q => s.heap.size ≤ q) (hts (.laysStatic RX0 "LOWEST" "[I") (by decide +kernel)) (hts (.initialized RX0) (by decide +kernel)) e0 hA
  have le1 : (Term.length (.static RX0 "HIGHEST" "[I")).eval #[Value.ref b] s none [] s = some (.int (Int32.ofNat 8)) := va_eqt (hs (.eq (.length (.static RX0 "HIGHEST" "[I")) (.int 8)) (by decide +kernel))
  obtain ⟨t1, e1, T1⟩ := va_Tof (args := #[Value.ref b]) (s := s) (tm := (.static RX0 "HIGHEST" "[I")) (ty := .int) (N := 8) (f := fun j => .int (lstA [9, 5, 5, 20, 20, 60, 9, 9] j)) (A := fun q => s.heap.size ≤ q) (by decide) (hs (.arrayOf (.static RX0 "HIGHEST" "[I") .int) (by decide +kernel)) le1 (fun j hj => by
      rcases (show j = 0 ∨ j = 1 ∨ j = 2 ∨ j = 3 ∨ j = 4 ∨ j = 5 ∨ j = 6 ∨ j = 7 by omega) with rfl | rfl | rfl | rfl | rfl | rfl | rfl | rfl
      · exact va_eqt (hs (.eq (.elem (.static RX0 "HIGHEST" "[I") (.int 0)) (.int 9)) (by decide +kernel))
      · exact va_eqt (hs (.eq (.elem (.static RX0 "HIGHEST" "[I") (.int 1)) (.int 5)) (by decide +kernel))
      · exact va_eqt (hs (.eq (.elem (.static RX0 "HIGHEST" "[I") (.int 2)) (.int 5)) (by decide +kernel))
      · exact va_eqt (hs (.eq (.elem (.static RX0 "HIGHEST" "[I") (.int 3)) (.int 20)) (by decide +kernel))
      · exact va_eqt (hs (.eq (.elem (.static RX0 "HIGHEST" "[I") (.int 4)) (.int 20)) (by decide +kernel))
      · exact va_eqt (hs (.eq (.elem (.static RX0 "HIGHEST" "[I") (.int 5)) (.int 60)) (by decide +kernel))
      · exact va_eqt (hs (.eq (.elem (.static RX0 "HIGHEST" "[I") (.int 6)) (.int 9)) (by decide +kernel))
      · exact va_eqt (hs (.eq (.elem (.static RX0 "HIGHEST" "[I") (.int 7)) (.int 9)) (by decide +kernel))) hA
  have Z1 := va_Zof (A := fun q => s.heap.size ≤ q) (hts (.laysStatic RX0 "HIGHEST" "[I") (by decide +kernel)) (hts (.initialized RX0) (by decide +kernel)) e1 hA
  have le2 : (Term.length (.static RX0 "AT_FIRST" "[I")).eval #[Value.ref b] s none [] s = some (.int (Int32.ofNat 8)) := va_eqt (hs (.eq (.length (.static RX0 "AT_FIRST" "[I")) (.int 8)) (by decide +kernel))
  obtain ⟨t2, e2, T2⟩ := va_Tof (args := #[Value.ref b]) (s := s) (tm := (.static RX0 "AT_FIRST" "[I")) (ty := .int) (N := 8) (f := fun j => .int (lstA [3, 2, 2, 4, 6, 20, 1, 2] j)) (A := fun q => s.heap.size ≤ q) (by decide) (hs (.arrayOf (.static RX0 "AT_FIRST" "[I") .int) (by decide +kernel)) le2 (fun j hj => by
      rcases (show j = 0 ∨ j = 1 ∨ j = 2 ∨ j = 3 ∨ j = 4 ∨ j = 5 ∨ j = 6 ∨ j = 7 by omega) with rfl | rfl | rfl | rfl | rfl | rfl | rfl | rfl
      · exact va_eqt (hs (.eq (.elem (.static RX0 "AT_FIRST" "[I") (.int 0)) (.int 3)) (by decide +kernel))
      · exact va_eqt (hs (.eq (.elem (.static RX0 "AT_FIRST" "[I") (.int 1)) (.int 2)) (by decide +kernel))
      · exact va_eqt (hs (.eq (.elem (.static RX0 "AT_FIRST" "[I") (.int 2)) (.int 2)) (by decide +kernel))
      · exact va_eqt (hs (.eq (.elem (.static RX0 "AT_FIRST" "[I") (.int 3)) (.int 4)) (by decide +kernel))
      · exact va_eqt (hs (.eq (.elem (.static RX0 "AT_FIRST" "[I") (.int 4)) (.int 6)) (by decide +kernel))
      · exact va_eqt (hs (.eq (.elem (.static RX0 "AT_FIRST" "[I") (.int 5)) (.int 20)) (by decide +kernel))
      · exact va_eqt (hs (.eq (.elem (.static RX0 "AT_FIRST" "[I") (.int 6)) (.int 1)) (by decide +kernel))
      · exact va_eqt (hs (.eq (.elem (.static RX0 "AT_FIRST" "[I") (.int 7)) (.int 2)) (by decide +kernel))) hA
  have Z2 := va_Zof (A := fun q => s.heap.size ≤ q) (hts (.laysStatic RX0 "AT_FIRST" "[I") (by decide +kernel)) (hts (.initialized RX0) (by decide +kernel)) e2 hA
  have le3 : (Term.length (.static RX4 "FORESEEN" "[I")).eval #[Value.ref b] s none [] s = some (.int (Int32.ofNat 6)) := va_eqt (hs (.eq (.length (.static RX4 "FORESEEN" "[I")) (.int 6)) (by decide +kernel))
  obtain ⟨t3, e3, T3⟩ := va_Tof (args := #[Value.ref b]) (s := s) (tm := (.static RX4 "FORESEEN" "[I")) (ty := .int) (N := 6) (f := fun j => .int (lstA [3, 4, 5, 9, 6, 7] j)) (A := fun q => s.heap.size ≤ q) (by decide) (hs (.arrayOf (.static RX4 "FORESEEN" "[I") .int) (by decide +kernel)) le3 (fun j hj => by
      rcases (show j = 0 ∨ j = 1 ∨ j = 2 ∨ j = 3 ∨ j = 4 ∨ j = 5 by omega) with rfl | rfl | rfl | rfl | rfl | rfl
      · exact va_eqt (hs (.eq (.elem (.static RX4 "FORESEEN" "[I") (.int 0)) (.int 3)) (by decide +kernel))
      · exact va_eqt (hs (.eq (.elem (.static RX4 "FORESEEN" "[I") (.int 1)) (.int 4)) (by decide +kernel))
      · exact va_eqt (hs (.eq (.elem (.static RX4 "FORESEEN" "[I") (.int 2)) (.int 5)) (by decide +kernel))
      · exact va_eqt (hs (.eq (.elem (.static RX4 "FORESEEN" "[I") (.int 3)) (.int 9)) (by decide +kernel))
      · exact va_eqt (hs (.eq (.elem (.static RX4 "FORESEEN" "[I") (.int 4)) (.int 6)) (by decide +kernel))
      · exact va_eqt (hs (.eq (.elem (.static RX4 "FORESEEN" "[I") (.int 5)) (.int 7)) (by decide +kernel))) hA
  have Z3 := va_Zof (A := fun q => s.heap.size ≤ q) (hts (.laysStatic RX4 "FORESEEN" "[I") (by decide +kernel)) (hts (.initialized RX4) (by decide +kernel)) e3 hA
  have hcell : ∃ cell : Cell, s.heap[t2]? = some cell ∧ cell.vm.isStatics = false ∧ cell.vm ≠ .unknown ∧ ({ cls := cell.cls, slots := cell.slots } : Cell) = vp_cell a0 (8, .inl (lstA [3, 2, 2, 4, 6, 20, 1, 2])) := by
    obtain ⟨cell, h1, h2, h3, h4, h5, h6, h7⟩ := T2
    obtain ⟨a, cE, cell2, kE, ha, hcE, hcell, hkE, hstE, hclsE, -⟩ := Cond.exactly_spec (hs (.exactly (.static RX0 "AT_FIRST" "[I") "[I") (by decide +kernel))
    have ea : a = t2 := Value.ref.inj (Option.some.inj (ha.symm.trans e2))
    subst ea
    have ec : cell2 = cell := Option.some.inj (hcell.symm.trans h1)
    subst ec
    have hsz := len_of (by decide) le2 e2 h1
    have enm : "[" ++ FieldType.int.toString = "[I" := by decide +kernel
    have hcl : cell2.cls = a0 := by
      rw [enm] at p0
      rw [hclsE]
      exact Option.some.inj (hcE.symm.trans p0)
    have hsl : cell2.slots = (arrV a0 8 (fun j => .int (lstA [3, 2, 2, 4, 6, 20, 1, 2] j))).slots := by
      apply Array.ext_getElem?
      intro j
      by_cases hj : j < 8
      · rw [h6 j hj, arrV_read _ _ hj]
      · rw [Array.getElem?_eq_none (by omega), Array.getElem?_eq_none (by rw [arrV_size]; omega)]
    refine ⟨cell2, h1, hstE, h3, ?_⟩
    rw [vp_cell_i, hcl, hsl]
    rfl
  obtain ⟨g, hg⟩ : ∃ g : GE, g = ((fun k => [c0, c1, c2, c3, c4].getD k c4, fun k => [i0, i1, i2, i3, i4].getD k i4), fun k => [a0, a1, a2, a3, a4].getD k a4, s.heap.size, fun k => [t0, t1, t2, t3, b].getD k b) := ⟨_, rfl⟩
  have hKc : ∀ (k : Nat) (q : vw_C), vwCl[k]? = some q → u_Kn s q.1 q.2.1 q.2.2 (g.1.1 k) (g.1.2 k) := by
    intro k q hq
    subst hg
    match k, hq with
    | 0, hq => cases hq; exact k0
    | 1, hq => cases hq; exact k1
    | 2, hq => cases hq; exact k2
    | 3, hq => cases hq; exact k3
    | 4, hq => cases hq; exact k4
    | k + 5, hq => simp [vwCl] at hq
  have hKa : ∀ (k : Nat) (q : ClassId × FieldType), (gT g)[k]? = some q → ArrOfT s q.1 q.2 ∧ va_RA s q.1 q.2 := by
    intro k q hq
    subst hg
    match k, hq with
    | 0, hq => cases hq; exact ⟨fun n z => ⟨fun k h => (by cases h), ka0, q0, co0, r0⟩, p0⟩
    | 1, hq => cases hq; exact ⟨fun n z => ⟨fun k h => (by cases h), ka1, q1, co1, r1⟩, p1⟩
    | 2, hq => cases hq; exact ⟨fun n z => ⟨fun k h => (by cases h), ka2, q2, co2, r2⟩, p2⟩
    | 3, hq => cases hq; exact ⟨fun n z => ⟨fun k h => (by cases h), ka3, q3, co3, r3⟩, ka3, co3, q3, r3, p3, u3⟩
    | 4, hq => cases hq; exact ⟨fun n z => ⟨fun k h => (by cases h), ka4, q4, co4, r4⟩, ka4, co4, q4, r4, p4, u4⟩
    | k + 5, hq => simp [gT] at hq
  have hSF : SF g s := by
    subst hg
    exact ⟨⟨Z0, T0⟩, ⟨Z1, T1⟩, ⟨Z2, T2⟩, ⟨Z3, T3⟩, hcell, L, xs, hL, hX, hbl, Nat.not_le.mpr hbl⟩
  have hNF : NF s := ⟨va_tabs rfl rfl (hts (.methodLinkNest RX0 44 yX1_init "BeltMarks") (by decide +kernel)), va_tabs rfl rfl (hts (.methodLinkNest RX4 36 yX3_init "BeltMarks") (by decide +kernel)), va_tabs rfl rfl (hts (.castable "[I" "java/lang/Cloneable") (by decide +kernel)), va_AO.of (hts (.arrayOver (.object RX0)) (by decide +kernel)), va_AO.of (hts (.arrayOver (.object RX1)) (by decide +kernel))⟩
  have hz : g.2.2.1 = s.heap.size := by rw [hg]
  have hC : CX (p, l, e, room_1, s, m, #[Value.ref b], below, meth, c, 5, lw_Z below #[Value.ref b] s) g cL_law wsL_law RL room_1 := ⟨hx, hb, hml, hown, fun w h => hts w (wsL_law_in w h), ⟨hKc, hKa⟩, Nat.le_of_eq hz, hSF, hNF, rfl⟩
  have hLX : LX (p, l, e, room_1, s, m, #[Value.ref b], below, meth, c, 5, lw_Z below #[Value.ref b] s) g := ⟨hC, rfl, hz, fun H ls => lw_ret hx hb hr hlocks dL_law_108⟩
  have hgb : g.2.2.2 4 = b := by rw [hg]; rfl
  have hl := lvo_sub (l' := lvo 0 [some (Value.ref (g.2.2.2 4)), none, none, none, none]) (lv_entry ([.ref b]) (n := 5) (Nat.le_of_ble_eq_true rfl)) (by rw [hgb]; simp [lvo, lv_args, Value.category])
  rw [lg_entry_eq]
  exact law_from hLX (ad := fun _ => 0) (f := fun _ => .inr (0, [])) s.heap [] _ (fun k q h => by simp [wl] at h) ⟨fun i j p q h => by simp [wl] at h, fun k q h => by simp [wl] at h⟩ va_S.rf hl
set_option maxHeartbeats 4000000 in
theorem lw_walk (l : Launch) (hflags : l.flags = flags0) (b : Addr) (xs : List Int32) : MetFree l x (headSpec (Jvm.Cond.code x code maxLocals ret :: tables_1) room_1) (lw_P b xs) (fun _ _ _ _ _ => True) lw_Q := by
  refine MetFree.of_bodyS (code := code) (maxLocals := maxLocals) (ret := ret) (by decide) ?_ ?_
  · intro args s m h hn
    obtain ⟨meth, c, h1, h2, h3, h4, h5, h6, -, -⟩ := Cond.code_spec hn (atoms_spec (ws := Jvm.Cond.code x code maxLocals ret :: tables_1) h _ List.mem_cons_self)
    exact ⟨meth, c, h1, h2, h3, h4, h5, h6⟩
  · intro p e s m args below meth c s₁ B hml0 hP _
    obtain ⟨rfl, hx, hbd, hgv⟩ := hP
    obtain ⟨scr, harrAt, hlist, hof, hsmall⟩ := hx
    obtain ⟨hcb, hkn, -, -⟩ := State.arrayAt?_spec harrAt
    have hown : s.vm.findClass R_law = some m.cls := findClass_of_methodNamed B.named
    have hts0 : ∀ c ∈ (Jvm.Cond.code x code maxLocals ret :: tables_1), c.before #[Value.ref b] s = true := atoms_spec (ws := Jvm.Cond.code x code maxLocals ret :: tables_1) B.pre
    have hts : ∀ w ∈ lw_tbl, w.before #[Value.ref b] s = true := k2_hts_sels lw_privs (fun w hw => hts0 w (List.mem_cons_of_mem _ hw)) lw_privs_ok
    have hml : c.maxLocals = 5 := B.maxLocals_eq (hts0 _ List.mem_cons_self)
    have X₀ : Stand p l e room_1 s m #[Value.ref b] below meth c s₁ [] 0 0 := Stand.of_body B
    have hh0 : s₁.heap = s.heap := by rw [B.state]; rfl
    have hsz : scr.slots.size = xs.length := by rw [← Array.length_toList, hlist, List.length_map]
    have hval : ∀ j : Nat, j < xs.length → scr.slots[j]? = some (.int (xs.getD j 0)) := fun j hj => by
      rw [← Array.getElem?_toList, hlist]
      simp [hj]
    have hbl : b < s.heap.size := (Array.getElem?_eq_some_iff.mp hcb).1
    have hX : va_X b xs.length (fun j => xs.getD j 0) s s.heap := ⟨scr, hcb, hof, hkn, hsz, hval⟩
    have K : W p l e room_1 s m #[Value.ref b] below meth c s₁.heap [] 0 0 (lw_Z below #[Value.ref b] s) (entryFrame m ([Value.ref b] : List Value).toArray 5) := by
      rw [hh0]
      exact whole_start l hflags hbd ⟨B.exec, B.bytes, B.returns, hml, hown, hts, hX, hbl, B.notSynchronized, hgv⟩
    obtain ⟨t, a1, o, b1, b2, b3⟩ := K s₁ rfl X₀
    exact ⟨t, o, a1, b1, b2, b3⟩
theorem lw_pre_spec {args : Array Value} {s : State} (h : (Jvm.Cond.and given_1 narrow_1).before args s = true) (hr : rest_1_c.before args s = true) : ∃ (b : Addr) (xs : List Int32), lw_P b xs args s := by
  have hs := flat_of_before _ h
  have hq := flat_of_before _ hr
  have hc : (Cond.count 1).before args s = true := hs _ (by decide +kernel)
  have harr : (Cond.arrayOf (.arg 0) .int).before args s = true := hs _ (by decide +kernel)
  have hle : (Cond.le (.length (.arg 0)) (.int 260)).before args s = true := hs _ (by decide +kernel)
  have hlen : (Cond.isInt (.length (.arg 0))).before args s = true := hq _ (by decide +kernel)
  have hall : (Cond.all (.arg 0) (.isInt (.elem (.arg 0) (.index 0)))).before args s = true := hq _ (by decide +kernel)
  obtain ⟨b, xs, hb, hx⟩ := State.ints_of_pre rfl harr hlen hall
  have hsm : xs.length < 2 ^ 31 := hx.choose_spec.2.2.2
  have hev : (Term.length (.arg 0)).eval args s none [] s = some (.int xs.length.toInt32) := hx.length_eval hb
  have hv := Cond.le_ints hev (show (Term.int 260).eval args s none [] s = some (.int 260) from rfl)
  have hd : xs.length.toInt32 ≤ 260 := by
    simpa [Cond.before, Cond.holds, hv] using hle
  have hN : xs.length ≤ 260 := (Int32.ofNat_le_ofNat hsm (by decide)).mp (show Int32.ofNat xs.length ≤ Int32.ofNat 260 from hd)
  exact ⟨b, xs, Cond.one_arg hc (show args[0]? = some (.ref b) from hb), hx, hN, h⟩
theorem lw_comes (l : Launch) (hflags : l.flags = flags0) : Comes l x (Jvm.Cond.code x code maxLocals ret :: tables_1) room_1 (fun tb e args s => Calls_1 tb e args s ∧ rest_1 tb e args s ∧ Pre_1 tb e args s)
    (fun _ _ args s o t => lw_Q args s o t) := by
  intro p e ha hc hk s m args below hf hfit hheap happ hpre
  obtain ⟨b, xs, hP⟩ := lw_pre_spec hpre.2.2 hpre.2.1
  obtain ⟨k, o, h1, h2, h3, hQ⟩ := lw_walk l hflags b xs p e ha hc hk s m args below hf ((Spec.applies_iff_loose hf).mp happ).1 hP trivial
  exact ⟨k, o, h1, h2, h3, hQ⟩
theorem lw_frame {s t : State} {o : Outcome} {args : Array Value} (h : Framed s o t [] 600000 7302250) :
    Framed s o t (fieldLocs frame_1_writes args s ++ arrayLocs frame_1_arrays args s ++ staticLocs frame_1_statics s) 600000 7302250 := h
theorem lw_limb (L : Cond) (hL : ∀ (args : Array Value) (s t : State), L.after args s (.returned (some (.int 1))) t = true) :
    ArmFor flags0 classFile x code maxLocals ret World_1 tables_1 room_1 Calls_1 rest_1 Pre_1
      (fun tb e a s o t => postC L tb e a s o t ∧ Framed s o t (fieldLocs frame_1_writes a s ++ arrayLocs frame_1_arrays a s ++ staticLocs frame_1_statics s) 600000 7302250) := by
  intro l hflags _ _ p e ha hc hk s m args below hf hfit hheap happ hpre
  obtain ⟨k, o, h1, h2, h3, rfl, hF⟩ := lw_comes l hflags p e ha hc hk s m args below hf hfit hheap happ hpre
  exact ⟨k, _, h1, h2, h3, hL args s _, lw_frame hF⟩
theorem i_vc : Claimed_1_1 ∧ Claimed_1_2 := ⟨lw_limb limb_1_1 (fun args s t => by simp [limb_1_1, Cond.after, Cond.holds, Cond.value]), lw_limb limb_1_2 (fun args s t => Cond.after_iff.mpr (by
  first | (rw [show limb_1_2 = Cond.eq .result (.int 1) from rfl, Cond.eq_ints (x := 1) (y := 1) rfl rfl]; simp; done) | (simp [limb_1_2, Cond.value, Term.eval]; done)))⟩
