section
variable {E : EV} {g : GE} {N : Nat} {ad : Nat → Nat} {ce sl : Nat} {f : Nat → va_E} {pc : Nat} {lo : List (Option Value)} {st : List Value} {cc : ByteArray} {Ts : List Cond} {own : String} {rm : Room}
theorem cls_eq {U : State} {cA cB : ClassId} {ty : FieldType} (h1 : va_RA U cA ty) (h2 : va_RA U cB ty) : cA = cB := by
  cases ty with
  | object C =>
    obtain ⟨_, _, _, _, _, a⟩ := h1
    obtain ⟨_, _, _, _, _, b⟩ := h2
    exact Option.some.inj (a.symm.trans b)
  | _ => exact Option.some.inj ((show U.vm.findClass _ = some cA from h1).symm.trans (show U.vm.findClass _ = some cB from h2))
theorem V_objInit (hC : CX E g cc Ts own rm) {i index : Nat} (hd : decode cc pc = .ok (.invokespecial index, 3)) (hw1 : Cond.methodLink own index objectInit ∈ Ts) (hw2 : Cond.instanceMethod objectInit ∈ Ts) (hw3 : Cond.code objectInit ⟨#[0xb1]⟩ 1 none ∈ Ts) (hR : 1 ≤ rm.frames) (hR2 : (st.map fun v => v.category).sum + 12 ≤ rm.locals) (kk : V E g N ad ce sl f (pc + 3) lo st) : V E g N ad ce sl f pc lo (.ref (ad i) :: st) := by
  intro H locs ls hP hD hS hl
  obtain ⟨c1, c2, c3, c4, c5, c6, c7, c8, c9, c10⟩ := hC
  refine W.objInit c1 c2 c4 (c5 _ hw1) (c5 _ hw2) (c5 _ hw3) (g := F0 (eM E) pc ls (.ref (ad i) :: st)) rfl (by rw [c3]; exact hl.1) rfl hd (by rw [c10]; exact hR) (by rw [c10]; show 2 * 0 + _ + 12 ≤ _; omega) ?_
  exact W.eq (g2 := F0 (eM E) (pc + 3) ls st) rfl (kk H locs ls hP hD hS hl)
theorem V_new (hC : CX E g cc Ts own rm) {ci index Nf : Nat} {C : String} {T : u_T} {fs : List Value} (ty : Nat → FieldType) (hty : ∀ k, k < Nf → parseFieldDescriptor (T k).2.2.1 = some (ty k)) (hd : decode cc pc = .ok (.new index, 3)) (hin : ∀ w ∈ u_ws C T Nf, w ∈ Ts) (hw1 : Cond.classLink own index C ∈ Ts) (hw2 : Cond.instantiable C Nf ∈ Ts) (hw3 : Cond.initialized C ∈ Ts) (hc : vwCl[ci]? = some (C, T, Nf)) (hfs : ∀ j, j < Nf → defaultValue (ty j) = vp_V fs j) (h1 : ce + 1 ≤ rm.cells) (h2 : sl + Nf ≤ rm.slots)
    (kk : ∀ ad2 : Nat → Nat, (∀ i, i < N → ad2 i = ad i) → V E g (N + 1) ad2 (ce + 1) (sl + Nf) (va_up f N (.inr (ci, fs))) (pc + 3) lo (.ref (ad2 N) :: st)) : V E g N ad ce sl f pc lo st := by
  intro H locs ls hP hD hS hl
  obtain ⟨c1, c2, c3, c4, c5, c6, c7, c8, c9, c10⟩ := hC
  refine va_new c1 c2 c5 hin ty hty c4 (c5 _ hw1) (c5 _ hw2) (c5 _ hw3) c6 hP hD hS (fun q h => Nat.le_trans c7 h) hc hfs (by rw [c10]; exact h1) (by rw [c10]; exact h2) hd (fun q H1 hP1 hD1 hS1 => ?_)
  rw [wl_push] at hP1 hD1
  have w := kk (va_up ad N q) (fun i hi => va_up_ne _ _ (by omega)) H1 locs ls hP1 hD1 hS1 hl
  rw [va_up_self] at w
  exact w
theorem V_newa (hC : CX E g cc Ts own rm) {t0 n : Nat} {v : Int32} {atype : ArrayType} {ty : FieldType} {cA : ClassId} {a0 : vp_A} (hd : decode cc pc = .ok (.newarray atype, 2)) (hty : newarray.typeOf atype = ty) (hw : Cond.arrayClass (newarray.typeOf atype) ∈ Ts) (ht : (gT g)[t0]? = some (cA, ty)) (ha : ∀ cA : ClassId, vp_cell cA a0 = arrV cA n (fun _ => defaultValue ty)) (hn : ¬ v < 0) (hN : v.toNatClampNeg = n) (hb : n * componentBytes ty ≤ 536870912) (h1 : ce + 1 ≤ rm.cells) (h2 : sl + n ≤ rm.slots)
    (kk : ∀ ad2 : Nat → Nat, (∀ i, i < N → ad2 i = ad i) → V E g (N + 1) ad2 (ce + 1) (sl + n) (va_up f N (.inl (cA, a0))) (pc + 2) lo (.ref (ad2 N) :: st)) : V E g N ad ce sl f pc lo (.int v :: st) := by
  intro H locs ls hP hD hS hl
  obtain ⟨c1, c2, c3, c4, c5, c6, c7, c8, c9, c10⟩ := hC
  refine va_newa c1 c2 (c5 _ hw) hty c6 hP hD hS (fun q h => Nat.le_trans c7 h) ha hn hN hb (by rw [c10]; exact h1) (by rw [c10]; exact h2) hd (fun q cB H1 hK1 hP1 hD1 hS1 => ?_)
  have e : cB = cA := cls_eq (hK1.2 (gT g).length (cB, ty) (by simp)).2 (c6.2 t0 (cA, ty) ht).2
  subst e
  rw [wl_push] at hP1 hD1
  have w := kk (va_up ad N q) (fun i hi => va_up_ne _ _ (by omega)) H1 locs ls hP1 hD1 hS1 hl
  rw [va_up_self] at w
  exact w
theorem V_newq (hC : CX E g cc Ts own rm) {t0 n index : Nat} {v : Int32} {C : String} {cA : ClassId} (hd : decode cc pc = .ok (.anewarray index, 3)) (hw : Cond.classLink own index C ∈ Ts) (ht : (gT g)[t0]? = some (cA, .object C)) (hao : va_AO C (eS E)) (hn : ¬ v < 0) (hN : v.toNatClampNeg = n) (hb : n * 4 ≤ 536870912) (h1 : ce + 1 ≤ rm.cells) (h2 : sl + n ≤ rm.slots)
    (kk : ∀ ad2 : Nat → Nat, (∀ i, i < N → ad2 i = ad i) → V E g (N + 1) ad2 (ce + 1) (sl + n) (va_up f N (.inl (cA, n, .inr (.inr (.inr (.inr (fun _ => none))))))) (pc + 3) lo (.ref (ad2 N) :: st)) : V E g N ad ce sl f pc lo (.int v :: st) := by
  intro H locs ls hP hD hS hl
  obtain ⟨c1, c2, c3, c4, c5, c6, c7, c8, c9, c10⟩ := hC
  refine va_newq c1 c2 c4 (c5 _ hw) hao c6 hP hD hS (fun q h => Nat.le_trans c7 h) hn hN hb (by rw [c10]; exact h1) (by rw [c10]; exact h2) hd (fun q cB H1 hK1 hP1 hD1 hS1 => ?_)
  have e : cB = cA := cls_eq (hK1.2 (gT g).length (cB, .object C) (by simp)).2 (c6.2 t0 (cA, .object C) ht).2
  subst e
  rw [wl_push] at hP1 hD1
  have w := kk (va_up ad N q) (fun i hi => va_up_ne _ _ (by omega)) H1 locs ls hP1 hD1 hS1 hl
  rw [va_up_self] at w
  exact w
theorem V_castI (hC : CX E g cc Ts own rm) {i index : Nat} {x : vp_A} (hd : decode cc pc = .ok (.checkcast index, 3)) (hw : Cond.classLink own index "[I" ∈ Ts) (hi : i < N) (hf : f i = .inl (g.2.1 0, x)) (kk : V E g N ad ce sl f (pc + 3) lo (.ref (ad i) :: st)) : V E g N ad ce sl f pc lo (.ref (ad i) :: st) := by
  intro H locs ls hP hD hS hl
  obtain ⟨c1, c2, c3, c4, c5, c6, c7, c8, c9, c10⟩ := hC
  exact va_castA c1 c2 c4 (c5 _ hw) hP i (by rw [wl_get hi, hf]) (c6.2 0 _ rfl).2 hd (kk H locs ls hP hD hS hl)
/-- an array holds what stands below its length -/
theorem V_arr {i : Nat} {cA : ClassId} {x y : vp_A} (hi : i < N) (hf : f i = .inl (cA, x)) (he : vp_cell cA x = vp_cell cA y) (kk : V E g N ad ce sl (va_up f i (.inl (cA, y))) pc lo st) : V E g N ad ce sl f pc lo st := by
  intro H locs ls hP hD hS hl
  refine kk H locs ls ?_ ?_ hS hl
  · rw [← wl_set hi]
    intro k q hk
    rw [List.getElem?_set] at hk
    split at hk
    · rename_i hik
      subst hik
      split at hk
      · cases hk
        have w := hP i _ (wl_get hi)
        rw [hf] at w
        show H[ad i]? = some (vp_cell cA y)
        rw [← he]
        exact w
      · cases hk
    · exact hP k q hk
  · rw [← wl_set hi]
    have key : ∀ (k : Nat) (q : Nat × va_E), ((wl N ad f).set i (ad i, .inl (cA, y)))[k]? = some q → ∃ e, (wl N ad f)[k]? = some (q.1, e) := by
      intro k q hk
      rw [List.getElem?_set] at hk
      split at hk
      · rename_i hik
        subst hik
        split at hk
        · cases hk
          exact ⟨_, wl_get hi⟩
        · cases hk
      · exact ⟨q.2, hk⟩
    refine ⟨fun a b p q ha hb e => ?_, fun k q hk => ?_⟩
    · obtain ⟨e1, h1⟩ := key a p ha
      obtain ⟨e2, h2⟩ := key b q hb
      exact hD.1 a b _ _ h1 h2 e
    · obtain ⟨e1, h1⟩ := key k q hk
      exact hD.2 k (q.1, e1) h1
def pC (N : Nat) (ad : Nat → Nat) (P : Nat → (Nat → Nat) → (Nat → va_E) → Prop) : Option Value → Nat → (Nat → Nat) → (Nat → va_E) → Prop := fun r N' ad' u => r = none ∧ (∀ i, i < N → ad' i = ad i) ∧ P N' ad' u
theorem V_ci (hC : CX E g cc Ts own rm) {y : MethodName} {ws ws' : List Cond} {rm2 : Room} {mc ms i index maxL : Nat} {rest : List Value} {bytes : ByteArray} {P : Nat → (Nat → Nat) → (Nat → va_E) → Prop}
    (hM : Ct g (eL E) y ws rm2 N ad [.ref (ad i)] f (pC N ad P) mc ms) (hd : decode cc pc = .ok (.invokespecial index, 3)) (hG : GoodIn Ts ws) (hw1 : Cond.initialized y.cls ∈ Ts) (hw2 : Cond.methodLink own index y ∈ Ts) (hw3 : Cond.instanceMethod y ∈ Ts) (hst : st = .ref (ad i) :: rest) (hy1 : y.name = "<init>") (hw : ws = Cond.code y bytes maxL none :: ws') (hrc : rm2.cells = mc ∧ rm2.slots = ms) (hd2 : y.cls ≠ "java/lang/invoke/MethodHandle" ∧ y.cls ≠ "java/lang/invoke/VarHandle" ∧ (parseMethodDescriptor y.desc).map (fun d => d.parameters.length) = some 0)
    (hR : rm2.frames + 1 ≤ rm.frames ∧ 8 + (maxL + 11) + rm2.locals ≤ rm.locals) (hcat : (rest.map fun v => v.category).sum ≤ 8) (hf2 : ce + mc ≤ rm.cells ∧ sl + ms ≤ rm.slots) (kk : ∀ (N' : Nat) (ad' : Nat → Nat) (u : Nat → va_E), (∀ i, i < N → ad' i = ad i) → P N' ad' u → V E g N' ad' (ce + mc) (sl + ms) u (pc + 3) lo rest) : V E g N ad ce sl f pc lo st := by
  have hC0 := hC
  obtain ⟨c1, c2, c3, c4, c5, c6, c7, c8, c9, c10⟩ := hC
  subst c10
  refine V_run (post := pC N ad P) (mc := mc) (ms := ms) (rest := rest) (a := #[Value.ref (ad i)]) hC0 (fun H locs ls hP hD hS hsz => ?_) (fun r N' ad' u h => ?_)
  · exact va_runI (As := []) (rest := rest) ⟨c1, c2, c3, c4, c5⟩ hM (cwI 0 c5 hG hw hrc.1 hrc.2 (c5 _ hw1) (c5 _ hw2) (c5 _ hw3) hy1 hd2 hR) ⟨WC.blind, fun U hU hW => ⟨rfl, WC.at hC0 hP hD hS hU hW⟩⟩ rfl rfl hsz (by rw [hst]; rfl) (lv_room hcat) hd hf2
  · obtain ⟨rfl, h1, h2⟩ := h
    exact kk N' ad' u h1 h2
theorem V_ciN (hC : CX E g cc Ts own rm) {y : MethodName} {host : String} {ws ws' : List Cond} {rm2 : Room} {mc ms i index maxL : Nat} {rest : List Value} {bytes : ByteArray} {P : Nat → (Nat → Nat) → (Nat → va_E) → Prop}
    (hM : Ct g (eL E) y ws rm2 N ad [.ref (ad i)] f (pC N ad P) mc ms) (hl : va_Nw (.methodLinkNest own index y host) (eS E)) (hd : decode cc pc = .ok (.invokespecial index, 3)) (hG : GoodIn Ts ws) (hw1 : Cond.initialized y.cls ∈ Ts) (hw3 : Cond.instanceMethod y ∈ Ts) (hst : st = .ref (ad i) :: rest) (hy1 : y.name = "<init>") (hw : ws = Cond.code y bytes maxL none :: ws') (hrc : rm2.cells = mc ∧ rm2.slots = ms) (hd2 : y.cls ≠ "java/lang/invoke/MethodHandle" ∧ y.cls ≠ "java/lang/invoke/VarHandle" ∧ (parseMethodDescriptor y.desc).map (fun d => d.parameters.length) = some 0)
    (hR : rm2.frames + 1 ≤ rm.frames ∧ 8 + (maxL + 11) + rm2.locals ≤ rm.locals) (hcat : (rest.map fun v => v.category).sum ≤ 8) (hf2 : ce + mc ≤ rm.cells ∧ sl + ms ≤ rm.slots) (kk : ∀ (N' : Nat) (ad' : Nat → Nat) (u : Nat → va_E), (∀ i, i < N → ad' i = ad i) → P N' ad' u → V E g N' ad' (ce + mc) (sl + ms) u (pc + 3) lo rest) : V E g N ad ce sl f pc lo st := by
  have hC0 := hC
  obtain ⟨c1, c2, c3, c4, c5, c6, c7, c8, c9, c10⟩ := hC
  subst c10
  refine V_run (post := pC N ad P) (mc := mc) (ms := ms) (rest := rest) (a := #[Value.ref (ad i)]) hC0 (fun H locs ls hP hD hS hsz => ?_) (fun r N' ad' u h => ?_)
  · exact va_runIN (As := []) (rest := rest) ⟨c1, c2, c3, c4, c5⟩ hM ⟨va_cnB 0 c5 hG hw hrc.1 hrc.2 hl (c5 _ hw1) hd2 hR, hy1, c5 _ hw3⟩ ⟨WC.blind, fun U hU hW => ⟨rfl, WC.at hC0 hP hD hS hU hW⟩⟩ rfl rfl hsz (by rw [hst]; rfl) (lv_room hcat) hd hf2
  · obtain ⟨rfl, h1, h2⟩ := h
    exact kk N' ad' u h1 h2
theorem fits_arr {cA : ClassId} {n : Nat} {a : Nat → Int32} {i : Nat} {v : Value} (h : (arrV cA n (fun j => .int (a j))).slots[i]? = some v) : fits .int v = true := by
  have hs : i < (arrV cA n (fun j => Value.int (a j))).slots.size := (Array.getElem?_eq_some_iff.mp h).1
  rw [arrV_size] at hs
  rw [arrV_read _ _ hs] at h
  cases h
  rfl
theorem V_clone (hC : CX E g cc Ts own rm) {index : Nat} (hd : decode cc pc = .ok (.invokevirtual index, 3)) (hw1 : Cond.methodLink own index ⟨"[I", "clone", "()Ljava/lang/Object;"⟩ ∈ Ts) (hw2 : Cond.sameMethod "[I" "java/lang/Object" "clone" "()Ljava/lang/Object;" ∈ Ts) (hw3 : Cond.native ⟨"java/lang/Object", "clone", "()Ljava/lang/Object;"⟩ ∈ Ts) (hw4 : Cond.instanceMethod ⟨"java/lang/Object", "clone", "()Ljava/lang/Object;"⟩ ∈ Ts) (hw5 : Cond.selects "[I" ⟨"[I", "clone", "()Ljava/lang/Object;"⟩ ⟨"java/lang/Object", "clone", "()Ljava/lang/Object;"⟩ ∈ Ts) (hR : 1 ≤ rm.frames) (hR2 : (st.map fun v => v.category).sum + 14 ≤ rm.locals) (h1 : ce + 1 ≤ rm.cells) (h2 : sl + 8 ≤ rm.slots)
    (kk : ∀ ad2 : Nat → Nat, (∀ i, i < N → ad2 i = ad i) → V E g (N + 1) ad2 (ce + 1) (sl + 8) (va_up f N (.inl (g.2.1 0, 8, .inl (lstA [3, 2, 2, 4, 6, 20, 1, 2])))) (pc + 3) lo (.ref (ad2 N) :: st)) : V E g N ad ce sl f pc lo (.ref (g.2.2.2 2) :: st) := by
  intro H locs ls hP hD hS hl
  obtain ⟨c1, c2, c3, c4, c5, c6, c7, c8, c9, c10⟩ := hC
  obtain ⟨cell, hcell, hstt, hunk, hce⟩ := c8.2.2.2.2.1
  obtain ⟨cell0, k1, k2, k3, k4, k5, k6, k7⟩ := c8.2.2.1.2
  have hlt : g.2.2.2 2 < (eS E).heap.size := (Array.getElem?_eq_some_iff.mp k1).1
  have hcH : H[g.2.2.2 2]? = some cell := by rw [hS.2.1 _ hlt k7]; exact hcell
  have hcl0 : cell.cls = g.2.1 0 := by
    have w := congrArg Cell.cls hce
    exact w
  have hsl0 : cell.slots = (vp_cell (g.2.1 0) (8, .inl (lstA [3, 2, 2, 4, 6, 20, 1, 2]))).slots := by
    have w := congrArg Cell.slots hce
    exact w
  have hsz : cell.slots.size = 8 := by rw [hsl0]; exact arrV_size _ _ _
  have hnm : (eS E).vm.findClass "[I" = some (g.2.1 0) := (c6.2 0 _ rfl).2
  obtain ⟨c0, t0', f1, f2, f3⟩ := Cond.castable_spec (va_Nw.use (A := eA E) rfl c9.2.2.1)
  have f0 : c0 = g.2.1 0 := Option.some.inj (f1.symm.trans hnm)
  rw [f0] at f3
  intro T hT X
  have hcellT : T.heap[g.2.2.2 2]? = some cell := by rw [hT]; exact hcH
  obtain ⟨-, kA, hkA, comp, hkind⟩ := State.isArrayOf_alike X.warmed.alike ((c6.2 0 _ rfl).1 0 (fun _ => .null))
  obtain ⟨-, kS, hkS, compS, hkindS⟩ := (c6.2 0 _ rfl).1 0 (fun _ => .null)
  obtain ⟨vm', X', st2⟩ := X.cloneArray c1 c4 (c5 _ hw1) (c5 _ hw2) (c5 _ hw3) (c5 _ hw4) (c5 _ hw5) (a := g.2.2.2 2) (cell := cell) hcellT (fun k h => by rw [h] at hstt; cases hstt) hunk (by rw [hcl0]; exact hnm) f2 (by rw [hcl0]; exact f3)
    (fun i v hv => by
      rw [hcl0]
      have hk' : T.vm.classes[g.2.1 0]? = some kA := hkA
      have hfit : fits .int v = true := by
        rw [hsl0, vp_cell_i] at hv
        exact fits_arr hv
      simpa [State.fitsSlot, State.slotType?, hk', hkind] using hfit)
    (g := F0 (eM E) pc ls (.ref (g.2.2.2 2) :: st)) rfl (c3.trans hl.1.symm).symm rfl (by rw [c2]; exact hd) (by rw [c10]; exact hR) (by rw [c10]; show 2 * 0 + _ + 14 ≤ _; omega) (by rw [c10]; exact h1) (by rw [hsz, c10]; exact h2) (hloader := by rw [hcl0]; exact Vm.clonesLoader_of_array hkS hkindS)
  rw [hce, hsz] at X'
  generalize hH1 : H.push (vp_cell (g.2.1 0) (8, .inl (lstA [3, 2, 2, 4, 6, 20, 1, 2]))) = H1
  have z1 : H1.size = H.size + 1 := by rw [← hH1, Array.size_push]
  have e1 : H1[H.size]? = some (vp_cell (g.2.1 0) (8, .inl (lstA [3, 2, 2, 4, 6, 20, 1, 2]))) := by rw [← hH1, Array.getElem?_push_size]
  have o1 : ∀ q : Nat, q < H.size → H1[q]? = H[q]? := fun q hq => by rw [← hH1, Array.getElem?_push, if_neg (Nat.ne_of_lt hq)]
  have hk : ∀ (k : Nat) (y : Nat × va_E), (wl N ad f)[k]? = some y → H1[y.1]? = H[y.1]? := fun k y hy => o1 y.1 ((hP k y hy).lt)
  have hP3 : va_P g.1 vwCl (wl N ad f ++ [(H.size, .inl (g.2.1 0, 8, .inl (lstA [3, 2, 2, 4, 6, 20, 1, 2])))]) H1 := (hP.kept hk).app (fun k y hy => by
    have hz : k < 1 := (List.getElem?_eq_some_iff.mp hy).1
    rw [show k = 0 by omega] at hy
    cases hy
    exact e1)
  have hD3 : va_D (gA g) (wl N ad f ++ [(H.size, .inl (g.2.1 0, 8, .inl (lstA [3, 2, 2, 4, 6, 20, 1, 2])))]) := hD.push hP rfl (Nat.le_trans c7 hS.1)
  have hS3 : va_S (gA g) (eS E).heap H1 locs := ⟨Nat.le_trans hS.1 (by omega), fun y h1 h2 => (o1 y (Nat.lt_of_lt_of_le h1 hS.1)).trans (hS.2.1 y h1 h2), hS.2.2⟩
  rw [wl_push] at hP3 hD3
  have w := kk (va_up ad N H.size) (fun i hi => va_up_ne _ _ (by omega)) H1 locs ls hP3 hD3 hS3 hl
  rw [va_up_self] at w
  obtain ⟨t, b1, b2⟩ := w ((T.setVm vm').pushCell (vp_cell (g.2.1 0) (8, .inl (lstA [3, 2, 2, 4, 6, 20, 1, 2])))) (by rw [← hH1, ← hT]; rfl) X'
  refine ⟨t, st2 t ?_, b2⟩
  rw [hce, hT]
  exact b1
end
