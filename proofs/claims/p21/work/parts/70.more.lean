section
variable {E : EV} {g : GE} {N : Nat} {ad : Nat → Nat} {ce sl : Nat} {f : Nat → va_E} {pc : Nat} {lo : List (Option Value)} {st : List Value} {cc : ByteArray} {Ts : List Cond} {own : String} {rm : Room}
theorem V_ishr (hC : CX E g cc Ts own rm) {x y : Int32} (hd : decode cc pc = .ok (.ishr, 1)) (k : V E g N ad ce sl f (pc + 1) lo (.int (x >>> (y &&& 31)) :: st)) : V E g N ad ce sl f pc lo (.int y :: .int x :: st) := by
  intro H locs ls hP hD hS hl
  exact lv_ishr hC.1 hC.2.1 hd (k H locs ls hP hD hS hl)
theorem V_ldc (hC : CX E g cc Ts own rm) {index : Nat} {v : Int32} (hd : decode cc pc = .ok (.ldc index, 2)) (hw : Cond.constant own index v ∈ Ts) (k : V E g N ad ce sl f (pc + 2) lo (.int v :: st)) : V E g N ad ce sl f pc lo st := by
  intro H locs ls hP hD hS hl
  exact lv_ldc hC.1 hC.2.1 hC.2.2.2.1 (hC.2.2.2.2.1 _ hw) hd (k H locs ls hP hD hS hl)
theorem V_istore8 (hC : CX E g cc Ts own rm) {x : Int32} {v0 v1 v2 v3 v4 v5 v6 v7 v8 : Option Value} {t : List (Option Value)} (hd : decode cc pc = .ok (.istore 8, 2)) (hn : 8 < eN E) (hc : c1 v7 = true) (kk : V E g N ad ce sl f (pc + 2) (v0 :: v1 :: v2 :: v3 :: v4 :: v5 :: v6 :: v7 :: some (.int x) :: t) st) : V E g N ad ce sl f pc (v0 :: v1 :: v2 :: v3 :: v4 :: v5 :: v6 :: v7 :: v8 :: t) (.int x :: st) := by
  intro H locs ls hP hD hS hl
  exact lv_istore hC.1 hC.2.1 hd hl hn rfl (fun ls hl2 => kk H locs ls hP hD hS (lvo_sub hl2 (lvo_put hl 8 _ (fun v _ h => by have h : v7 = some v := (by simpa using h); subst h; simpa [c1] using hc))))
theorem V_istore9 (hC : CX E g cc Ts own rm) {x : Int32} {v0 v1 v2 v3 v4 v5 v6 v7 v8 v9 : Option Value} {t : List (Option Value)} (hd : decode cc pc = .ok (.istore 9, 2)) (hn : 9 < eN E) (hc : c1 v8 = true) (kk : V E g N ad ce sl f (pc + 2) (v0 :: v1 :: v2 :: v3 :: v4 :: v5 :: v6 :: v7 :: v8 :: some (.int x) :: t) st) : V E g N ad ce sl f pc (v0 :: v1 :: v2 :: v3 :: v4 :: v5 :: v6 :: v7 :: v8 :: v9 :: t) (.int x :: st) := by
  intro H locs ls hP hD hS hl
  exact lv_istore hC.1 hC.2.1 hd hl hn rfl (fun ls hl2 => kk H locs ls hP hD hS (lvo_sub hl2 (lvo_put hl 9 _ (fun v _ h => by have h : v8 = some v := (by simpa using h); subst h; simpa [c1] using hc))))
theorem V_xlen (hC : CX E g cc Ts own rm) {n : Nat} {xs : Nat → Int32} (hX : va_X (g.2.2.2 4) n xs (eS E) (eS E).heap) (hb : g.2.2.2 4 < (eS E).heap.size) (hA : ¬ gA g (g.2.2.2 4)) (hd : decode cc pc = .ok (.arraylength, 1)) (kk : V E g N ad ce sl f (pc + 1) lo (.int (nI n) :: st)) : V E g N ad ce sl f pc lo (.ref (g.2.2.2 4) :: st) := by
  intro H locs ls hP hD hS hl
  exact va_slen hC.1 hC.2.1 hX hb hA hS hd (kk H locs ls hP hD hS hl)
theorem V_xld (hC : CX E g cc Ts own rm) {n : Nat} {xs : Nat → Int32} (hX : va_X (g.2.2.2 4) n xs (eS E) (eS E).heap) (hb : g.2.2.2 4 < (eS E).heap.size) (hA : ¬ gA g (g.2.2.2 4)) {i : Int32} (hi : vp_in i n) (hd : decode cc pc = .ok (.iaload, 1)) (kk : ∀ v : Int32, V E g N ad ce sl f (pc + 1) lo (.int v :: st)) : V E g N ad ce sl f pc lo (.int i :: .ref (g.2.2.2 4) :: st) := by
  intro H locs ls hP hD hS hl
  exact va_sld hC.1 hC.2.1 hX hb hA hS hi hd (kk _ H locs ls hP hD hS hl)
end
