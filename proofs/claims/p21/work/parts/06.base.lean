/-! worlds by code numbers: cell i stands at the address ad i and holds f i -/
def wl (N : Nat) (ad : Nat → Nat) (f : Nat → va_E) : va_W := (List.range N).map (fun i => (ad i, f i))
theorem wl_get {N : Nat} {ad : Nat → Nat} {f : Nat → va_E} {i : Nat} (h : i < N) : (wl N ad f)[i]? = some (ad i, f i) := by simp [wl, h]
theorem wl_set {N : Nat} {ad : Nat → Nat} {f : Nat → va_E} {i : Nat} {e : va_E} (h : i < N) : (wl N ad f).set i (ad i, e) = wl N ad (va_up f i e) := by
  apply List.ext_getElem?
  intro k
  rw [List.getElem?_set]
  by_cases hk : i = k
  · subst hk
    simp [wl, h, va_up]
  · simp only [hk, if_false]
    by_cases hN : k < N
    · rw [wl_get hN, wl_get hN]
      simp [va_up, Ne.symm hk]
    · simp [wl, hN]
theorem wl_push {N : Nat} {ad : Nat → Nat} {f : Nat → va_E} {q : Nat} {e : va_E} : wl N ad f ++ [(q, e)] = wl (N + 1) (va_up ad N q) (va_up f N e) := by
  unfold wl
  rw [List.range_succ, List.map_append]
  congr 1
  · apply List.map_congr_left
    intro i hi
    have h := List.mem_range.mp hi
    have h2 : i ≠ N := by omega
    simp [va_up, h2]
  · simp [va_up]
def ix (i : Int32) (k n : Nat) : Prop := vp_in i n ∧ i.toNatClampNeg = k
theorem ix_nI {j n : Nat} (h : j < n) (hn : n < 2 ^ 31) : ix (nI j) j n := ⟨vp_in_nI h hn, nI_clamp (Nat.lt_trans h hn)⟩
theorem ix_of {i : Int32} {j n : Nat} (e : i = nI j) (h : j < n) (hn : n < 2 ^ 31) : ix i j n := by rw [e]; exact ix_nI h hn
theorem ix_c {i : Int32} {k n : Nat} (h : (decide (¬ (i < 0 ∨ n ≤ i.toNatClampNeg)) && decide (i.toNatClampNeg = k)) = true) : ix i k n := by
  simp only [Bool.and_eq_true, decide_eq_true_eq] at h
  exact h
/-! what is the same all along: the classes' numbers and slots, the array classes, where the law's own cells begin, the static arrays -/
abbrev GE : Type := va_G × (Nat → ClassId) × Nat × (Nat → Nat)
def gT (g : GE) : List (ClassId × FieldType) := [(g.2.1 0, .int), (g.2.1 1, .char), (g.2.1 2, .boolean), (g.2.1 3, .object RX0), (g.2.1 4, .object RX1)]
def gA (g : GE) : Nat → Prop := fun q => g.2.2.1 ≤ q
def lstA (l : List Int32) : Nat → Int32 := fun j => l.getD j 0
def SF1 (g : GE) (k : Nat) (C n : String) (N : Nat) (l : List Int32) (U : State) : Prop := va_Z C n "[I" (.ref (g.2.2.2 k)) (gA g) U U.heap ∧ va_T .int (g.2.2.2 k) N (fun j => .int (lstA l j)) (gA g) U U.heap
/-- the law's script: an array of at most 260 ints at the place 4, outside of all worlds -/
def SX (g : GE) (U : State) : Prop := ∃ (n : Nat) (xs : Nat → Int32), n ≤ 260 ∧ va_X (g.2.2.2 4) n xs U U.heap ∧ g.2.2.2 4 < U.heap.size ∧ ¬ gA g (g.2.2.2 4)
theorem SX.go {g : GE} {u U : State} (h : SX g u) (hvm : u.vm.Alike U.vm) (hq : ∀ a : Nat, a < u.heap.size → ¬ gA g a → U.heap[a]? = u.heap[a]?) : SX g U := by
  obtain ⟨n, xs, h1, h2, h3, h4⟩ := h
  have e := hq _ h3 h4
  refine ⟨n, xs, h1, (h2.kept e).moved hvm, ?_, h4⟩
  obtain ⟨scr, k1, -⟩ := h2
  rw [k1] at e
  exact (Array.getElem?_eq_some_iff.mp e).1
def SF (g : GE) (U : State) : Prop := SF1 g 0 RX0 "LOWEST" 8 [0, 0, 0, 0, 1, 1, 0, 0] U ∧ SF1 g 1 RX0 "HIGHEST" 8 [9, 5, 5, 20, 20, 60, 9, 9] U ∧ SF1 g 2 RX0 "AT_FIRST" 8 [3, 2, 2, 4, 6, 20, 1, 2] U ∧ SF1 g 3 RX4 "FORESEEN" 6 [3, 4, 5, 9, 6, 7] U ∧ (∃ cell : Cell, U.heap[g.2.2.2 2]? = some cell ∧ cell.vm.isStatics = false ∧ cell.vm ≠ .unknown ∧ ({ cls := cell.cls, slots := cell.slots } : Cell) = vp_cell (g.2.1 0) (8, .inl (lstA [3, 2, 2, 4, 6, 20, 1, 2]))) ∧ SX g U
def NF (U : State) : Prop := va_Nw (.methodLinkNest RX0 44 yX1_init "BeltMarks") U ∧ va_Nw (.methodLinkNest RX4 36 yX3_init "BeltMarks") U ∧ va_Nw (.castable "[I" "java/lang/Cloneable") U ∧ va_AO RX0 U ∧ va_AO RX1 U
theorem SF1.go {g : GE} {k : Nat} {C n : String} {N : Nat} {l : List Int32} {u U : State} (h : SF1 g k C n N l u) (hvm : u.vm.Alike U.vm) (hq : ∀ a : Nat, a < u.heap.size → ¬ gA g a → U.heap[a]? = u.heap[a]?) : SF1 g k C n N l U := ⟨(h.1.kept hq).moved hvm, (h.2.kept hq).moved hvm⟩
theorem SF.go {g : GE} {u U : State} (h : SF g u) (hvm : u.vm.Alike U.vm) (hq : ∀ a : Nat, a < u.heap.size → ¬ gA g a → U.heap[a]? = u.heap[a]?) : SF g U := by
  refine ⟨h.1.go hvm hq, h.2.1.go hvm hq, h.2.2.1.go hvm hq, h.2.2.2.1.go hvm hq, ?_, h.2.2.2.2.2.go hvm hq⟩
  obtain ⟨cell, h1, h2, h3, h4, h5, h6, h7⟩ := h.2.2.1.2
  obtain ⟨cell2, k1, k2⟩ := h.2.2.2.2.1
  exact ⟨cell2, (hq _ (Array.getElem?_eq_some_iff.mp h1).1 h7).trans k1, k2⟩
/-- what holds of a world at a call, and behind it -/
def WC (g : GE) (N : Nat) (ad : Nat → Nat) (f : Nat → va_E) (U : State) : Prop := va_P g.1 vwCl (wl N ad f) U.heap ∧ va_K g.1 vwCl (gT g) U ∧ va_D (gA g) (wl N ad f) ∧ g.2.2.1 ≤ U.heap.size ∧ SF g U ∧ NF U
def Qg (g : GE) (post : Option Value → Nat → (Nat → Nat) → (Nat → va_E) → Prop) : Array Value → State → Outcome → State → Prop := fun _ st o t => (∃ (r : Option Value) (N' : Nat) (ad' : Nat → Nat) (u : Nat → va_E), o = .returned r ∧ post r N' ad' u ∧ va_P g.1 vwCl (wl N' ad' u) t.heap ∧ va_D (gA g) (wl N' ad' u)) ∧ va_F (gA g) st t
/-- a method's contract -/
def Ct (g : GE) (l : Launch) (y : MethodName) (ws : List Cond) (rm : Room) (N : Nat) (ad : Nat → Nat) (av : List Value) (f : Nat → va_E) (post : Option Value → Nat → (Nat → Nat) → (Nat → va_E) → Prop) (mc ms : Nat) : Prop := Met l y ws rm (va_Pc av (WC g N ad f)) (Qg g post) mc ms (gA g)
def pI (N : Nat) (ad : Nat → Nat) (P : Int32 → (Nat → va_E) → Prop) : Option Value → Nat → (Nat → Nat) → (Nat → va_E) → Prop := fun r N' ad' u => N' = N ∧ ad' = ad ∧ ∃ x, r = some (.int x) ∧ P x u
def pV (N : Nat) (ad : Nat → Nat) (P : (Nat → va_E) → Prop) : Option Value → Nat → (Nat → Nat) → (Nat → va_E) → Prop := fun r N' ad' u => N' = N ∧ ad' = ad ∧ r = none ∧ P u
def pR (N : Nat) (ad : Nat → Nat) (P : Nat → (Nat → va_E) → Prop) : Option Value → Nat → (Nat → Nat) → (Nat → va_E) → Prop := fun r N' ad' u => N' = N ∧ ad' = ad ∧ ∃ a, r = some (.ref a) ∧ P a u
/-! the judgement -/
abbrev EV : Type := Program × Launch × Env × Room × State × MethodId × Array Value × List Frame × Method × Code × Nat × (State → Prop)
abbrev eP (E : EV) : Program := E.1
abbrev eL (E : EV) : Launch := E.2.1
abbrev eE (E : EV) : Env := E.2.2.1
abbrev eR (E : EV) : Room := E.2.2.2.1
abbrev eS (E : EV) : State := E.2.2.2.2.1
abbrev eM (E : EV) : MethodId := E.2.2.2.2.2.1
abbrev eA (E : EV) : Array Value := E.2.2.2.2.2.2.1
abbrev eB (E : EV) : List Frame := E.2.2.2.2.2.2.2.1
abbrev eH (E : EV) : Method := E.2.2.2.2.2.2.2.2.1
abbrev eC (E : EV) : Code := E.2.2.2.2.2.2.2.2.2.1
abbrev eN (E : EV) : Nat := E.2.2.2.2.2.2.2.2.2.2.1
abbrev eQ (E : EV) : State → Prop := E.2.2.2.2.2.2.2.2.2.2.2
def lvo : Nat → List (Option Value) → List (Nat × Value)
  | _, [] => []
  | i, none :: t => lvo (i + 1) t
  | i, some v :: t => (i, v) :: lvo (i + 1) t
theorem lvo_mem : ∀ (lo : List (Option Value)) (b i : Nat) (v : Value), (i, v) ∈ lvo b lo ↔ ∃ j, i = b + j ∧ lo[j]? = some (some v)
  | [], b, i, v => by simp [lvo]
  | none :: t, b, i, v => by
    rw [lvo, lvo_mem t (b + 1) i v]
    constructor
    · rintro ⟨j, h1, h2⟩
      exact ⟨j + 1, by omega, by simpa using h2⟩
    · rintro ⟨j, h1, h2⟩
      cases j with
      | zero => simp at h2
      | succ j => exact ⟨j, by omega, by simpa using h2⟩
  | some w :: t, b, i, v => by
    rw [lvo, List.mem_cons, lvo_mem t (b + 1) i v]
    constructor
    · rintro (h | ⟨j, h1, h2⟩)
      · cases h
        exact ⟨0, by omega, by simp⟩
      · exact ⟨j + 1, by omega, by simpa using h2⟩
    · rintro ⟨j, h1, h2⟩
      cases j with
      | zero =>
        simp at h2
        exact Or.inl (by rw [h1, h2]; rfl)
      | succ j => exact Or.inr ⟨j, by omega, by simpa using h2⟩
def V (E : EV) (g : GE) (N : Nat) (ad : Nat → Nat) (ce sl : Nat) (f : Nat → va_E) (pc : Nat) (lo : List (Option Value)) (st : List Value) : Prop :=
  ∀ (H : Heap) (locs : List Loc) (ls : Array Slot), va_P g.1 vwCl (wl N ad f) H → va_D (gA g) (wl N ad f) → va_S (gA g) (eS E).heap H locs → lv_has ls (eN E) (lvo 0 lo) → W (eP E) (eL E) (eE E) (eR E) (eS E) (eM E) (eA E) (eB E) (eH E) (eC E) H locs ce sl (eQ E) (F0 (eM E) pc ls st)
def CX (E : EV) (g : GE) (cc : ByteArray) (Ts : List Cond) (own : String) (rm : Room) : Prop :=
  (eP E).tables.exec = Jvm.exec ∧ (eC E).code = cc ∧ (eC E).maxLocals = eN E ∧ (eS E).vm.findClass own = some (eM E).cls ∧ (∀ w ∈ Ts, w.before (eA E) (eS E) = true) ∧ va_K g.1 vwCl (gT g) (eS E) ∧ g.2.2.1 ≤ (eS E).heap.size ∧ SF g (eS E) ∧ NF (eS E) ∧ eR E = rm
def RT (E : EV) (g : GE) (mc ms : Nat) (ret : Option FieldType) (post : Option Value → Nat → (Nat → Nat) → (Nat → va_E) → Prop) : Prop := (eH E).sig.returnType = ret ∧ (eH E).locks = false ∧ eQ E = MQ (eB E) (Qg g post) (eA E) (eS E) mc ms (gA g)
theorem lvo_at {ls : Array Slot} {nL : Nat} {lo : List (Option Value)} (h : lv_has ls nL (lvo 0 lo)) {i : Nat} {v : Value} (hk : lo[i]? = some (some v)) : ls[i]? = some (.val v) := h.2.2 (i, v) ((lvo_mem lo 0 i v).mpr ⟨i, by omega, hk⟩)
def c1 : Option Value → Bool
  | none => true
  | some v => v.category == 1
/-- a store of one word, over the list of locals -/
theorem lvo_put {ls : Array Slot} {nL : Nat} {lo : List (Option Value)} (h : lv_has ls nL (lvo 0 lo)) (i : Nat) (v : Value) (hp : ∀ v', i ≠ 0 → lo[i - 1]? = some (some v') → v'.category = 1) : ∀ q ∈ lvo 0 (lo.set i (some v)), q ∈ (i, v) :: (lvo 0 lo).filter (fun q => !(q.1 == i) && !(q.1 + 1 == i && q.2.category == 2)) := by
  rintro ⟨j, w⟩ hq
  obtain ⟨j', h1, h2⟩ := (lvo_mem _ _ _ _).mp hq
  have hj : j' = j := by omega
  subst hj
  rw [List.getElem?_set] at h2
  by_cases hij : i = j'
  · subst hij
    rw [if_pos rfl] at h2
    split at h2
    · cases h2
      exact List.mem_cons_self
    · cases h2
  · rw [if_neg hij] at h2
    refine List.mem_cons_of_mem _ (List.mem_filter.mpr ⟨(lvo_mem _ _ _ _).mpr ⟨j', h1, h2⟩, ?_⟩)
    have h3 : (j' == i) = false := by simp; omega
    simp only [h3, Bool.not_false, Bool.true_and]
    by_cases h4 : j' + 1 = i
    · have h5 := hp w (by omega) (by rw [← h4]; exact h2)
      simp [h5]
    · simp [h4]
theorem lvo_sub {ls : Array Slot} {nL : Nat} {l l' : List (Nat × Value)} (h : lv_has ls nL l) (hs : ∀ q ∈ l', q ∈ l) : lv_has ls nL l' := ⟨h.1, h.2.1, fun q hq => h.2.2 q (hs q hq)⟩
section
variable {E : EV} {g : GE} {N : Nat} {ad : Nat → Nat} {ce sl : Nat} {f : Nat → va_E} {pc : Nat} {lo : List (Option Value)} {st : List Value} {cc : ByteArray} {Ts : List Cond} {own : String} {rm : Room}
theorem V_iconst (hC : CX E g cc Ts own rm) (v : Int32) {n : Int} (hd : decode cc pc = .ok (.iconst n, 1)) (hv : Int32.ofInt n = v) (k : V E g N ad ce sl f (pc + 1) lo (.int v :: st)) : V E g N ad ce sl f pc lo st := by
  intro H locs ls hP hD hS hl
  exact lv_iconst hC.1 hC.2.1 hd hv (k H locs ls hP hD hS hl)
theorem V_bipush (hC : CX E g cc Ts own rm) (v : Int32) {n : Int} (hd : decode cc pc = .ok (.bipush n, 2)) (hv : (Int8.ofInt n).toInt32 = v) (k : V E g N ad ce sl f (pc + 2) lo (.int v :: st)) : V E g N ad ce sl f pc lo st := by
  intro H locs ls hP hD hS hl
  exact lv_bipush hC.1 hC.2.1 hd hv (k H locs ls hP hD hS hl)
theorem V_sipush (hC : CX E g cc Ts own rm) (v : Int32) {n : Int} (hd : decode cc pc = .ok (.sipush n, 3)) (hv : (Int16.ofInt n).toInt32 = v) (k : V E g N ad ce sl f (pc + 3) lo (.int v :: st)) : V E g N ad ce sl f pc lo st := by
  intro H locs ls hP hD hS hl
  exact lv_sipush hC.1 hC.2.1 hd hv (k H locs ls hP hD hS hl)
theorem V_lconst (hC : CX E g cc Ts own rm) (v : Int64) {n : Fin 2} (hd : decode cc pc = .ok (.lconst n, 1)) (hv : Int64.ofNat (n : Nat) = v) (k : V E g N ad ce sl f (pc + 1) lo (.long v :: st)) : V E g N ad ce sl f pc lo st := by
  intro H locs ls hP hD hS hl
  exact lv_lconst hC.1 hC.2.1 hd hv (k H locs ls hP hD hS hl)
theorem V_iadd (hC : CX E g cc Ts own rm) {x y : Int32} (hd : decode cc pc = .ok (.iadd, 1))  (k : V E g N ad ce sl f (pc + 1) lo (.int (x + y) :: st)) : V E g N ad ce sl f pc lo (.int y :: .int x :: st) := by
  intro H locs ls hP hD hS hl
  exact lv_iadd hC.1 hC.2.1 hd (k H locs ls hP hD hS hl)
theorem V_isub (hC : CX E g cc Ts own rm) {x y : Int32} (hd : decode cc pc = .ok (.isub, 1))  (k : V E g N ad ce sl f (pc + 1) lo (.int (x - y) :: st)) : V E g N ad ce sl f pc lo (.int y :: .int x :: st) := by
  intro H locs ls hP hD hS hl
  exact lv_isub hC.1 hC.2.1 hd (k H locs ls hP hD hS hl)
theorem V_imul (hC : CX E g cc Ts own rm) {x y : Int32} (hd : decode cc pc = .ok (.imul, 1))  (k : V E g N ad ce sl f (pc + 1) lo (.int (x * y) :: st)) : V E g N ad ce sl f pc lo (.int y :: .int x :: st) := by
  intro H locs ls hP hD hS hl
  exact lv_imul hC.1 hC.2.1 hd (k H locs ls hP hD hS hl)
theorem V_iand (hC : CX E g cc Ts own rm) {x y : Int32} (hd : decode cc pc = .ok (.iand, 1))  (k : V E g N ad ce sl f (pc + 1) lo (.int (x &&& y) :: st)) : V E g N ad ce sl f pc lo (.int y :: .int x :: st) := by
  intro H locs ls hP hD hS hl
  exact lv_iand hC.1 hC.2.1 hd (k H locs ls hP hD hS hl)
theorem V_ixor (hC : CX E g cc Ts own rm) {x y : Int32} (hd : decode cc pc = .ok (.ixor, 1))  (k : V E g N ad ce sl f (pc + 1) lo (.int (x ^^^ y) :: st)) : V E g N ad ce sl f pc lo (.int y :: .int x :: st) := by
  intro H locs ls hP hD hS hl
  exact lv_ixor hC.1 hC.2.1 hd (k H locs ls hP hD hS hl)
theorem V_ineg (hC : CX E g cc Ts own rm) {x : Int32} (hd : decode cc pc = .ok (.ineg, 1))  (k : V E g N ad ce sl f (pc + 1) lo (.int (-x) :: st)) : V E g N ad ce sl f pc lo (.int x :: st) := by
  intro H locs ls hP hD hS hl
  exact lv_ineg hC.1 hC.2.1 hd (k H locs ls hP hD hS hl)
theorem V_land (hC : CX E g cc Ts own rm) {x y : Int64} (hd : decode cc pc = .ok (.land, 1))  (k : V E g N ad ce sl f (pc + 1) lo (.long (x &&& y) :: st)) : V E g N ad ce sl f pc lo (.long y :: .long x :: st) := by
  intro H locs ls hP hD hS hl
  exact lv_land hC.1 hC.2.1 hd (k H locs ls hP hD hS hl)
theorem V_lor (hC : CX E g cc Ts own rm) {x y : Int64} (hd : decode cc pc = .ok (.lor, 1))  (k : V E g N ad ce sl f (pc + 1) lo (.long (x ||| y) :: st)) : V E g N ad ce sl f pc lo (.long y :: .long x :: st) := by
  intro H locs ls hP hD hS hl
  exact lv_lor hC.1 hC.2.1 hd (k H locs ls hP hD hS hl)
theorem V_lsub (hC : CX E g cc Ts own rm) {x y : Int64} (hd : decode cc pc = .ok (.lsub, 1))  (k : V E g N ad ce sl f (pc + 1) lo (.long (x - y) :: st)) : V E g N ad ce sl f pc lo (.long y :: .long x :: st) := by
  intro H locs ls hP hD hS hl
  exact lv_lsub hC.1 hC.2.1 hd (k H locs ls hP hD hS hl)
theorem V_i2l (hC : CX E g cc Ts own rm) {x : Int32} (hd : decode cc pc = .ok (.i2l, 1))  (k : V E g N ad ce sl f (pc + 1) lo (.long x.toInt64 :: st)) : V E g N ad ce sl f pc lo (.int x :: st) := by
  intro H locs ls hP hD hS hl
  exact lv_i2l hC.1 hC.2.1 hd rfl (k H locs ls hP hD hS hl)
theorem V_l2i (hC : CX E g cc Ts own rm) {x : Int64} (hd : decode cc pc = .ok (.l2i, 1))  (k : V E g N ad ce sl f (pc + 1) lo (.int x.toInt32 :: st)) : V E g N ad ce sl f pc lo (.long x :: st) := by
  intro H locs ls hP hD hS hl
  exact lv_l2i hC.1 hC.2.1 hd rfl (k H locs ls hP hD hS hl)
theorem V_i2c (hC : CX E g cc Ts own rm) {x : Int32} (hd : decode cc pc = .ok (.i2c, 1))  (k : V E g N ad ce sl f (pc + 1) lo (.int (x.toUInt32 % 65536).toInt32 :: st)) : V E g N ad ce sl f pc lo (.int x :: st) := by
  intro H locs ls hP hD hS hl
  exact lv_i2c hC.1 hC.2.1 hd rfl (k H locs ls hP hD hS hl)
theorem V_lushr (hC : CX E g cc Ts own rm) {x : Int64} {y : Int32} (hd : decode cc pc = .ok (.lushr, 1))  (k : V E g N ad ce sl f (pc + 1) lo (.long (x.toUInt64 >>> (y.toInt64.toUInt64 &&& Int64.toUInt64 63)).toInt64 :: st)) : V E g N ad ce sl f pc lo (.int y :: .long x :: st) := by
  intro H locs ls hP hD hS hl
  exact lv_lushr hC.1 hC.2.1 hd rfl (k H locs ls hP hD hS hl)
theorem V_lshl (hC : CX E g cc Ts own rm) {x : Int64} {y : Int32} (hd : decode cc pc = .ok (.lshl, 1))  (k : V E g N ad ce sl f (pc + 1) lo (.long (x <<< (y.toInt64 &&& 63)) :: st)) : V E g N ad ce sl f pc lo (.int y :: .long x :: st) := by
  intro H locs ls hP hD hS hl
  exact lv_lshl hC.1 hC.2.1 hd rfl (k H locs ls hP hD hS hl)
theorem V_lcmp (hC : CX E g cc Ts own rm) {x y : Int64} (hd : decode cc pc = .ok (.lcmp, 1))  (k : V E g N ad ce sl f (pc + 1) lo (.int (lg_cmp x y) :: st)) : V E g N ad ce sl f pc lo (.long y :: .long x :: st) := by
  intro H locs ls hP hD hS hl
  exact W.lcmp hC.1 hC.2.1 hd (k H locs ls hP hD hS hl)
theorem V_idiv (hC : CX E g cc Ts own rm) {x y : Int32} (hd : decode cc pc = .ok (.idiv, 1)) (hne : ¬ y = 0) (k : V E g N ad ce sl f (pc + 1) lo (.int (x / y) :: st)) : V E g N ad ce sl f pc lo (.int y :: .int x :: st) := by
  intro H locs ls hP hD hS hl
  exact lv_idiv hC.1 hC.2.1 hd hne (k H locs ls hP hD hS hl)
theorem V_irem (hC : CX E g cc Ts own rm) {x y : Int32} (hd : decode cc pc = .ok (.irem, 1)) (hne : ¬ y = 0) (k : V E g N ad ce sl f (pc + 1) lo (.int (x - x / y * y) :: st)) : V E g N ad ce sl f pc lo (.int y :: .int x :: st) := by
  intro H locs ls hP hD hS hl
  exact lv_irem hC.1 hC.2.1 hd hne (k H locs ls hP hD hS hl)
theorem V_dup (hC : CX E g cc Ts own rm) {a : Value} (hd : decode cc pc = .ok (.dup, 1)) (ha : a.category = 1) (k : V E g N ad ce sl f (pc + 1) lo (a :: a :: st)) : V E g N ad ce sl f pc lo (a :: st) := by
  intro H locs ls hP hD hS hl
  exact lv_dup hC.1 hC.2.1 hd ha (k H locs ls hP hD hS hl)
theorem V_dup_x1 (hC : CX E g cc Ts own rm) {a b : Value} (hd : decode cc pc = .ok (.dup_x1, 1)) (ha : a.category = 1) (hb : b.category = 1) (k : V E g N ad ce sl f (pc + 1) lo (a :: b :: a :: st)) : V E g N ad ce sl f pc lo (a :: b :: st) := by
  intro H locs ls hP hD hS hl
  exact lv_dup_x1 hC.1 hC.2.1 hd ha hb (k H locs ls hP hD hS hl)
theorem V_dup2 (hC : CX E g cc Ts own rm) {a b : Value} (hd : decode cc pc = .ok (.dup2, 1)) (ha : a.category = 1) (hb : b.category = 1) (k : V E g N ad ce sl f (pc + 1) lo (a :: b :: a :: b :: st)) : V E g N ad ce sl f pc lo (a :: b :: st) := by
  intro H locs ls hP hD hS hl
  exact lv_dup2_11 hC.1 hC.2.1 hd ha hb (k H locs ls hP hD hS hl)
theorem V_pop (hC : CX E g cc Ts own rm) {a : Value} (hd : decode cc pc = .ok (.pop, 1)) (ha : a.category = 1) (k : V E g N ad ce sl f (pc + 1) lo (st)) : V E g N ad ce sl f pc lo (a :: st) := by
  intro H locs ls hP hD hS hl
  exact lv_pop hC.1 hC.2.1 hd ha (k H locs ls hP hD hS hl)
theorem V_iload_n (hC : CX E g cc Ts own rm) {k : Fin 4} {i : Nat} {x : Int32} (hd : decode cc pc = .ok (.iload_n k, 1)) (hi : (k : Nat) = i) (hv : lo[i]? = some (some (.int x))) (kk : V E g N ad ce sl f (pc + 1) lo (.int x :: st)) : V E g N ad ce sl f pc lo st := by
  intro H locs ls hP hD hS hl
  exact lv_iload_n hC.1 hC.2.1 hd hi (lvo_at hl hv) (kk H locs ls hP hD hS hl)
theorem V_iload (hC : CX E g cc Ts own rm) {i : Nat} {x : Int32} (hd : decode cc pc = .ok (.iload i, 2)) (hv : lo[i]? = some (some (.int x))) (kk : V E g N ad ce sl f (pc + 2) lo (.int x :: st)) : V E g N ad ce sl f pc lo st := by
  intro H locs ls hP hD hS hl
  exact lv_iload hC.1 hC.2.1 hd (lvo_at hl hv) (kk H locs ls hP hD hS hl)
theorem V_lload_n (hC : CX E g cc Ts own rm) {k : Fin 4} {i : Nat} {x : Int64} (hd : decode cc pc = .ok (.lload_n k, 1)) (hi : (k : Nat) = i) (hv : lo[i]? = some (some (.long x))) (kk : V E g N ad ce sl f (pc + 1) lo (.long x :: st)) : V E g N ad ce sl f pc lo st := by
  intro H locs ls hP hD hS hl
  exact lv_lload_n hC.1 hC.2.1 hd hi (lvo_at hl hv) (kk H locs ls hP hD hS hl)
theorem V_lload (hC : CX E g cc Ts own rm) {i : Nat} {x : Int64} (hd : decode cc pc = .ok (.lload i, 2)) (hv : lo[i]? = some (some (.long x))) (kk : V E g N ad ce sl f (pc + 2) lo (.long x :: st)) : V E g N ad ce sl f pc lo st := by
  intro H locs ls hP hD hS hl
  exact lv_lload hC.1 hC.2.1 hd (lvo_at hl hv) (kk H locs ls hP hD hS hl)
theorem V_aload_n (hC : CX E g cc Ts own rm) {k : Fin 4} {i : Nat} {x : Nat} (hd : decode cc pc = .ok (.aload_n k, 1)) (hi : (k : Nat) = i) (hv : lo[i]? = some (some (.ref x))) (kk : V E g N ad ce sl f (pc + 1) lo (.ref x :: st)) : V E g N ad ce sl f pc lo st := by
  intro H locs ls hP hD hS hl
  exact lv_aload_n hC.1 hC.2.1 hd hi (lvo_at hl hv) (kk H locs ls hP hD hS hl)
theorem V_aload (hC : CX E g cc Ts own rm) {i : Nat} {x : Nat} (hd : decode cc pc = .ok (.aload i, 2)) (hv : lo[i]? = some (some (.ref x))) (kk : V E g N ad ce sl f (pc + 2) lo (.ref x :: st)) : V E g N ad ce sl f pc lo st := by
  intro H locs ls hP hD hS hl
  exact lv_aload hC.1 hC.2.1 hd (lvo_at hl hv) (kk H locs ls hP hD hS hl)
theorem V_istore_n0 (hC : CX E g cc Ts own rm) {x : Int32} {v0 : Option Value} {t : List (Option Value)} {k : Fin 4} (hd : decode cc pc = .ok (.istore_n k, 1)) (hk : (k : Nat) = 0) (hn : 0 < eN E)  (kk : V E g N ad ce sl f (pc + 1) (some (.int x) :: t) st) : V E g N ad ce sl f pc (v0 :: t) (.int x :: st) := by
  intro H locs ls hP hD hS hl
  exact lv_istore_n hC.1 hC.2.1 hd hk hl hn rfl (fun ls hl2 => kk H locs ls hP hD hS (lvo_sub hl2 (lvo_put hl 0 _ (fun v h0 _ => absurd rfl h0))))
theorem V_istore0 (hC : CX E g cc Ts own rm) {x : Int32} {v0 : Option Value} {t : List (Option Value)}  (hd : decode cc pc = .ok (.istore 0, 2))  (hn : 0 < eN E)  (kk : V E g N ad ce sl f (pc + 2) (some (.int x) :: t) st) : V E g N ad ce sl f pc (v0 :: t) (.int x :: st) := by
  intro H locs ls hP hD hS hl
  exact lv_istore hC.1 hC.2.1 hd  hl hn rfl (fun ls hl2 => kk H locs ls hP hD hS (lvo_sub hl2 (lvo_put hl 0 _ (fun v h0 _ => absurd rfl h0))))
theorem V_astore_n0 (hC : CX E g cc Ts own rm) {x : Nat} {v0 : Option Value} {t : List (Option Value)} {k : Fin 4} (hd : decode cc pc = .ok (.astore_n k, 1)) (hk : (k : Nat) = 0) (hn : 0 < eN E)  (kk : V E g N ad ce sl f (pc + 1) (some (.ref x) :: t) st) : V E g N ad ce sl f pc (v0 :: t) (.ref x :: st) := by
  intro H locs ls hP hD hS hl
  exact lv_astore_n hC.1 hC.2.1 hd hk hl hn rfl (fun ls hl2 => kk H locs ls hP hD hS (lvo_sub hl2 (lvo_put hl 0 _ (fun v h0 _ => absurd rfl h0))))
theorem V_astore0 (hC : CX E g cc Ts own rm) {x : Nat} {v0 : Option Value} {t : List (Option Value)}  (hd : decode cc pc = .ok (.astore 0, 2))  (hn : 0 < eN E)  (kk : V E g N ad ce sl f (pc + 2) (some (.ref x) :: t) st) : V E g N ad ce sl f pc (v0 :: t) (.ref x :: st) := by
  intro H locs ls hP hD hS hl
  exact lv_astore hC.1 hC.2.1 hd  hl hn rfl (fun ls hl2 => kk H locs ls hP hD hS (lvo_sub hl2 (lvo_put hl 0 _ (fun v h0 _ => absurd rfl h0))))
theorem V_iinc0 (hC : CX E g cc Ts own rm) {x : Int32} {z : Option Value} {t : List (Option Value)} {n : Int} (v : Int32) (hd : decode cc pc = .ok (.iinc 0 n, 3)) (hv : x + Int32.ofInt n = v) (hn : 0 < eN E)  (kk : V E g N ad ce sl f (pc + 3) (some (.int v) :: t) st) : V E g N ad ce sl f pc (some (.int x) :: t) st := by
  intro H locs ls hP hD hS hl
  obtain ⟨k, hk⟩ := List.getElem?_of_mem ((lvo_mem (some (.int x) :: t) 0 0 (.int x)).mpr ⟨0, by omega, rfl⟩)
  exact lv_iinc hC.1 hC.2.1 hd hl hk hv hn rfl (fun ls hl2 => kk H locs ls hP hD hS (lvo_sub hl2 (lvo_put hl 0 _ (fun v h0 _ => absurd rfl h0))))
theorem V_istore_n1 (hC : CX E g cc Ts own rm) {x : Int32} {v0 v1 : Option Value} {t : List (Option Value)} {k : Fin 4} (hd : decode cc pc = .ok (.istore_n k, 1)) (hk : (k : Nat) = 1) (hn : 1 < eN E) (hc : c1 v0 = true) (kk : V E g N ad ce sl f (pc + 1) (v0 :: some (.int x) :: t) st) : V E g N ad ce sl f pc (v0 :: v1 :: t) (.int x :: st) := by
  intro H locs ls hP hD hS hl
  exact lv_istore_n hC.1 hC.2.1 hd hk hl hn rfl (fun ls hl2 => kk H locs ls hP hD hS (lvo_sub hl2 (lvo_put hl 1 _ (fun v _ h => by have h : v0 = some v := (by simpa using h); subst h; simpa [c1] using hc))))
theorem V_istore1 (hC : CX E g cc Ts own rm) {x : Int32} {v0 v1 : Option Value} {t : List (Option Value)}  (hd : decode cc pc = .ok (.istore 1, 2))  (hn : 1 < eN E) (hc : c1 v0 = true) (kk : V E g N ad ce sl f (pc + 2) (v0 :: some (.int x) :: t) st) : V E g N ad ce sl f pc (v0 :: v1 :: t) (.int x :: st) := by
  intro H locs ls hP hD hS hl
  exact lv_istore hC.1 hC.2.1 hd  hl hn rfl (fun ls hl2 => kk H locs ls hP hD hS (lvo_sub hl2 (lvo_put hl 1 _ (fun v _ h => by have h : v0 = some v := (by simpa using h); subst h; simpa [c1] using hc))))
theorem V_astore_n1 (hC : CX E g cc Ts own rm) {x : Nat} {v0 v1 : Option Value} {t : List (Option Value)} {k : Fin 4} (hd : decode cc pc = .ok (.astore_n k, 1)) (hk : (k : Nat) = 1) (hn : 1 < eN E) (hc : c1 v0 = true) (kk : V E g N ad ce sl f (pc + 1) (v0 :: some (.ref x) :: t) st) : V E g N ad ce sl f pc (v0 :: v1 :: t) (.ref x :: st) := by
  intro H locs ls hP hD hS hl
  exact lv_astore_n hC.1 hC.2.1 hd hk hl hn rfl (fun ls hl2 => kk H locs ls hP hD hS (lvo_sub hl2 (lvo_put hl 1 _ (fun v _ h => by have h : v0 = some v := (by simpa using h); subst h; simpa [c1] using hc))))
theorem V_astore1 (hC : CX E g cc Ts own rm) {x : Nat} {v0 v1 : Option Value} {t : List (Option Value)}  (hd : decode cc pc = .ok (.astore 1, 2))  (hn : 1 < eN E) (hc : c1 v0 = true) (kk : V E g N ad ce sl f (pc + 2) (v0 :: some (.ref x) :: t) st) : V E g N ad ce sl f pc (v0 :: v1 :: t) (.ref x :: st) := by
  intro H locs ls hP hD hS hl
  exact lv_astore hC.1 hC.2.1 hd  hl hn rfl (fun ls hl2 => kk H locs ls hP hD hS (lvo_sub hl2 (lvo_put hl 1 _ (fun v _ h => by have h : v0 = some v := (by simpa using h); subst h; simpa [c1] using hc))))
theorem V_iinc1 (hC : CX E g cc Ts own rm) {x : Int32} {v0 : Option Value} {t : List (Option Value)} {n : Int} (v : Int32) (hd : decode cc pc = .ok (.iinc 1 n, 3)) (hv : x + Int32.ofInt n = v) (hn : 1 < eN E) (hc : c1 v0 = true) (kk : V E g N ad ce sl f (pc + 3) (v0 :: some (.int v) :: t) st) : V E g N ad ce sl f pc (v0 :: some (.int x) :: t) st := by
  intro H locs ls hP hD hS hl
  obtain ⟨k, hk⟩ := List.getElem?_of_mem ((lvo_mem (v0 :: some (.int x) :: t) 0 1 (.int x)).mpr ⟨1, by omega, rfl⟩)
  exact lv_iinc hC.1 hC.2.1 hd hl hk hv hn rfl (fun ls hl2 => kk H locs ls hP hD hS (lvo_sub hl2 (lvo_put hl 1 _ (fun v _ h => by have h : v0 = some v := (by simpa using h); subst h; simpa [c1] using hc))))
theorem V_istore_n2 (hC : CX E g cc Ts own rm) {x : Int32} {v0 v1 v2 : Option Value} {t : List (Option Value)} {k : Fin 4} (hd : decode cc pc = .ok (.istore_n k, 1)) (hk : (k : Nat) = 2) (hn : 2 < eN E) (hc : c1 v1 = true) (kk : V E g N ad ce sl f (pc + 1) (v0 :: v1 :: some (.int x) :: t) st) : V E g N ad ce sl f pc (v0 :: v1 :: v2 :: t) (.int x :: st) := by
  intro H locs ls hP hD hS hl
  exact lv_istore_n hC.1 hC.2.1 hd hk hl hn rfl (fun ls hl2 => kk H locs ls hP hD hS (lvo_sub hl2 (lvo_put hl 2 _ (fun v _ h => by have h : v1 = some v := (by simpa using h); subst h; simpa [c1] using hc))))
theorem V_istore2 (hC : CX E g cc Ts own rm) {x : Int32} {v0 v1 v2 : Option Value} {t : List (Option Value)}  (hd : decode cc pc = .ok (.istore 2, 2))  (hn : 2 < eN E) (hc : c1 v1 = true) (kk : V E g N ad ce sl f (pc + 2) (v0 :: v1 :: some (.int x) :: t) st) : V E g N ad ce sl f pc (v0 :: v1 :: v2 :: t) (.int x :: st) := by
  intro H locs ls hP hD hS hl
  exact lv_istore hC.1 hC.2.1 hd  hl hn rfl (fun ls hl2 => kk H locs ls hP hD hS (lvo_sub hl2 (lvo_put hl 2 _ (fun v _ h => by have h : v1 = some v := (by simpa using h); subst h; simpa [c1] using hc))))
theorem V_astore_n2 (hC : CX E g cc Ts own rm) {x : Nat} {v0 v1 v2 : Option Value} {t : List (Option Value)} {k : Fin 4} (hd : decode cc pc = .ok (.astore_n k, 1)) (hk : (k : Nat) = 2) (hn : 2 < eN E) (hc : c1 v1 = true) (kk : V E g N ad ce sl f (pc + 1) (v0 :: v1 :: some (.ref x) :: t) st) : V E g N ad ce sl f pc (v0 :: v1 :: v2 :: t) (.ref x :: st) := by
  intro H locs ls hP hD hS hl
  exact lv_astore_n hC.1 hC.2.1 hd hk hl hn rfl (fun ls hl2 => kk H locs ls hP hD hS (lvo_sub hl2 (lvo_put hl 2 _ (fun v _ h => by have h : v1 = some v := (by simpa using h); subst h; simpa [c1] using hc))))
theorem V_astore2 (hC : CX E g cc Ts own rm) {x : Nat} {v0 v1 v2 : Option Value} {t : List (Option Value)}  (hd : decode cc pc = .ok (.astore 2, 2))  (hn : 2 < eN E) (hc : c1 v1 = true) (kk : V E g N ad ce sl f (pc + 2) (v0 :: v1 :: some (.ref x) :: t) st) : V E g N ad ce sl f pc (v0 :: v1 :: v2 :: t) (.ref x :: st) := by
  intro H locs ls hP hD hS hl
  exact lv_astore hC.1 hC.2.1 hd  hl hn rfl (fun ls hl2 => kk H locs ls hP hD hS (lvo_sub hl2 (lvo_put hl 2 _ (fun v _ h => by have h : v1 = some v := (by simpa using h); subst h; simpa [c1] using hc))))
theorem V_iinc2 (hC : CX E g cc Ts own rm) {x : Int32} {v0 v1 : Option Value} {t : List (Option Value)} {n : Int} (v : Int32) (hd : decode cc pc = .ok (.iinc 2 n, 3)) (hv : x + Int32.ofInt n = v) (hn : 2 < eN E) (hc : c1 v1 = true) (kk : V E g N ad ce sl f (pc + 3) (v0 :: v1 :: some (.int v) :: t) st) : V E g N ad ce sl f pc (v0 :: v1 :: some (.int x) :: t) st := by
  intro H locs ls hP hD hS hl
  obtain ⟨k, hk⟩ := List.getElem?_of_mem ((lvo_mem (v0 :: v1 :: some (.int x) :: t) 0 2 (.int x)).mpr ⟨2, by omega, rfl⟩)
  exact lv_iinc hC.1 hC.2.1 hd hl hk hv hn rfl (fun ls hl2 => kk H locs ls hP hD hS (lvo_sub hl2 (lvo_put hl 2 _ (fun v _ h => by have h : v1 = some v := (by simpa using h); subst h; simpa [c1] using hc))))
theorem V_istore_n3 (hC : CX E g cc Ts own rm) {x : Int32} {v0 v1 v2 v3 : Option Value} {t : List (Option Value)} {k : Fin 4} (hd : decode cc pc = .ok (.istore_n k, 1)) (hk : (k : Nat) = 3) (hn : 3 < eN E) (hc : c1 v2 = true) (kk : V E g N ad ce sl f (pc + 1) (v0 :: v1 :: v2 :: some (.int x) :: t) st) : V E g N ad ce sl f pc (v0 :: v1 :: v2 :: v3 :: t) (.int x :: st) := by
  intro H locs ls hP hD hS hl
  exact lv_istore_n hC.1 hC.2.1 hd hk hl hn rfl (fun ls hl2 => kk H locs ls hP hD hS (lvo_sub hl2 (lvo_put hl 3 _ (fun v _ h => by have h : v2 = some v := (by simpa using h); subst h; simpa [c1] using hc))))
theorem V_istore3 (hC : CX E g cc Ts own rm) {x : Int32} {v0 v1 v2 v3 : Option Value} {t : List (Option Value)}  (hd : decode cc pc = .ok (.istore 3, 2))  (hn : 3 < eN E) (hc : c1 v2 = true) (kk : V E g N ad ce sl f (pc + 2) (v0 :: v1 :: v2 :: some (.int x) :: t) st) : V E g N ad ce sl f pc (v0 :: v1 :: v2 :: v3 :: t) (.int x :: st) := by
  intro H locs ls hP hD hS hl
  exact lv_istore hC.1 hC.2.1 hd  hl hn rfl (fun ls hl2 => kk H locs ls hP hD hS (lvo_sub hl2 (lvo_put hl 3 _ (fun v _ h => by have h : v2 = some v := (by simpa using h); subst h; simpa [c1] using hc))))
theorem V_astore_n3 (hC : CX E g cc Ts own rm) {x : Nat} {v0 v1 v2 v3 : Option Value} {t : List (Option Value)} {k : Fin 4} (hd : decode cc pc = .ok (.astore_n k, 1)) (hk : (k : Nat) = 3) (hn : 3 < eN E) (hc : c1 v2 = true) (kk : V E g N ad ce sl f (pc + 1) (v0 :: v1 :: v2 :: some (.ref x) :: t) st) : V E g N ad ce sl f pc (v0 :: v1 :: v2 :: v3 :: t) (.ref x :: st) := by
  intro H locs ls hP hD hS hl
  exact lv_astore_n hC.1 hC.2.1 hd hk hl hn rfl (fun ls hl2 => kk H locs ls hP hD hS (lvo_sub hl2 (lvo_put hl 3 _ (fun v _ h => by have h : v2 = some v := (by simpa using h); subst h; simpa [c1] using hc))))
theorem V_astore3 (hC : CX E g cc Ts own rm) {x : Nat} {v0 v1 v2 v3 : Option Value} {t : List (Option Value)}  (hd : decode cc pc = .ok (.astore 3, 2))  (hn : 3 < eN E) (hc : c1 v2 = true) (kk : V E g N ad ce sl f (pc + 2) (v0 :: v1 :: v2 :: some (.ref x) :: t) st) : V E g N ad ce sl f pc (v0 :: v1 :: v2 :: v3 :: t) (.ref x :: st) := by
  intro H locs ls hP hD hS hl
  exact lv_astore hC.1 hC.2.1 hd  hl hn rfl (fun ls hl2 => kk H locs ls hP hD hS (lvo_sub hl2 (lvo_put hl 3 _ (fun v _ h => by have h : v2 = some v := (by simpa using h); subst h; simpa [c1] using hc))))
theorem V_iinc3 (hC : CX E g cc Ts own rm) {x : Int32} {v0 v1 v2 : Option Value} {t : List (Option Value)} {n : Int} (v : Int32) (hd : decode cc pc = .ok (.iinc 3 n, 3)) (hv : x + Int32.ofInt n = v) (hn : 3 < eN E) (hc : c1 v2 = true) (kk : V E g N ad ce sl f (pc + 3) (v0 :: v1 :: v2 :: some (.int v) :: t) st) : V E g N ad ce sl f pc (v0 :: v1 :: v2 :: some (.int x) :: t) st := by
  intro H locs ls hP hD hS hl
  obtain ⟨k, hk⟩ := List.getElem?_of_mem ((lvo_mem (v0 :: v1 :: v2 :: some (.int x) :: t) 0 3 (.int x)).mpr ⟨3, by omega, rfl⟩)
  exact lv_iinc hC.1 hC.2.1 hd hl hk hv hn rfl (fun ls hl2 => kk H locs ls hP hD hS (lvo_sub hl2 (lvo_put hl 3 _ (fun v _ h => by have h : v2 = some v := (by simpa using h); subst h; simpa [c1] using hc))))
theorem V_istore4 (hC : CX E g cc Ts own rm) {x : Int32} {v0 v1 v2 v3 v4 : Option Value} {t : List (Option Value)}  (hd : decode cc pc = .ok (.istore 4, 2))  (hn : 4 < eN E) (hc : c1 v3 = true) (kk : V E g N ad ce sl f (pc + 2) (v0 :: v1 :: v2 :: v3 :: some (.int x) :: t) st) : V E g N ad ce sl f pc (v0 :: v1 :: v2 :: v3 :: v4 :: t) (.int x :: st) := by
  intro H locs ls hP hD hS hl
  exact lv_istore hC.1 hC.2.1 hd  hl hn rfl (fun ls hl2 => kk H locs ls hP hD hS (lvo_sub hl2 (lvo_put hl 4 _ (fun v _ h => by have h : v3 = some v := (by simpa using h); subst h; simpa [c1] using hc))))
theorem V_astore4 (hC : CX E g cc Ts own rm) {x : Nat} {v0 v1 v2 v3 v4 : Option Value} {t : List (Option Value)}  (hd : decode cc pc = .ok (.astore 4, 2))  (hn : 4 < eN E) (hc : c1 v3 = true) (kk : V E g N ad ce sl f (pc + 2) (v0 :: v1 :: v2 :: v3 :: some (.ref x) :: t) st) : V E g N ad ce sl f pc (v0 :: v1 :: v2 :: v3 :: v4 :: t) (.ref x :: st) := by
  intro H locs ls hP hD hS hl
  exact lv_astore hC.1 hC.2.1 hd  hl hn rfl (fun ls hl2 => kk H locs ls hP hD hS (lvo_sub hl2 (lvo_put hl 4 _ (fun v _ h => by have h : v3 = some v := (by simpa using h); subst h; simpa [c1] using hc))))
theorem V_iinc4 (hC : CX E g cc Ts own rm) {x : Int32} {v0 v1 v2 v3 : Option Value} {t : List (Option Value)} {n : Int} (v : Int32) (hd : decode cc pc = .ok (.iinc 4 n, 3)) (hv : x + Int32.ofInt n = v) (hn : 4 < eN E) (hc : c1 v3 = true) (kk : V E g N ad ce sl f (pc + 3) (v0 :: v1 :: v2 :: v3 :: some (.int v) :: t) st) : V E g N ad ce sl f pc (v0 :: v1 :: v2 :: v3 :: some (.int x) :: t) st := by
  intro H locs ls hP hD hS hl
  obtain ⟨k, hk⟩ := List.getElem?_of_mem ((lvo_mem (v0 :: v1 :: v2 :: v3 :: some (.int x) :: t) 0 4 (.int x)).mpr ⟨4, by omega, rfl⟩)
  exact lv_iinc hC.1 hC.2.1 hd hl hk hv hn rfl (fun ls hl2 => kk H locs ls hP hD hS (lvo_sub hl2 (lvo_put hl 4 _ (fun v _ h => by have h : v3 = some v := (by simpa using h); subst h; simpa [c1] using hc))))
theorem V_istore5 (hC : CX E g cc Ts own rm) {x : Int32} {v0 v1 v2 v3 v4 v5 : Option Value} {t : List (Option Value)}  (hd : decode cc pc = .ok (.istore 5, 2))  (hn : 5 < eN E) (hc : c1 v4 = true) (kk : V E g N ad ce sl f (pc + 2) (v0 :: v1 :: v2 :: v3 :: v4 :: some (.int x) :: t) st) : V E g N ad ce sl f pc (v0 :: v1 :: v2 :: v3 :: v4 :: v5 :: t) (.int x :: st) := by
  intro H locs ls hP hD hS hl
  exact lv_istore hC.1 hC.2.1 hd  hl hn rfl (fun ls hl2 => kk H locs ls hP hD hS (lvo_sub hl2 (lvo_put hl 5 _ (fun v _ h => by have h : v4 = some v := (by simpa using h); subst h; simpa [c1] using hc))))
theorem V_astore5 (hC : CX E g cc Ts own rm) {x : Nat} {v0 v1 v2 v3 v4 v5 : Option Value} {t : List (Option Value)}  (hd : decode cc pc = .ok (.astore 5, 2))  (hn : 5 < eN E) (hc : c1 v4 = true) (kk : V E g N ad ce sl f (pc + 2) (v0 :: v1 :: v2 :: v3 :: v4 :: some (.ref x) :: t) st) : V E g N ad ce sl f pc (v0 :: v1 :: v2 :: v3 :: v4 :: v5 :: t) (.ref x :: st) := by
  intro H locs ls hP hD hS hl
  exact lv_astore hC.1 hC.2.1 hd  hl hn rfl (fun ls hl2 => kk H locs ls hP hD hS (lvo_sub hl2 (lvo_put hl 5 _ (fun v _ h => by have h : v4 = some v := (by simpa using h); subst h; simpa [c1] using hc))))
theorem V_iinc5 (hC : CX E g cc Ts own rm) {x : Int32} {v0 v1 v2 v3 v4 : Option Value} {t : List (Option Value)} {n : Int} (v : Int32) (hd : decode cc pc = .ok (.iinc 5 n, 3)) (hv : x + Int32.ofInt n = v) (hn : 5 < eN E) (hc : c1 v4 = true) (kk : V E g N ad ce sl f (pc + 3) (v0 :: v1 :: v2 :: v3 :: v4 :: some (.int v) :: t) st) : V E g N ad ce sl f pc (v0 :: v1 :: v2 :: v3 :: v4 :: some (.int x) :: t) st := by
  intro H locs ls hP hD hS hl
  obtain ⟨k, hk⟩ := List.getElem?_of_mem ((lvo_mem (v0 :: v1 :: v2 :: v3 :: v4 :: some (.int x) :: t) 0 5 (.int x)).mpr ⟨5, by omega, rfl⟩)
  exact lv_iinc hC.1 hC.2.1 hd hl hk hv hn rfl (fun ls hl2 => kk H locs ls hP hD hS (lvo_sub hl2 (lvo_put hl 5 _ (fun v _ h => by have h : v4 = some v := (by simpa using h); subst h; simpa [c1] using hc))))
theorem V_istore6 (hC : CX E g cc Ts own rm) {x : Int32} {v0 v1 v2 v3 v4 v5 v6 : Option Value} {t : List (Option Value)}  (hd : decode cc pc = .ok (.istore 6, 2))  (hn : 6 < eN E) (hc : c1 v5 = true) (kk : V E g N ad ce sl f (pc + 2) (v0 :: v1 :: v2 :: v3 :: v4 :: v5 :: some (.int x) :: t) st) : V E g N ad ce sl f pc (v0 :: v1 :: v2 :: v3 :: v4 :: v5 :: v6 :: t) (.int x :: st) := by
  intro H locs ls hP hD hS hl
  exact lv_istore hC.1 hC.2.1 hd  hl hn rfl (fun ls hl2 => kk H locs ls hP hD hS (lvo_sub hl2 (lvo_put hl 6 _ (fun v _ h => by have h : v5 = some v := (by simpa using h); subst h; simpa [c1] using hc))))
theorem V_astore6 (hC : CX E g cc Ts own rm) {x : Nat} {v0 v1 v2 v3 v4 v5 v6 : Option Value} {t : List (Option Value)}  (hd : decode cc pc = .ok (.astore 6, 2))  (hn : 6 < eN E) (hc : c1 v5 = true) (kk : V E g N ad ce sl f (pc + 2) (v0 :: v1 :: v2 :: v3 :: v4 :: v5 :: some (.ref x) :: t) st) : V E g N ad ce sl f pc (v0 :: v1 :: v2 :: v3 :: v4 :: v5 :: v6 :: t) (.ref x :: st) := by
  intro H locs ls hP hD hS hl
  exact lv_astore hC.1 hC.2.1 hd  hl hn rfl (fun ls hl2 => kk H locs ls hP hD hS (lvo_sub hl2 (lvo_put hl 6 _ (fun v _ h => by have h : v5 = some v := (by simpa using h); subst h; simpa [c1] using hc))))
theorem V_iinc6 (hC : CX E g cc Ts own rm) {x : Int32} {v0 v1 v2 v3 v4 v5 : Option Value} {t : List (Option Value)} {n : Int} (v : Int32) (hd : decode cc pc = .ok (.iinc 6 n, 3)) (hv : x + Int32.ofInt n = v) (hn : 6 < eN E) (hc : c1 v5 = true) (kk : V E g N ad ce sl f (pc + 3) (v0 :: v1 :: v2 :: v3 :: v4 :: v5 :: some (.int v) :: t) st) : V E g N ad ce sl f pc (v0 :: v1 :: v2 :: v3 :: v4 :: v5 :: some (.int x) :: t) st := by
  intro H locs ls hP hD hS hl
  obtain ⟨k, hk⟩ := List.getElem?_of_mem ((lvo_mem (v0 :: v1 :: v2 :: v3 :: v4 :: v5 :: some (.int x) :: t) 0 6 (.int x)).mpr ⟨6, by omega, rfl⟩)
  exact lv_iinc hC.1 hC.2.1 hd hl hk hv hn rfl (fun ls hl2 => kk H locs ls hP hD hS (lvo_sub hl2 (lvo_put hl 6 _ (fun v _ h => by have h : v5 = some v := (by simpa using h); subst h; simpa [c1] using hc))))
theorem V_istore7 (hC : CX E g cc Ts own rm) {x : Int32} {v0 v1 v2 v3 v4 v5 v6 v7 : Option Value} {t : List (Option Value)}  (hd : decode cc pc = .ok (.istore 7, 2))  (hn : 7 < eN E) (hc : c1 v6 = true) (kk : V E g N ad ce sl f (pc + 2) (v0 :: v1 :: v2 :: v3 :: v4 :: v5 :: v6 :: some (.int x) :: t) st) : V E g N ad ce sl f pc (v0 :: v1 :: v2 :: v3 :: v4 :: v5 :: v6 :: v7 :: t) (.int x :: st) := by
  intro H locs ls hP hD hS hl
  exact lv_istore hC.1 hC.2.1 hd  hl hn rfl (fun ls hl2 => kk H locs ls hP hD hS (lvo_sub hl2 (lvo_put hl 7 _ (fun v _ h => by have h : v6 = some v := (by simpa using h); subst h; simpa [c1] using hc))))
theorem V_astore7 (hC : CX E g cc Ts own rm) {x : Nat} {v0 v1 v2 v3 v4 v5 v6 v7 : Option Value} {t : List (Option Value)}  (hd : decode cc pc = .ok (.astore 7, 2))  (hn : 7 < eN E) (hc : c1 v6 = true) (kk : V E g N ad ce sl f (pc + 2) (v0 :: v1 :: v2 :: v3 :: v4 :: v5 :: v6 :: some (.ref x) :: t) st) : V E g N ad ce sl f pc (v0 :: v1 :: v2 :: v3 :: v4 :: v5 :: v6 :: v7 :: t) (.ref x :: st) := by
  intro H locs ls hP hD hS hl
  exact lv_astore hC.1 hC.2.1 hd  hl hn rfl (fun ls hl2 => kk H locs ls hP hD hS (lvo_sub hl2 (lvo_put hl 7 _ (fun v _ h => by have h : v6 = some v := (by simpa using h); subst h; simpa [c1] using hc))))
theorem V_iinc7 (hC : CX E g cc Ts own rm) {x : Int32} {v0 v1 v2 v3 v4 v5 v6 : Option Value} {t : List (Option Value)} {n : Int} (v : Int32) (hd : decode cc pc = .ok (.iinc 7 n, 3)) (hv : x + Int32.ofInt n = v) (hn : 7 < eN E) (hc : c1 v6 = true) (kk : V E g N ad ce sl f (pc + 3) (v0 :: v1 :: v2 :: v3 :: v4 :: v5 :: v6 :: some (.int v) :: t) st) : V E g N ad ce sl f pc (v0 :: v1 :: v2 :: v3 :: v4 :: v5 :: v6 :: some (.int x) :: t) st := by
  intro H locs ls hP hD hS hl
  obtain ⟨k, hk⟩ := List.getElem?_of_mem ((lvo_mem (v0 :: v1 :: v2 :: v3 :: v4 :: v5 :: v6 :: some (.int x) :: t) 0 7 (.int x)).mpr ⟨7, by omega, rfl⟩)
  exact lv_iinc hC.1 hC.2.1 hd hl hk hv hn rfl (fun ls hl2 => kk H locs ls hP hD hS (lvo_sub hl2 (lvo_put hl 7 _ (fun v _ h => by have h : v6 = some v := (by simpa using h); subst h; simpa [c1] using hc))))
theorem V_if_eq (hC : CX E g cc Ts own rm) {x : Int32} {off : Int} (tgt : Nat) (hd : decode cc pc = .ok (.ifCond .eq off, 3)) (ht : (pc : Int) + off = (tgt : Int)) (kt : x = 0 → V E g N ad ce sl f tgt lo st) (kf : ¬ x = 0 → V E g N ad ce sl f (pc + 3) lo st) : V E g N ad ce sl f pc lo (.int x :: st) := by
  intro H locs ls hP hD hS hl
  exact lv_if_eq hC.1 hC.2.1 hd ht (fun h => kt h H locs ls hP hD hS hl) (fun h => kf h H locs ls hP hD hS hl)
theorem V_icmp_eq (hC : CX E g cc Ts own rm) {x y : Int32} {off : Int} (tgt : Nat) (hd : decode cc pc = .ok (.if_icmp .eq off, 3)) (ht : (pc : Int) + off = (tgt : Int)) (kt : x = y → V E g N ad ce sl f tgt lo st) (kf : ¬ x = y → V E g N ad ce sl f (pc + 3) lo st) : V E g N ad ce sl f pc lo (.int y :: .int x :: st) := by
  intro H locs ls hP hD hS hl
  exact lv_icmp_eq hC.1 hC.2.1 hd ht (fun h => kt h H locs ls hP hD hS hl) (fun h => kf h H locs ls hP hD hS hl)
theorem V_if_eq_t (hC : CX E g cc Ts own rm) {x : Int32} {off : Int} (tgt : Nat) (hd : decode cc pc = .ok (.ifCond .eq off, 3)) (ht : (pc : Int) + off = (tgt : Int)) (h : x = 0) (kt : V E g N ad ce sl f tgt lo st) : V E g N ad ce sl f pc lo (.int x :: st) := V_if_eq hC tgt hd ht (fun _ => kt) (fun q => absurd h (by first | exact q | exact fun z => z q))
theorem V_icmp_eq_t (hC : CX E g cc Ts own rm) {x y : Int32} {off : Int} (tgt : Nat) (hd : decode cc pc = .ok (.if_icmp .eq off, 3)) (ht : (pc : Int) + off = (tgt : Int)) (h : x = y) (kt : V E g N ad ce sl f tgt lo st) : V E g N ad ce sl f pc lo (.int y :: .int x :: st) := V_icmp_eq hC tgt hd ht (fun _ => kt) (fun q => absurd h (by first | exact q | exact fun z => z q))
theorem V_if_eq_f (hC : CX E g cc Ts own rm) {x : Int32} {off : Int} {tgt : Nat} (hd : decode cc pc = .ok (.ifCond .eq off, 3)) (ht : (pc : Int) + off = (tgt : Int)) (h : ¬ x = 0) (kf : V E g N ad ce sl f (pc + 3) lo st) : V E g N ad ce sl f pc lo (.int x :: st) := V_if_eq hC tgt hd ht (fun q => absurd q (by first | exact h | exact fun z => z h)) (fun _ => kf)
theorem V_icmp_eq_f (hC : CX E g cc Ts own rm) {x y : Int32} {off : Int} {tgt : Nat} (hd : decode cc pc = .ok (.if_icmp .eq off, 3)) (ht : (pc : Int) + off = (tgt : Int)) (h : ¬ x = y) (kf : V E g N ad ce sl f (pc + 3) lo st) : V E g N ad ce sl f pc lo (.int y :: .int x :: st) := V_icmp_eq hC tgt hd ht (fun q => absurd q (by first | exact h | exact fun z => z h)) (fun _ => kf)
theorem V_if_ne (hC : CX E g cc Ts own rm) {x : Int32} {off : Int} (tgt : Nat) (hd : decode cc pc = .ok (.ifCond .ne off, 3)) (ht : (pc : Int) + off = (tgt : Int)) (kt : ¬ x = 0 → V E g N ad ce sl f tgt lo st) (kf : x = 0 → V E g N ad ce sl f (pc + 3) lo st) : V E g N ad ce sl f pc lo (.int x :: st) := by
  intro H locs ls hP hD hS hl
  exact lv_if_ne hC.1 hC.2.1 hd ht (fun h => kt h H locs ls hP hD hS hl) (fun h => kf h H locs ls hP hD hS hl)
theorem V_icmp_ne (hC : CX E g cc Ts own rm) {x y : Int32} {off : Int} (tgt : Nat) (hd : decode cc pc = .ok (.if_icmp .ne off, 3)) (ht : (pc : Int) + off = (tgt : Int)) (kt : ¬ x = y → V E g N ad ce sl f tgt lo st) (kf : x = y → V E g N ad ce sl f (pc + 3) lo st) : V E g N ad ce sl f pc lo (.int y :: .int x :: st) := by
  intro H locs ls hP hD hS hl
  exact lv_icmp_ne hC.1 hC.2.1 hd ht (fun h => kt h H locs ls hP hD hS hl) (fun h => kf h H locs ls hP hD hS hl)
theorem V_if_ne_t (hC : CX E g cc Ts own rm) {x : Int32} {off : Int} (tgt : Nat) (hd : decode cc pc = .ok (.ifCond .ne off, 3)) (ht : (pc : Int) + off = (tgt : Int)) (h : ¬ x = 0) (kt : V E g N ad ce sl f tgt lo st) : V E g N ad ce sl f pc lo (.int x :: st) := V_if_ne hC tgt hd ht (fun _ => kt) (fun q => absurd h (by first | exact q | exact fun z => z q))
theorem V_icmp_ne_t (hC : CX E g cc Ts own rm) {x y : Int32} {off : Int} (tgt : Nat) (hd : decode cc pc = .ok (.if_icmp .ne off, 3)) (ht : (pc : Int) + off = (tgt : Int)) (h : ¬ x = y) (kt : V E g N ad ce sl f tgt lo st) : V E g N ad ce sl f pc lo (.int y :: .int x :: st) := V_icmp_ne hC tgt hd ht (fun _ => kt) (fun q => absurd h (by first | exact q | exact fun z => z q))
theorem V_if_ne_f (hC : CX E g cc Ts own rm) {x : Int32} {off : Int} {tgt : Nat} (hd : decode cc pc = .ok (.ifCond .ne off, 3)) (ht : (pc : Int) + off = (tgt : Int)) (h : x = 0) (kf : V E g N ad ce sl f (pc + 3) lo st) : V E g N ad ce sl f pc lo (.int x :: st) := V_if_ne hC tgt hd ht (fun q => absurd q (by first | exact h | exact fun z => z h)) (fun _ => kf)
theorem V_icmp_ne_f (hC : CX E g cc Ts own rm) {x y : Int32} {off : Int} {tgt : Nat} (hd : decode cc pc = .ok (.if_icmp .ne off, 3)) (ht : (pc : Int) + off = (tgt : Int)) (h : x = y) (kf : V E g N ad ce sl f (pc + 3) lo st) : V E g N ad ce sl f pc lo (.int y :: .int x :: st) := V_icmp_ne hC tgt hd ht (fun q => absurd q (by first | exact h | exact fun z => z h)) (fun _ => kf)
theorem V_if_lt (hC : CX E g cc Ts own rm) {x : Int32} {off : Int} (tgt : Nat) (hd : decode cc pc = .ok (.ifCond .lt off, 3)) (ht : (pc : Int) + off = (tgt : Int)) (kt : x < 0 → V E g N ad ce sl f tgt lo st) (kf : ¬ x < 0 → V E g N ad ce sl f (pc + 3) lo st) : V E g N ad ce sl f pc lo (.int x :: st) := by
  intro H locs ls hP hD hS hl
  exact lv_if_lt hC.1 hC.2.1 hd ht (fun h => kt h H locs ls hP hD hS hl) (fun h => kf h H locs ls hP hD hS hl)
theorem V_icmp_lt (hC : CX E g cc Ts own rm) {x y : Int32} {off : Int} (tgt : Nat) (hd : decode cc pc = .ok (.if_icmp .lt off, 3)) (ht : (pc : Int) + off = (tgt : Int)) (kt : x < y → V E g N ad ce sl f tgt lo st) (kf : ¬ x < y → V E g N ad ce sl f (pc + 3) lo st) : V E g N ad ce sl f pc lo (.int y :: .int x :: st) := by
  intro H locs ls hP hD hS hl
  exact lv_icmp_lt hC.1 hC.2.1 hd ht (fun h => kt h H locs ls hP hD hS hl) (fun h => kf h H locs ls hP hD hS hl)
theorem V_if_lt_t (hC : CX E g cc Ts own rm) {x : Int32} {off : Int} (tgt : Nat) (hd : decode cc pc = .ok (.ifCond .lt off, 3)) (ht : (pc : Int) + off = (tgt : Int)) (h : x < 0) (kt : V E g N ad ce sl f tgt lo st) : V E g N ad ce sl f pc lo (.int x :: st) := V_if_lt hC tgt hd ht (fun _ => kt) (fun q => absurd h (by first | exact q | exact fun z => z q))
theorem V_icmp_lt_t (hC : CX E g cc Ts own rm) {x y : Int32} {off : Int} (tgt : Nat) (hd : decode cc pc = .ok (.if_icmp .lt off, 3)) (ht : (pc : Int) + off = (tgt : Int)) (h : x < y) (kt : V E g N ad ce sl f tgt lo st) : V E g N ad ce sl f pc lo (.int y :: .int x :: st) := V_icmp_lt hC tgt hd ht (fun _ => kt) (fun q => absurd h (by first | exact q | exact fun z => z q))
theorem V_if_lt_f (hC : CX E g cc Ts own rm) {x : Int32} {off : Int} {tgt : Nat} (hd : decode cc pc = .ok (.ifCond .lt off, 3)) (ht : (pc : Int) + off = (tgt : Int)) (h : ¬ x < 0) (kf : V E g N ad ce sl f (pc + 3) lo st) : V E g N ad ce sl f pc lo (.int x :: st) := V_if_lt hC tgt hd ht (fun q => absurd q (by first | exact h | exact fun z => z h)) (fun _ => kf)
theorem V_icmp_lt_f (hC : CX E g cc Ts own rm) {x y : Int32} {off : Int} {tgt : Nat} (hd : decode cc pc = .ok (.if_icmp .lt off, 3)) (ht : (pc : Int) + off = (tgt : Int)) (h : ¬ x < y) (kf : V E g N ad ce sl f (pc + 3) lo st) : V E g N ad ce sl f pc lo (.int y :: .int x :: st) := V_icmp_lt hC tgt hd ht (fun q => absurd q (by first | exact h | exact fun z => z h)) (fun _ => kf)
theorem V_if_ge (hC : CX E g cc Ts own rm) {x : Int32} {off : Int} (tgt : Nat) (hd : decode cc pc = .ok (.ifCond .ge off, 3)) (ht : (pc : Int) + off = (tgt : Int)) (kt : 0 ≤ x → V E g N ad ce sl f tgt lo st) (kf : ¬ 0 ≤ x → V E g N ad ce sl f (pc + 3) lo st) : V E g N ad ce sl f pc lo (.int x :: st) := by
  intro H locs ls hP hD hS hl
  exact lv_if_ge hC.1 hC.2.1 hd ht (fun h => kt h H locs ls hP hD hS hl) (fun h => kf h H locs ls hP hD hS hl)
theorem V_icmp_ge (hC : CX E g cc Ts own rm) {x y : Int32} {off : Int} (tgt : Nat) (hd : decode cc pc = .ok (.if_icmp .ge off, 3)) (ht : (pc : Int) + off = (tgt : Int)) (kt : y ≤ x → V E g N ad ce sl f tgt lo st) (kf : ¬ y ≤ x → V E g N ad ce sl f (pc + 3) lo st) : V E g N ad ce sl f pc lo (.int y :: .int x :: st) := by
  intro H locs ls hP hD hS hl
  exact lv_icmp_ge hC.1 hC.2.1 hd ht (fun h => kt h H locs ls hP hD hS hl) (fun h => kf h H locs ls hP hD hS hl)
theorem V_if_ge_t (hC : CX E g cc Ts own rm) {x : Int32} {off : Int} (tgt : Nat) (hd : decode cc pc = .ok (.ifCond .ge off, 3)) (ht : (pc : Int) + off = (tgt : Int)) (h : 0 ≤ x) (kt : V E g N ad ce sl f tgt lo st) : V E g N ad ce sl f pc lo (.int x :: st) := V_if_ge hC tgt hd ht (fun _ => kt) (fun q => absurd h (by first | exact q | exact fun z => z q))
theorem V_icmp_ge_t (hC : CX E g cc Ts own rm) {x y : Int32} {off : Int} (tgt : Nat) (hd : decode cc pc = .ok (.if_icmp .ge off, 3)) (ht : (pc : Int) + off = (tgt : Int)) (h : y ≤ x) (kt : V E g N ad ce sl f tgt lo st) : V E g N ad ce sl f pc lo (.int y :: .int x :: st) := V_icmp_ge hC tgt hd ht (fun _ => kt) (fun q => absurd h (by first | exact q | exact fun z => z q))
theorem V_if_ge_f (hC : CX E g cc Ts own rm) {x : Int32} {off : Int} {tgt : Nat} (hd : decode cc pc = .ok (.ifCond .ge off, 3)) (ht : (pc : Int) + off = (tgt : Int)) (h : ¬ 0 ≤ x) (kf : V E g N ad ce sl f (pc + 3) lo st) : V E g N ad ce sl f pc lo (.int x :: st) := V_if_ge hC tgt hd ht (fun q => absurd q (by first | exact h | exact fun z => z h)) (fun _ => kf)
theorem V_icmp_ge_f (hC : CX E g cc Ts own rm) {x y : Int32} {off : Int} {tgt : Nat} (hd : decode cc pc = .ok (.if_icmp .ge off, 3)) (ht : (pc : Int) + off = (tgt : Int)) (h : ¬ y ≤ x) (kf : V E g N ad ce sl f (pc + 3) lo st) : V E g N ad ce sl f pc lo (.int y :: .int x :: st) := V_icmp_ge hC tgt hd ht (fun q => absurd q (by first | exact h | exact fun z => z h)) (fun _ => kf)
theorem V_if_gt (hC : CX E g cc Ts own rm) {x : Int32} {off : Int} (tgt : Nat) (hd : decode cc pc = .ok (.ifCond .gt off, 3)) (ht : (pc : Int) + off = (tgt : Int)) (kt : 0 < x → V E g N ad ce sl f tgt lo st) (kf : ¬ 0 < x → V E g N ad ce sl f (pc + 3) lo st) : V E g N ad ce sl f pc lo (.int x :: st) := by
  intro H locs ls hP hD hS hl
  exact lv_if_gt hC.1 hC.2.1 hd ht (fun h => kt h H locs ls hP hD hS hl) (fun h => kf h H locs ls hP hD hS hl)
theorem V_icmp_gt (hC : CX E g cc Ts own rm) {x y : Int32} {off : Int} (tgt : Nat) (hd : decode cc pc = .ok (.if_icmp .gt off, 3)) (ht : (pc : Int) + off = (tgt : Int)) (kt : y < x → V E g N ad ce sl f tgt lo st) (kf : ¬ y < x → V E g N ad ce sl f (pc + 3) lo st) : V E g N ad ce sl f pc lo (.int y :: .int x :: st) := by
  intro H locs ls hP hD hS hl
  exact lv_icmp_gt hC.1 hC.2.1 hd ht (fun h => kt h H locs ls hP hD hS hl) (fun h => kf h H locs ls hP hD hS hl)
theorem V_if_gt_t (hC : CX E g cc Ts own rm) {x : Int32} {off : Int} (tgt : Nat) (hd : decode cc pc = .ok (.ifCond .gt off, 3)) (ht : (pc : Int) + off = (tgt : Int)) (h : 0 < x) (kt : V E g N ad ce sl f tgt lo st) : V E g N ad ce sl f pc lo (.int x :: st) := V_if_gt hC tgt hd ht (fun _ => kt) (fun q => absurd h (by first | exact q | exact fun z => z q))
theorem V_icmp_gt_t (hC : CX E g cc Ts own rm) {x y : Int32} {off : Int} (tgt : Nat) (hd : decode cc pc = .ok (.if_icmp .gt off, 3)) (ht : (pc : Int) + off = (tgt : Int)) (h : y < x) (kt : V E g N ad ce sl f tgt lo st) : V E g N ad ce sl f pc lo (.int y :: .int x :: st) := V_icmp_gt hC tgt hd ht (fun _ => kt) (fun q => absurd h (by first | exact q | exact fun z => z q))
theorem V_if_gt_f (hC : CX E g cc Ts own rm) {x : Int32} {off : Int} {tgt : Nat} (hd : decode cc pc = .ok (.ifCond .gt off, 3)) (ht : (pc : Int) + off = (tgt : Int)) (h : ¬ 0 < x) (kf : V E g N ad ce sl f (pc + 3) lo st) : V E g N ad ce sl f pc lo (.int x :: st) := V_if_gt hC tgt hd ht (fun q => absurd q (by first | exact h | exact fun z => z h)) (fun _ => kf)
theorem V_icmp_gt_f (hC : CX E g cc Ts own rm) {x y : Int32} {off : Int} {tgt : Nat} (hd : decode cc pc = .ok (.if_icmp .gt off, 3)) (ht : (pc : Int) + off = (tgt : Int)) (h : ¬ y < x) (kf : V E g N ad ce sl f (pc + 3) lo st) : V E g N ad ce sl f pc lo (.int y :: .int x :: st) := V_icmp_gt hC tgt hd ht (fun q => absurd q (by first | exact h | exact fun z => z h)) (fun _ => kf)
theorem V_if_le (hC : CX E g cc Ts own rm) {x : Int32} {off : Int} (tgt : Nat) (hd : decode cc pc = .ok (.ifCond .le off, 3)) (ht : (pc : Int) + off = (tgt : Int)) (kt : x ≤ 0 → V E g N ad ce sl f tgt lo st) (kf : ¬ x ≤ 0 → V E g N ad ce sl f (pc + 3) lo st) : V E g N ad ce sl f pc lo (.int x :: st) := by
  intro H locs ls hP hD hS hl
  exact lv_if_le hC.1 hC.2.1 hd ht (fun h => kt h H locs ls hP hD hS hl) (fun h => kf h H locs ls hP hD hS hl)
theorem V_icmp_le (hC : CX E g cc Ts own rm) {x y : Int32} {off : Int} (tgt : Nat) (hd : decode cc pc = .ok (.if_icmp .le off, 3)) (ht : (pc : Int) + off = (tgt : Int)) (kt : x ≤ y → V E g N ad ce sl f tgt lo st) (kf : ¬ x ≤ y → V E g N ad ce sl f (pc + 3) lo st) : V E g N ad ce sl f pc lo (.int y :: .int x :: st) := by
  intro H locs ls hP hD hS hl
  exact lv_icmp_le hC.1 hC.2.1 hd ht (fun h => kt h H locs ls hP hD hS hl) (fun h => kf h H locs ls hP hD hS hl)
theorem V_if_le_t (hC : CX E g cc Ts own rm) {x : Int32} {off : Int} (tgt : Nat) (hd : decode cc pc = .ok (.ifCond .le off, 3)) (ht : (pc : Int) + off = (tgt : Int)) (h : x ≤ 0) (kt : V E g N ad ce sl f tgt lo st) : V E g N ad ce sl f pc lo (.int x :: st) := V_if_le hC tgt hd ht (fun _ => kt) (fun q => absurd h (by first | exact q | exact fun z => z q))
theorem V_icmp_le_t (hC : CX E g cc Ts own rm) {x y : Int32} {off : Int} (tgt : Nat) (hd : decode cc pc = .ok (.if_icmp .le off, 3)) (ht : (pc : Int) + off = (tgt : Int)) (h : x ≤ y) (kt : V E g N ad ce sl f tgt lo st) : V E g N ad ce sl f pc lo (.int y :: .int x :: st) := V_icmp_le hC tgt hd ht (fun _ => kt) (fun q => absurd h (by first | exact q | exact fun z => z q))
theorem V_if_le_f (hC : CX E g cc Ts own rm) {x : Int32} {off : Int} {tgt : Nat} (hd : decode cc pc = .ok (.ifCond .le off, 3)) (ht : (pc : Int) + off = (tgt : Int)) (h : ¬ x ≤ 0) (kf : V E g N ad ce sl f (pc + 3) lo st) : V E g N ad ce sl f pc lo (.int x :: st) := V_if_le hC tgt hd ht (fun q => absurd q (by first | exact h | exact fun z => z h)) (fun _ => kf)
theorem V_icmp_le_f (hC : CX E g cc Ts own rm) {x y : Int32} {off : Int} {tgt : Nat} (hd : decode cc pc = .ok (.if_icmp .le off, 3)) (ht : (pc : Int) + off = (tgt : Int)) (h : ¬ x ≤ y) (kf : V E g N ad ce sl f (pc + 3) lo st) : V E g N ad ce sl f pc lo (.int y :: .int x :: st) := V_icmp_le hC tgt hd ht (fun q => absurd q (by first | exact h | exact fun z => z h)) (fun _ => kf)
theorem V_goto (hC : CX E g cc Ts own rm) {off : Int} (tgt : Nat) (hd : decode cc pc = .ok (.goto off, 3)) (ht : (pc : Int) + off = (tgt : Int)) (k : V E g N ad ce sl f tgt lo st) : V E g N ad ce sl f pc lo st := by
  intro H locs ls hP hD hS hl
  exact lv_goto hC.1 hC.2.1 hd ht (k H locs ls hP hD hS hl)
theorem V_lookup (hC : CX E g cc Ts own rm) {x : Int32} {dflt : Int} {ps : Array (Int × Int)} {len : Nat} {off : Int} (tgt : Nat) (hd : decode cc pc = .ok (.lookupswitch dflt ps, len)) (hp : (ps.toList.zip (ps.toList.drop 1)).all (fun (a, next) => a.1 < next.1) = true) (ho : Op.lookupswitch.offset ps.toList dflt x.toInt = off) (ht : (pc : Int) + off = (tgt : Int)) (k : V E g N ad ce sl f tgt lo st) : V E g N ad ce sl f pc lo (.int x :: st) := by
  intro H locs ls hP hD hS hl
  exact lv_lookup hC.1 hC.2.1 hd hp ho ht (k H locs ls hP hD hS hl)
theorem V_tableOut (hC : CX E g cc Ts own rm) {x : Int32} {dflt a b : Int} {offs : Array Int} {len : Nat} (tgt : Nat) (hd : decode cc pc = .ok (.tableswitch dflt a b offs, len)) (h : x.toInt < a ∨ b < x.toInt) (ht : (pc : Int) + dflt = (tgt : Int)) (k : V E g N ad ce sl f tgt lo st) : V E g N ad ce sl f pc lo (.int x :: st) := by
  intro H locs ls hP hD hS hl
  exact lv_tableOut hC.1 hC.2.1 hd h ht (k H locs ls hP hD hS hl)
theorem V_tableIn (hC : CX E g cc Ts own rm) {x : Int32} {dflt a b : Int} {offs : Array Int} {len : Nat} {off : Int} (tgt : Nat) (hd : decode cc pc = .ok (.tableswitch dflt a b offs, len)) (h1 : ¬ x.toInt < a) (h2 : ¬ b < x.toInt) (ho : offs[(x.toInt - a).toNat]? = some off) (ht : (pc : Int) + off = (tgt : Int)) (k : V E g N ad ce sl f tgt lo st) : V E g N ad ce sl f pc lo (.int x :: st) := by
  intro H locs ls hP hD hS hl
  exact lv_tableIn hC.1 hC.2.1 hd h1 h2 ho ht (k H locs ls hP hD hS hl)
theorem V_ldc2 (hC : CX E g cc Ts own rm) {index : Nat} {v : Int64} (hd : decode cc pc = .ok (.ldc2_w index, 3)) (hw : Cond.constantLong own index v ∈ Ts) (k : V E g N ad ce sl f (pc + 3) lo (.long v :: st)) : V E g N ad ce sl f pc lo st := by
  intro H locs ls hP hD hS hl
  exact lv_ldc2 hC.1 hC.2.1 hC.2.2.2.1 (hC.2.2.2.2.1 _ hw) hd (k H locs ls hP hD hS hl)
/-! names for values, so that terms stay small -/
theorem V_top {x : Int32} (k : ∀ y : Int32, y = x → V E g N ad ce sl f pc lo (.int y :: st)) : V E g N ad ce sl f pc lo (.int x :: st) := k x rfl
theorem V_eqt {x : Int32} (y : Int32) (h : x = y) (k : V E g N ad ce sl f pc lo (.int y :: st)) : V E g N ad ce sl f pc lo (.int x :: st) := h ▸ k
theorem V_st {st2 : List Value} (h : st = st2) (k : V E g N ad ce sl f pc lo st2) : V E g N ad ce sl f pc lo st := h ▸ k
theorem V_lo {lo2 : List (Option Value)} (h : ∀ q ∈ lvo 0 lo2, q ∈ lvo 0 lo) (k : V E g N ad ce sl f pc lo2 st) : V E g N ad ce sl f pc lo st := fun H locs ls hP hD hS hl => k H locs ls hP hD hS (lvo_sub hl h)
theorem V_f {f2 : Nat → va_E} (h : f = f2) (k : V E g N ad ce sl f2 pc lo st) : V E g N ad ce sl f pc lo st := h ▸ k
/-! fields -/
theorem V_get (hC : CX E g cc Ts own rm) {i ci : Nat} {fs : List Value} {C : String} {T : u_T} {Nf index : Nat} {v : Value} (k : Nat) (hd : decode cc pc = .ok (.getfield index, 3)) (hi : i < N) (hf : f i = .inr (ci, fs)) (hc : vwCl[ci]? = some (C, T, Nf)) (hk : k < Nf) (hin : ∀ w ∈ u_ws C T Nf, w ∈ Ts) (hlink : Cond.fieldLink own index (T k).1 (T k).2.1 (T k).2.2.1 ∈ Ts) (hv : fs[k]? = some v)
    (kk : V E g N ad ce sl f (pc + 3) lo (v :: st)) : V E g N ad ce sl f pc lo (.ref (ad i) :: st) := by
  intro H locs ls hP hD hS hl
  exact va_get hC.1 hC.2.1 hC.2.2.2.2.1 hin hC.2.2.2.1 hC.2.2.2.2.2.1 hP i (fs := fs) (by rw [wl_get hi, hf]) hc k hk (hC.2.2.2.2.1 _ hlink) (fun _ h => h) hv hd (kk H locs ls hP hD hS hl)
theorem V_put (hC : CX E g cc Ts own rm) {i ci : Nat} {fs : List Value} {C : String} {T : u_T} {Nf index : Nat} {v : Value} {ty0 : Nat → FieldType} {ty : FieldType} (k : Nat) (hd : decode cc pc = .ok (.putfield index, 3)) (hi : i < N) (hf : f i = .inr (ci, fs)) (hc : vwCl[ci]? = some (C, T, Nf)) (hk : k < Nf) (hin : ∀ w ∈ u_ws C T Nf, w ∈ Ts) (hlink : Cond.fieldLink own index (T k).1 (T k).2.1 (T k).2.2.1 ∈ Ts)
    (hty : ∀ k, k < Nf → parseFieldDescriptor (T k).2.2.1 = some (ty0 k)) (hnm : ∀ a, a < Nf → ∀ b, b < Nf → a ≠ b → (T a).2.1 ≠ (T b).2.1) (hfin : (T k).2.2.2 = false) (hp : parseFieldDescriptor (T k).2.2.1 = some ty) (hn : narrow ty v = v) (hfit : fits ty v = true) (hlen : k < fs.length)
    (kk : V E g N ad ce sl (va_up f i (.inr (ci, fs.set k v))) (pc + 3) lo st) : V E g N ad ce sl f pc lo (v :: .ref (ad i) :: st) := by
  intro H locs ls hP hD hS hl
  refine va_put hC.1 hC.2.1 hC.2.2.2.2.1 hin ty0 hty hnm hC.2.2.2.1 hC.2.2.2.2.2.1 hP hD hS i (fs := fs) (by rw [wl_get hi, hf]) hc k hk (hC.2.2.2.2.1 _ hlink) (fun _ h => h) hfin hp hn hfit hlen hd (fun H1 locs1 hP1 hD1 hS1 => ?_)
  rw [wl_set hi] at hP1 hD1
  exact kk H1 locs1 ls hP1 hD1 hS1 hl
theorem V_putF (hC : CX E g cc Ts own rm) (hin2 : (eH E).name = "<init>") {i ci : Nat} {fs : List Value} {C : String} {T : u_T} {Nf index : Nat} {v : Value} {ty0 : Nat → FieldType} {ty : FieldType} (k : Nat) (hd : decode cc pc = .ok (.putfield index, 3)) (hi : i < N) (hf : f i = .inr (ci, fs)) (hc : vwCl[ci]? = some (C, T, Nf)) (hk : k < Nf) (hin : ∀ w ∈ u_ws C T Nf, w ∈ Ts) (hlink : Cond.fieldLink own index (T k).1 (T k).2.1 (T k).2.2.1 ∈ Ts)
    (hty : ∀ k, k < Nf → parseFieldDescriptor (T k).2.2.1 = some (ty0 k)) (hnm : ∀ a, a < Nf → ∀ b, b < Nf → a ≠ b → (T a).2.1 ≠ (T b).2.1) (hfin : (T k).2.2.2 = true) (hdecl : (T k).1 = own) (hp : parseFieldDescriptor (T k).2.2.1 = some ty) (hn : narrow ty v = v) (hfit : fits ty v = true) (hlen : k < fs.length)
    (kk : V E g N ad ce sl (va_up f i (.inr (ci, fs.set k v))) (pc + 3) lo st) : V E g N ad ce sl f pc lo (v :: .ref (ad i) :: st) := by
  intro H locs ls hP hD hS hl
  refine va_putF hC.1 hC.2.1 hC.2.2.2.2.1 hin ty0 hty hnm hC.2.2.2.1 hC.2.2.2.2.2.1 hP hD hS i (fs := fs) (by rw [wl_get hi, hf]) hc k hk (hC.2.2.2.2.1 _ hlink) (fun _ h => h) hfin hin2 hdecl hp hn hfit hlen hd (fun H1 locs1 hP1 hD1 hS1 => ?_)
  rw [wl_set hi] at hP1 hD1
  exact kk H1 locs1 ls hP1 hD1 hS1 hl
/-! arrays -/
theorem V_iald (hC : CX E g cc Ts own rm) {i n k : Nat} {j : Int32} {a : Nat → Int32} (hd : decode cc pc = .ok (.iaload, 1)) (hi : i < N) (hf : f i = .inl (g.2.1 0, n, .inl a)) (hx : ix j k n) (kk : V E g N ad ce sl f (pc + 1) lo (.int (a k) :: st)) : V E g N ad ce sl f pc lo (.int j :: .ref (ad i) :: st) := by
  intro H locs ls hP hD hS hl
  obtain ⟨h1, h2⟩ := hx
  subst h2
  exact va_iald hC.1 hC.2.1 hC.2.2.2.2.2.1 hP i 0 (by rw [wl_get hi, hf]) rfl h1 hd (kk H locs ls hP hD hS hl)
theorem V_cald (hC : CX E g cc Ts own rm) {i n k : Nat} {j : Int32} {a : Nat → Int32} (hd : decode cc pc = .ok (.caload, 1)) (hi : i < N) (hf : f i = .inl (g.2.1 1, n, .inl a)) (hx : ix j k n) (kk : V E g N ad ce sl f (pc + 1) lo (.int (a k) :: st)) : V E g N ad ce sl f pc lo (.int j :: .ref (ad i) :: st) := by
  intro H locs ls hP hD hS hl
  obtain ⟨h1, h2⟩ := hx
  subst h2
  exact va_cald hC.1 hC.2.1 hC.2.2.2.2.2.1 hP i 1 (by rw [wl_get hi, hf]) rfl h1 hd (kk H locs ls hP hD hS hl)
theorem V_zald (hC : CX E g cc Ts own rm) {i n k : Nat} {j : Int32} {a : Nat → Int32} (hd : decode cc pc = .ok (.baload, 1)) (hi : i < N) (hf : f i = .inl (g.2.1 2, n, .inl a)) (hx : ix j k n) (kk : V E g N ad ce sl f (pc + 1) lo (.int (a k) :: st)) : V E g N ad ce sl f pc lo (.int j :: .ref (ad i) :: st) := by
  intro H locs ls hP hD hS hl
  obtain ⟨h1, h2⟩ := hx
  subst h2
  exact va_zald hC.1 hC.2.1 hC.2.2.2.2.2.1 hP i 2 (by rw [wl_get hi, hf]) rfl h1 hd (kk H locs ls hP hD hS hl)
theorem V_iast (hC : CX E g cc Ts own rm) {i n k : Nat} {j x : Int32} {a : Nat → Int32} (hd : decode cc pc = .ok (.iastore, 1)) (hi : i < N) (hf : f i = .inl (g.2.1 0, n, .inl a)) (hx : ix j k n) (kk : V E g N ad ce sl (va_up f i (.inl (g.2.1 0, n, .inl (upd a k x)))) (pc + 1) lo st) : V E g N ad ce sl f pc lo (.int x :: .int j :: .ref (ad i) :: st) := by
  intro H locs ls hP hD hS hl
  obtain ⟨h1, h2⟩ := hx
  subst h2
  refine va_iast hC.1 hC.2.1 hC.2.2.2.2.2.1 hP hD hS i 0 (by rw [wl_get hi, hf]) rfl h1 hd (fun H1 locs1 hP1 hD1 hS1 => ?_)
  rw [wl_set hi] at hP1 hD1
  exact kk H1 locs1 ls hP1 hD1 hS1 hl
theorem V_cast (hC : CX E g cc Ts own rm) {i n k : Nat} {j x : Int32} {a : Nat → Int32} (hd : decode cc pc = .ok (.castore, 1)) (hi : i < N) (hf : f i = .inl (g.2.1 1, n, .inl a)) (hx : ix j k n) (kk : V E g N ad ce sl (va_up f i (.inl (g.2.1 1, n, .inl (upd a k (vp_nar .char x))))) (pc + 1) lo st) : V E g N ad ce sl f pc lo (.int x :: .int j :: .ref (ad i) :: st) := by
  intro H locs ls hP hD hS hl
  obtain ⟨h1, h2⟩ := hx
  subst h2
  refine va_cast hC.1 hC.2.1 hC.2.2.2.2.2.1 hP hD hS i 1 (by rw [wl_get hi, hf]) rfl h1 hd (fun H1 locs1 hP1 hD1 hS1 => ?_)
  rw [wl_set hi] at hP1 hD1
  exact kk H1 locs1 ls hP1 hD1 hS1 hl
theorem V_zast (hC : CX E g cc Ts own rm) {i n k : Nat} {j x : Int32} {a : Nat → Int32} (hd : decode cc pc = .ok (.bastore, 1)) (hi : i < N) (hf : f i = .inl (g.2.1 2, n, .inl a)) (hx : ix j k n) (kk : V E g N ad ce sl (va_up f i (.inl (g.2.1 2, n, .inl (upd a k (vp_nar .boolean x))))) (pc + 1) lo st) : V E g N ad ce sl f pc lo (.int x :: .int j :: .ref (ad i) :: st) := by
  intro H locs ls hP hD hS hl
  obtain ⟨h1, h2⟩ := hx
  subst h2
  refine va_zast hC.1 hC.2.1 hC.2.2.2.2.2.1 hP hD hS i 2 (by rw [wl_get hi, hf]) rfl h1 hd (fun H1 locs1 hP1 hD1 hS1 => ?_)
  rw [wl_set hi] at hP1 hD1
  exact kk H1 locs1 ls hP1 hD1 hS1 hl
theorem V_alen (hC : CX E g cc Ts own rm) {i t0 : Nat} {ty : FieldType} {cA : ClassId} {x : vp_A} (v : Int32) (hd : decode cc pc = .ok (.arraylength, 1)) (hi : i < N) (hf : f i = .inl (cA, x)) (ht : (gT g)[t0]? = some (cA, ty)) (hv : Int32.ofNat x.1 = v) (kk : V E g N ad ce sl f (pc + 1) lo (.int v :: st)) : V E g N ad ce sl f pc lo (.ref (ad i) :: st) := by
  intro H locs ls hP hD hS hl
  exact va_alen hC.1 hC.2.1 hC.2.2.2.2.2.1 hP i t0 (by rw [wl_get hi, hf]) ht hv hd (kk H locs ls hP hD hS hl)
theorem V_aald (hC : CX E g cc Ts own rm) {i n k t0 : Nat} {C : String} {cA : ClassId} {j : Int32} {a : Nat → Option Nat} (hd : decode cc pc = .ok (.aaload, 1)) (hi : i < N) (hf : f i = .inl (cA, n, .inr (.inr (.inr (.inr a))))) (ht : (gT g)[t0]? = some (cA, .object C)) (hx : ix j k n) {v : Nat} (hv : a k = some v) (kk : V E g N ad ce sl f (pc + 1) lo (.ref v :: st)) : V E g N ad ce sl f pc lo (.int j :: .ref (ad i) :: st) := by
  intro H locs ls hP hD hS hl
  obtain ⟨h1, h2⟩ := hx
  subst h2
  refine va_aldq hC.1 hC.2.1 hC.2.2.2.2.2.1 hP i t0 (by rw [wl_get hi, hf]) ht h1 hd ?_
  rw [hv]
  exact kk H locs ls hP hD hS hl
theorem V_aast (hC : CX E g cc Ts own rm) {i n k t0 q ci : Nat} {r : vw_C} {vs : List Value} {cA : ClassId} {j : Int32} {a : Nat → Option Nat} (hd : decode cc pc = .ok (.aastore, 1)) (hi : i < N) (hf : f i = .inl (cA, n, .inr (.inr (.inr (.inr a))))) (ht : (gT g)[t0]? = some (cA, .object r.1)) (hq : q < N) (hfq : f q = .inr (ci, vs)) (hc : vwCl[ci]? = some r) (hx : ix j k n)
    (kk : V E g N ad ce sl (va_up f i (.inl (cA, n, .inr (.inr (.inr (.inr (va_up a k (some (ad q)))))))))  (pc + 1) lo st) : V E g N ad ce sl f pc lo (.ref (ad q) :: .int j :: .ref (ad i) :: st) := by
  intro H locs ls hP hD hS hl
  obtain ⟨h1, h2⟩ := hx
  subst h2
  refine va_astq hC.1 hC.2.1 hC.2.2.2.2.2.1 hP hD hS i t0 q ci (vs := vs) (by rw [wl_get hi, hf]) ht (by rw [wl_get hq, hfq]) hc h1 hd (fun H1 locs1 hP1 hD1 hS1 => ?_)
  rw [wl_set hi] at hP1 hD1
  exact kk H1 locs1 ls hP1 hD1 hS1 hl
theorem V_copy (hC : CX E g cc Ts own rm) {i0 i1 n0 n1 k : Nat} {a b : Nat → Int32} {index : Nat} {n : Int32} (hd : decode cc pc = .ok (.invokestatic index, 3)) (hw1 : Cond.methodLink own index arraycopyName ∈ Ts) (hw2 : Cond.native arraycopyName ∈ Ts) (hw3 : Cond.static arraycopyName ∈ Ts) (hw4 : Cond.initialized "java/lang/System" ∈ Ts)
    (hi0 : i0 < N) (hf0 : f i0 = .inl (g.2.1 0, n0, .inl a)) (hi1 : i1 < N) (hf1 : f i1 = .inl (g.2.1 0, n1, .inl b)) (hn : ¬ n < 0) (hk : n.toNatClampNeg = k) (h4 : k ≤ n0) (h5 : k ≤ n1) (hR : 1 ≤ rm.frames) (hR2 : (st.map fun v => v.category).sum + (nativeFrameWords "java/lang/System" "arraycopy" 5 + 11) ≤ rm.locals)
    (kk : V E g N ad ce sl (va_up f i1 (.inl (g.2.1 0, n1, .inl (va_cpy a b 0 0 k)))) (pc + 3) lo st) : V E g N ad ce sl f pc lo (.int n :: .int 0 :: .ref (ad i1) :: .int 0 :: .ref (ad i0) :: st) := by
  intro H locs ls hP hD hS hl
  obtain ⟨c1, c2, c3, c4, c5, c6, c7, c8, c9, c10⟩ := hC
  subst hk
  refine va_copyi c1 c2 (c3.trans hl.1.symm) c4 (c5 _ hw1) (c5 _ hw2) (c5 _ hw3) (c5 _ hw4) c6 hP hD hS i0 i1 0 0 (by rw [wl_get hi0, hf0]) (by rw [wl_get hi1, hf1]) rfl rfl rfl (sp := 0) (dp := 0) (by decide) (by decide) hn (by simpa using h4) (by simpa using h5) (fun _ _ => rfl) (by rw [c10]; exact hR) (by rw [c10]; exact hR2) hd (fun H1 locs1 hP1 hD1 hS1 => ?_)
  rw [wl_set hi1] at hP1 hD1
  exact kk H1 locs1 ls hP1 hD1 hS1 hl
/-! static arrays -/
theorem V_gets (hC : CX E g cc Ts own rm) {k index Nk : Nat} {C n : String} {l : List Int32} (hs : SF1 g k C n Nk l (eS E)) (hd : decode cc pc = .ok (.getstatic index, 3)) (hlink : Cond.fieldLink own index C n "[I" ∈ Ts) (kk : V E g N ad ce sl f (pc + 3) lo (.ref (g.2.2.2 k) :: st)) : V E g N ad ce sl f pc lo st := by
  intro H locs ls hP hD hS hl
  exact va_gets hC.1 hC.2.1 hs.1 hS hC.2.2.2.1 (hC.2.2.2.2.1 _ hlink) (fun _ h => h) hd (kk H locs ls hP hD hS hl)
theorem V_tald (hC : CX E g cc Ts own rm) {k j Nk : Nat} {C n : String} {l : List Int32} {i : Int32} (hs : SF1 g k C n Nk l (eS E)) (hd : decode cc pc = .ok (.iaload, 1)) (hx : ix i j Nk) (kk : V E g N ad ce sl f (pc + 1) lo (.int (lstA l j) :: st)) : V E g N ad ce sl f pc lo (.int i :: .ref (g.2.2.2 k) :: st) := by
  intro H locs ls hP hD hS hl
  obtain ⟨h1, h2⟩ := hx
  subst h2
  exact va_ti hC.1 hC.2.1 hs.2 hS h1 rfl hd (kk H locs ls hP hD hS hl)
theorem V_talen (hC : CX E g cc Ts own rm) {k Nk : Nat} {C n : String} {l : List Int32} (hs : SF1 g k C n Nk l (eS E)) (v : Int32) (hv : Int32.ofNat Nk = v) (hd : decode cc pc = .ok (.arraylength, 1)) (kk : V E g N ad ce sl f (pc + 1) lo (.int v :: st)) : V E g N ad ce sl f pc lo (.ref (g.2.2.2 k) :: st) := by
  intro H locs ls hP hD hS hl
  obtain ⟨cell, h1, h2, h3, h4, h5, h6, h7⟩ := hs.2
  exact W.alen (n := v) hC.1 hC.2.1 (by rw [hS.2.1 _ (Array.getElem?_eq_some_iff.mp h1).1 h7]; exact h1) h2 (by rw [h5, hv]) rfl rfl hd (kk H locs ls hP hD hS hl)
/-! Math.min, Math.abs -/
theorem V_min (hC : CX E g cc Ts own rm) {index : Nat} {x y : Int32} (hd : decode cc pc = .ok (.invokestatic index, 3)) (hw1 : Cond.methodLink own index Lib.Math.min.name ∈ Ts) (hw2 : Cond.static Lib.Math.min.name ∈ Ts) (hw3 : Cond.initialized "java/lang/Math" ∈ Ts) (hw4 : Cond.code Lib.Math.min.name Lib.Math.min.code 2 (some .int) ∈ Ts) (hR : 1 ≤ rm.frames) (hR2 : (st.map fun v => v.category).sum + 13 ≤ rm.locals) (hR3 : ce ≤ rm.cells ∧ sl ≤ rm.slots) (kk : V E g N ad ce sl f (pc + 3) lo (.int (if y < x then y else x) :: st)) : V E g N ad ce sl f pc lo (.int y :: .int x :: st) := by
  intro H locs ls hP hD hS hl
  obtain ⟨c1, c2, c3, c4, c5, c6, c7, c8, c9, c10⟩ := hC
  subst c10
  exact va_mmin c1 c2 (c3.trans hl.1.symm) c4 (c5 _ hw1) (c5 _ hw2) (c5 _ hw3) (c5 _ hw4) hR hR2 hR3.1 hR3.2 hd (kk H locs ls hP hD hS hl)
theorem V_abs (hC : CX E g cc Ts own rm) {index : Nat} {x : Int32} (hd : decode cc pc = .ok (.invokestatic index, 3)) (hw1 : Cond.methodLink own index Lib.Math.abs.name ∈ Ts) (hw2 : Cond.static Lib.Math.abs.name ∈ Ts) (hw3 : Cond.initialized "java/lang/Math" ∈ Ts) (hw4 : Cond.code Lib.Math.abs.name Lib.Math.abs.code 1 (some .int) ∈ Ts) (hR : 1 ≤ rm.frames) (hR2 : (st.map fun v => v.category).sum + 13 ≤ rm.locals) (hR3 : ce ≤ rm.cells ∧ sl ≤ rm.slots) (kk : V E g N ad ce sl f (pc + 3) lo (.int (if 0 ≤ x then x else 0 - x) :: st)) : V E g N ad ce sl f pc lo (.int x :: st) := by
  intro H locs ls hP hD hS hl
  obtain ⟨c1, c2, c3, c4, c5, c6, c7, c8, c9, c10⟩ := hC
  subst c10
  exact va_mabs c1 c2 (c3.trans hl.1.symm) c4 (c5 _ hw1) (c5 _ hw2) (c5 _ hw3) (c5 _ hw4) hR hR2 hR3.1 hR3.2 hd (kk H locs ls hP hD hS hl)

/-! calls -/
theorem WC.blind {g : GE} {N : Nat} {ad : Nat → Nat} {f : Nat → va_E} {av : List Value} : FrameBlind (va_Pc av (WC g N ad f)) := by
  intro a U gf mk q
  obtain ⟨q0, qP, qK, qD, qz, qS, q1, q2, q3, q4, q5⟩ := q
  exact ⟨q0, qP, va_K.moved (u := U) (U := U.calling gf mk a) (Vm.Alike.refl U.vm) qK, qD, qz, SF.go (u := U) (U := U.calling gf mk a) qS (Vm.Alike.refl U.vm) (fun _ _ _ => rfl), va_Nw.same rfl rfl q1, va_Nw.same rfl rfl q2, va_Nw.same rfl rfl q3, va_AO.moved (u := U) (U := U.calling gf mk a) (Vm.Alike.refl U.vm) q4, va_AO.moved (u := U) (U := U.calling gf mk a) (Vm.Alike.refl U.vm) q5⟩
theorem WC.at (hC : CX E g cc Ts own rm) {H : Heap} {locs : List Loc} (hP : va_P g.1 vwCl (wl N ad f) H) (hD : va_D (gA g) (wl N ad f)) (hS : va_S (gA g) (eS E).heap H locs) {U : State} (hU : U.heap = H) (hW : (eS E).WarmedH U.vm) : WC g N ad f U := by
  obtain ⟨c1, c2, c3, c4, c5, c6, c7, c8, ⟨d1, d2, d3, d4, d5⟩, c10⟩ := hC
  refine ⟨by rw [hU]; exact hP, va_K.moved hW.alike c6, hD, by rw [hU]; exact Nat.le_trans c7 hS.1, c8.go hW.alike (fun a h1 h2 => by rw [hU]; exact hS.2.1 a h1 h2), d1.warmM hW, d2.warmM hW, ?_, d4.moved hW.alike, d5.moved hW.alike⟩
  exact va_tabs rfl (rfl : ((eS E).setVm U.vm).vm = U.vm) ((Cond.castable_setVm (args := #[]) hW.alike "[I" "java/lang/Cloneable").trans d3)
theorem V_run (hC : CX E g cc Ts own rm) {post : Option Value → Nat → (Nat → Nat) → (Nat → va_E) → Prop} {mc ms : Nat} {a : Array Value} {rest : List Value}
    (hr : ∀ (H : Heap) (locs : List Loc) (ls : Array Slot), va_P g.1 vwCl (wl N ad f) H → va_D (gA g) (wl N ad f) → va_S (gA g) (eS E).heap H locs → ls.size = eN E → va_Run (eP E) (eL E) (eE E) (eR E) (eS E) (eM E) (eA E) (eB E) (eH E) (eC E) H locs ce sl mc ms (F0 (eM E) pc ls st) rest (Qg g post a) (gA g))
    (kk : ∀ (r : Option Value) (N' : Nat) (ad' : Nat → Nat) (u : Nat → va_E), post r N' ad' u → V E g N' ad' (ce + mc) (sl + ms) u (pc + 3) lo (r.toList ++ rest)) : V E g N ad ce sl f pc lo st := by
  intro H locs ls hP hD hS hl T hT X
  obtain ⟨v, st₀, t, T', L, h0, X', hL, e1, e2, ⟨⟨r, N', ad', u, hv, hp, hP1, hD1⟩, hz, hk⟩, sx⟩ := hr H locs ls hP hD hS hl.1 T hT X
  cases hv
  rw [h0] at hz hk
  obtain ⟨t2, a1, b1⟩ := kk _ N' ad' u hp T'.heap (locs ++ L) ls (by rw [e1]; exact hP1) hD1 ⟨Nat.le_trans hS.1 (by rw [e1]; exact hz), fun q h1 h2 => by rw [e1, hk q (Nat.lt_of_lt_of_le h1 hS.1) h2]; exact hS.2.1 q h1 h2, fun q hq => by
    rcases List.mem_append.mp hq with h | h
    · exact hS.2.2 q h
    · exact hL q h⟩ hl T' rfl X'
  exact ⟨t2, sx t2 a1, b1⟩
theorem V_cv (hC : CX E g cc Ts own rm) {y : MethodName} {ws ws' : List Cond} {rm2 : Room} {post : Option Value → Nat → (Nat → Nat) → (Nat → va_E) → Prop} {mc ms n index maxL i ci Nf : Nat} {As rest : List Value} {C : String} {T : u_T} {fs : List Value} {bytes : ByteArray} {ret : Option FieldType}
    (hM : Ct g (eL E) y ws rm2 N ad (.ref (ad i) :: As) f post mc ms) (hn : As.length = n) (hG : GoodIn Ts (wsV own index C y ws)) (hw : ws = Cond.code y bytes maxL ret :: ws') (hrc : rm2.cells = mc ∧ rm2.slots = ms) (hd2 : y.cls = C ∧ y.cls ≠ "java/lang/invoke/MethodHandle" ∧ y.cls ≠ "java/lang/invoke/VarHandle" ∧ (parseMethodDescriptor y.desc).map (fun d => d.parameters.length) = some n)
    (hR : rm2.frames + 1 ≤ rm.frames ∧ 8 + (maxL + 11) + rm2.locals ≤ rm.locals) (hi : i < N) (hf : f i = .inr (ci, fs)) (hcl : vwCl[ci]? = some (C, T, Nf)) (hst : st = As.reverse ++ .ref (ad i) :: rest) (hcat : (rest.map fun v => v.category).sum ≤ 8) (hd : decode cc pc = .ok (.invokevirtual index, 3)) (hf2 : ce + mc ≤ rm.cells ∧ sl + ms ≤ rm.slots)
    (kk : ∀ (r : Option Value) (N' : Nat) (ad' : Nat → Nat) (u : Nat → va_E), post r N' ad' u → V E g N' ad' (ce + mc) (sl + ms) u (pc + 3) lo (r.toList ++ rest)) : V E g N ad ce sl f pc lo st := by
  have hC0 := hC
  obtain ⟨c1, c2, c3, c4, c5, c6, c7, c8, c9, c10⟩ := hC
  subst c10
  refine V_run (post := post) (a := (Value.ref (ad i) :: As).toArray) hC0 (fun H locs ls hP hD hS hsz => ?_) kk
  exact va_runV (As := As) (rest := rest) ⟨c1, c2, c3, c4, c5⟩ hM (cwV n c5 hG hw hrc.1 hrc.2 hd2 hR) ⟨WC.blind, va_recv c6 hP (ci := ci) (q0 := i) hcl (by rw [wl_get hi, hf]), fun U hU hW => ⟨rfl, WC.at hC0 hP hD hS hU hW⟩⟩ rfl hn hsz hst (lv_room hcat) hd hf2
theorem V_cs (hC : CX E g cc Ts own rm) {y : MethodName} {ws ws' : List Cond} {rm2 : Room} {post : Option Value → Nat → (Nat → Nat) → (Nat → va_E) → Prop} {mc ms n index maxL : Nat} {As rest : List Value} {bytes : ByteArray} {ret : Option FieldType}
    (hM : Ct g (eL E) y ws rm2 N ad As f post mc ms) (hn : As.length = n) (hG : GoodIn Ts (va_wsS own index y ws)) (hw : ws = Cond.code y bytes maxL ret :: ws') (hrc : rm2.cells = mc ∧ rm2.slots = ms) (hd2 : y.cls ≠ "java/lang/invoke/MethodHandle" ∧ y.cls ≠ "java/lang/invoke/VarHandle" ∧ (parseMethodDescriptor y.desc).map (fun d => d.parameters.length) = some n)
    (hR : rm2.frames + 1 ≤ rm.frames ∧ 8 + (maxL + 11) + rm2.locals ≤ rm.locals) (hst : st = As.reverse ++ rest) (hcat : (rest.map fun v => v.category).sum ≤ 8) (hd : decode cc pc = .ok (.invokestatic index, 3)) (hf2 : ce + mc ≤ rm.cells ∧ sl + ms ≤ rm.slots)
    (kk : ∀ (r : Option Value) (N' : Nat) (ad' : Nat → Nat) (u : Nat → va_E), post r N' ad' u → V E g N' ad' (ce + mc) (sl + ms) u (pc + 3) lo (r.toList ++ rest)) : V E g N ad ce sl f pc lo st := by
  have hC0 := hC
  obtain ⟨c1, c2, c3, c4, c5, c6, c7, c8, c9, c10⟩ := hC
  subst c10
  refine V_run (post := post) (a := As.toArray) hC0 (fun H locs ls hP hD hS hsz => ?_) kk
  exact va_runS (As := As) (rest := rest) ⟨c1, c2, c3, c4, c5⟩ hM (va_cwS n c5 hG hw hrc.1 hrc.2 hd2 hR) ⟨WC.blind, fun U hU hW => ⟨rfl, WC.at hC0 hP hD hS hU hW⟩⟩ rfl hn hsz hst (lv_room hcat) hd hf2

theorem V_cvI (hC : CX E g cc Ts own rm) {y : MethodName} {ws ws' : List Cond} {rm2 : Room} {n index maxL i ci Nf : Nat} {As rest : List Value} {C : String} {T : u_T} {fs : List Value} {bytes : ByteArray} {ret : Option FieldType} {P : Int32 → (Nat → va_E) → Prop}
    (hM : Ct g (eL E) y ws rm2 N ad (.ref (ad i) :: As) f (pI N ad P) 0 0) (hd : decode cc pc = .ok (.invokevirtual index, 3)) (hG : GoodIn Ts (wsV own index C y ws)) (hst : st = As.reverse ++ .ref (ad i) :: rest) (hn : As.length = n) (hw : ws = Cond.code y bytes maxL ret :: ws') (hrc : rm2.cells = 0 ∧ rm2.slots = 0) (hd2 : y.cls = C ∧ y.cls ≠ "java/lang/invoke/MethodHandle" ∧ y.cls ≠ "java/lang/invoke/VarHandle" ∧ (parseMethodDescriptor y.desc).map (fun d => d.parameters.length) = some n)
    (hR : rm2.frames + 1 ≤ rm.frames ∧ 8 + (maxL + 11) + rm2.locals ≤ rm.locals) (hi : i < N) (hf : f i = .inr (ci, fs)) (hcl : vwCl[ci]? = some (C, T, Nf)) (hcat : (rest.map fun v => v.category).sum ≤ 8) (hf2 : ce ≤ rm.cells ∧ sl ≤ rm.slots) (kk : ∀ (x : Int32) (u : Nat → va_E), P x u → V E g N ad ce sl u (pc + 3) lo (.int x :: rest)) : V E g N ad ce sl f pc lo st := by
  refine V_cv hC hM hn hG hw hrc hd2 hR hi hf hcl hst hcat hd hf2 (fun r N' ad' u h => ?_)
  obtain ⟨rfl, rfl, x, rfl, h⟩ := h
  exact kk x u h
theorem V_cvV (hC : CX E g cc Ts own rm) {y : MethodName} {ws ws' : List Cond} {rm2 : Room} {n index maxL i ci Nf : Nat} {As rest : List Value} {C : String} {T : u_T} {fs : List Value} {bytes : ByteArray} {ret : Option FieldType} {P : (Nat → va_E) → Prop}
    (hM : Ct g (eL E) y ws rm2 N ad (.ref (ad i) :: As) f (pV N ad P) 0 0) (hd : decode cc pc = .ok (.invokevirtual index, 3)) (hG : GoodIn Ts (wsV own index C y ws)) (hst : st = As.reverse ++ .ref (ad i) :: rest) (hn : As.length = n) (hw : ws = Cond.code y bytes maxL ret :: ws') (hrc : rm2.cells = 0 ∧ rm2.slots = 0) (hd2 : y.cls = C ∧ y.cls ≠ "java/lang/invoke/MethodHandle" ∧ y.cls ≠ "java/lang/invoke/VarHandle" ∧ (parseMethodDescriptor y.desc).map (fun d => d.parameters.length) = some n)
    (hR : rm2.frames + 1 ≤ rm.frames ∧ 8 + (maxL + 11) + rm2.locals ≤ rm.locals) (hi : i < N) (hf : f i = .inr (ci, fs)) (hcl : vwCl[ci]? = some (C, T, Nf)) (hcat : (rest.map fun v => v.category).sum ≤ 8) (hf2 : ce ≤ rm.cells ∧ sl ≤ rm.slots) (kk : ∀ (u : Nat → va_E), P u → V E g N ad ce sl u (pc + 3) lo rest) : V E g N ad ce sl f pc lo st := by
  refine V_cv hC hM hn hG hw hrc hd2 hR hi hf hcl hst hcat hd hf2 (fun r N' ad' u h => ?_)
  obtain ⟨rfl, rfl, rfl, h⟩ := h
  exact kk u h
theorem V_cvR (hC : CX E g cc Ts own rm) {y : MethodName} {ws ws' : List Cond} {rm2 : Room} {n index maxL i ci Nf : Nat} {As rest : List Value} {C : String} {T : u_T} {fs : List Value} {bytes : ByteArray} {ret : Option FieldType} {P : Nat → (Nat → va_E) → Prop}
    (hM : Ct g (eL E) y ws rm2 N ad (.ref (ad i) :: As) f (pR N ad P) 0 0) (hd : decode cc pc = .ok (.invokevirtual index, 3)) (hG : GoodIn Ts (wsV own index C y ws)) (hst : st = As.reverse ++ .ref (ad i) :: rest) (hn : As.length = n) (hw : ws = Cond.code y bytes maxL ret :: ws') (hrc : rm2.cells = 0 ∧ rm2.slots = 0) (hd2 : y.cls = C ∧ y.cls ≠ "java/lang/invoke/MethodHandle" ∧ y.cls ≠ "java/lang/invoke/VarHandle" ∧ (parseMethodDescriptor y.desc).map (fun d => d.parameters.length) = some n)
    (hR : rm2.frames + 1 ≤ rm.frames ∧ 8 + (maxL + 11) + rm2.locals ≤ rm.locals) (hi : i < N) (hf : f i = .inr (ci, fs)) (hcl : vwCl[ci]? = some (C, T, Nf)) (hcat : (rest.map fun v => v.category).sum ≤ 8) (hf2 : ce ≤ rm.cells ∧ sl ≤ rm.slots) (kk : ∀ (x : Nat) (u : Nat → va_E), P x u → V E g N ad ce sl u (pc + 3) lo (.ref x :: rest)) : V E g N ad ce sl f pc lo st := by
  refine V_cv hC hM hn hG hw hrc hd2 hR hi hf hcl hst hcat hd hf2 (fun r N' ad' u h => ?_)
  obtain ⟨rfl, rfl, x, rfl, h⟩ := h
  exact kk x u h
theorem V_csI (hC : CX E g cc Ts own rm) {y : MethodName} {ws ws' : List Cond} {rm2 : Room} {n index maxL : Nat} {As rest : List Value} {bytes : ByteArray} {ret : Option FieldType} {P : Int32 → (Nat → va_E) → Prop}
    (hM : Ct g (eL E) y ws rm2 N ad As f (pI N ad P) 0 0) (hd : decode cc pc = .ok (.invokestatic index, 3)) (hG : GoodIn Ts (va_wsS own index y ws)) (hst : st = As.reverse ++ rest) (hn : As.length = n) (hw : ws = Cond.code y bytes maxL ret :: ws') (hrc : rm2.cells = 0 ∧ rm2.slots = 0) (hd2 : y.cls ≠ "java/lang/invoke/MethodHandle" ∧ y.cls ≠ "java/lang/invoke/VarHandle" ∧ (parseMethodDescriptor y.desc).map (fun d => d.parameters.length) = some n)
    (hR : rm2.frames + 1 ≤ rm.frames ∧ 8 + (maxL + 11) + rm2.locals ≤ rm.locals) (hcat : (rest.map fun v => v.category).sum ≤ 8) (hf2 : ce ≤ rm.cells ∧ sl ≤ rm.slots) (kk : ∀ (x : Int32) (u : Nat → va_E), P x u → V E g N ad ce sl u (pc + 3) lo (.int x :: rest)) : V E g N ad ce sl f pc lo st := by
  refine V_cs hC hM hn hG hw hrc hd2 hR hst hcat hd hf2 (fun r N' ad' u h => ?_)
  obtain ⟨rfl, rfl, x, rfl, h⟩ := h
  exact kk x u h
theorem V_csV (hC : CX E g cc Ts own rm) {y : MethodName} {ws ws' : List Cond} {rm2 : Room} {n index maxL : Nat} {As rest : List Value} {bytes : ByteArray} {ret : Option FieldType} {P : (Nat → va_E) → Prop}
    (hM : Ct g (eL E) y ws rm2 N ad As f (pV N ad P) 0 0) (hd : decode cc pc = .ok (.invokestatic index, 3)) (hG : GoodIn Ts (va_wsS own index y ws)) (hst : st = As.reverse ++ rest) (hn : As.length = n) (hw : ws = Cond.code y bytes maxL ret :: ws') (hrc : rm2.cells = 0 ∧ rm2.slots = 0) (hd2 : y.cls ≠ "java/lang/invoke/MethodHandle" ∧ y.cls ≠ "java/lang/invoke/VarHandle" ∧ (parseMethodDescriptor y.desc).map (fun d => d.parameters.length) = some n)
    (hR : rm2.frames + 1 ≤ rm.frames ∧ 8 + (maxL + 11) + rm2.locals ≤ rm.locals) (hcat : (rest.map fun v => v.category).sum ≤ 8) (hf2 : ce ≤ rm.cells ∧ sl ≤ rm.slots) (kk : ∀ (u : Nat → va_E), P u → V E g N ad ce sl u (pc + 3) lo rest) : V E g N ad ce sl f pc lo st := by
  refine V_cs hC hM hn hG hw hrc hd2 hR hst hcat hd hf2 (fun r N' ad' u h => ?_)
  obtain ⟨rfl, rfl, rfl, h⟩ := h
  exact kk u h
theorem V_csR (hC : CX E g cc Ts own rm) {y : MethodName} {ws ws' : List Cond} {rm2 : Room} {n index maxL : Nat} {As rest : List Value} {bytes : ByteArray} {ret : Option FieldType} {P : Nat → (Nat → va_E) → Prop}
    (hM : Ct g (eL E) y ws rm2 N ad As f (pR N ad P) 0 0) (hd : decode cc pc = .ok (.invokestatic index, 3)) (hG : GoodIn Ts (va_wsS own index y ws)) (hst : st = As.reverse ++ rest) (hn : As.length = n) (hw : ws = Cond.code y bytes maxL ret :: ws') (hrc : rm2.cells = 0 ∧ rm2.slots = 0) (hd2 : y.cls ≠ "java/lang/invoke/MethodHandle" ∧ y.cls ≠ "java/lang/invoke/VarHandle" ∧ (parseMethodDescriptor y.desc).map (fun d => d.parameters.length) = some n)
    (hR : rm2.frames + 1 ≤ rm.frames ∧ 8 + (maxL + 11) + rm2.locals ≤ rm.locals) (hcat : (rest.map fun v => v.category).sum ≤ 8) (hf2 : ce ≤ rm.cells ∧ sl ≤ rm.slots) (kk : ∀ (x : Nat) (u : Nat → va_E), P x u → V E g N ad ce sl u (pc + 3) lo (.ref x :: rest)) : V E g N ad ce sl f pc lo st := by
  refine V_cs hC hM hn hG hw hrc hd2 hR hst hcat hd hf2 (fun r N' ad' u h => ?_)
  obtain ⟨rfl, rfl, x, rfl, h⟩ := h
  exact kk x u h
/-! the ends -/
theorem V_iret (hC : CX E g cc Ts own rm) {post : Option Value → Nat → (Nat → Nat) → (Nat → va_E) → Prop} {v : Int32} (hR : RT E g ce sl (some .int) post) (hd : decode cc pc = .ok (.ireturn, 1)) (hp : post (some (.int v)) N ad f) : V E g N ad ce sl f pc lo [.int v] := by
  intro H locs ls hP hD hS hl
  rw [hR.2.2]
  exact W.iret hC.1 hC.2.1 hR.1 (fun t ht _ => ⟨⟨_, N, ad, f, rfl, hp, by rw [ht]; exact hP, hD⟩, hS.F ht⟩) hS.2.2 hd hR.2.1
theorem V_zret (hC : CX E g cc Ts own rm) {post : Option Value → Nat → (Nat → Nat) → (Nat → va_E) → Prop} {v : Int32} {ty : FieldType} (hR : RT E g ce sl (some ty) post) (hn : narrow ty (.int v) = .int v) (hd : decode cc pc = .ok (.ireturn, 1)) (hp : post (some (.int v)) N ad f) : V E g N ad ce sl f pc lo [.int v] := by
  intro H locs ls hP hD hS hl
  rw [hR.2.2]
  exact W.zret hC.1 hC.2.1 hR.1 hn (fun t ht _ => ⟨⟨_, N, ad, f, rfl, hp, by rw [ht]; exact hP, hD⟩, hS.F ht⟩) hS.2.2 hd hR.2.1
theorem V_vret (hC : CX E g cc Ts own rm) {post : Option Value → Nat → (Nat → Nat) → (Nat → va_E) → Prop} (hR : RT E g ce sl none post) (hd : decode cc pc = .ok (.return_, 1)) (hp : post none N ad f) : V E g N ad ce sl f pc lo [] := by
  intro H locs ls hP hD hS hl
  rw [hR.2.2]
  exact W.vret hC.1 hC.2.1 hR.1 (fun t ht _ => ⟨⟨_, N, ad, f, rfl, hp, by rw [ht]; exact hP, hD⟩, hS.F ht⟩) hS.2.2 hd hR.2.1
theorem V_aret (hC : CX E g cc Ts own rm) {post : Option Value → Nat → (Nat → Nat) → (Nat → va_E) → Prop} {a : Nat} {rt : FieldType} (hR : RT E g ce sl (some rt) post) (hrt : (∃ n, rt = .object n) ∨ ∃ t, rt = .array t) (hd : decode cc pc = .ok (.areturn, 1)) (hp : post (some (.ref a)) N ad f) : V E g N ad ce sl f pc lo [.ref a] := by
  intro H locs ls hP hD hS hl
  rw [hR.2.2]
  exact W.aret hC.1 hC.2.1 hR.1 hrt (Or.inr ⟨a, rfl⟩) (fun t ht _ => ⟨⟨_, N, ad, f, rfl, hp, by rw [ht]; exact hP, hD⟩, hS.F ht⟩) hS.2.2 hd hR.2.1
theorem V_widen {ce2 sl2 : Nat} (h1 : ce ≤ ce2) (h2 : sl ≤ sl2) (k : V E g N ad ce2 sl2 f pc lo st) : V E g N ad ce sl f pc lo st := fun H locs ls hP hD hS hl => W.widen h1 h2 (k H locs ls hP hD hS hl)
end
/-- a contract out of a walk -/
theorem Ct.of {g : GE} {l : Launch} {y : MethodName} {ws ws' : List Cond} {rm : Room} {N : Nat} {ad : Nat → Nat} {av : List Value} {f : Nat → va_E} {post : Option Value → Nat → (Nat → Nat) → (Nat → va_E) → Prop} {mc ms : Nat} {cc : ByteArray} {maxL : Nat} {ret : Option FieldType} (hw : ws = Cond.code y cc maxL ret :: ws') (hy : plainName y.cls = true) (lo : List (Option Value)) (hav : (lg_sl av).length ≤ maxL) (hlo : ∀ q ∈ lvo 0 lo, q ∈ lv_args 0 av)
    (body : ∀ E : EV, eN E = maxL → (eH E).name = y.name → CX E g cc ws y.cls rm → RT E g mc ms ret post → V E g N ad 0 0 f 0 lo []) : Ct g l y ws rm N ad av f post mc ms := by
  refine Met.ofW (cc := cc) (maxL := maxL) (ret := ret) hy hw ?_
  intro p e s m args below meth c s₁ B hml hv
  obtain ⟨rfl, hP, hK, hD, hz, hSF, hNF⟩ := hv
  have hts := atoms_spec (ws := ws) B.pre
  have hown : s.vm.findClass y.cls = some m.cls := findClass_of_methodNamed B.named
  rw [lg_entry_eq]
  have hl := lvo_sub (lv_entry av (n := maxL) hav) hlo
  exact body (p, l, e, rm, s, m, av.toArray, below, meth, c, maxL, MQ below (Qg g post) av.toArray s mc ms (gA g)) rfl (name_of_methodNamed B.named B.method).1 ⟨B.exec, B.bytes, hml, hown, hts, hK, hz, hSF, hNF, rfl⟩ ⟨B.returns, B.notSynchronized, rfl⟩ s.heap [] _ hP hD va_S.rf hl
