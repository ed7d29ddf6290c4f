theorem inX0_X0_letPass : ∀ w ∈ wsX00, w ∈ wsX0_letPass := by decide +kernel
theorem inX1_X0_letPass : ∀ w ∈ wsX10, w ∈ wsX0_letPass := by decide +kernel
abbrev rmX0_letPass : Room := { frames := 4, cells := 0, slots := 0, locals := 107 }
set_option maxHeartbeats 4000000 in
set_option maxRecDepth 100000 in
theorem c_X0_letPass (g : GE) (lau : Launch) {N : Nat} {ad : Nat → Nat} {f : Nat → va_E} {c : Nat} {s t : Nat → Int32} {p : Nat → Nat} {bc : Int32} {co ex : Nat → Int32} {rc : Int32} {pl : Nat → Int32} {pn : Int32} {wy : Nat → Int32} {gx : Nat → Nat → Int32} (hN : c + 16 ≤ N) {m : MT} (hm : RepB s t p bc co ex rc pl pn wy gx m) (v : Int32) (hok : ∀ n, n ≤ 99 → TicksOK n m) (hmk : MarkOK m) : Ct g lau yX0_letPass wsX0_letPass rmX0_letPass N ad [.ref (ad c), .int (v)] (zB g ad f c s t p bc co ex rc pl pn wy gx) (pI N ad (fun x u => x = (mPass v m).1 ∧ BIs g ad f c (mPass v m).2 u)) 0 0 := by
  refine Ct.of (maxL := 3) rfl (by decide +kernel) [some (.ref (ad c)), some (.int (v)), none] (Nat.le_of_ble_eq_true rfl) (by simp [lvo, lv_args, Value.category]) (fun E hnl _ hC hR => ?_)
  have e8 := hm.1.2.1 0 (by decide) (by decide) (by decide) (by decide)
  have hm0 := hm
  obtain ⟨hh, hx, hr, hp⟩ := hm
  refine V_iload_n hC dX0_letPass_0 rfl rfl ?_
  refine V_iconst hC 1 dX0_letPass_1 (by decide) ?_
  refine V_icmp_lt hC 11 dX0_letPass_2 (by decide) (fun c2 => ?_) (fun c2 => ?_)
  · refine V_bipush hC (-2) dX0_letPass_11 (by decide) ?_
    refine V_iret hC hR dX0_letPass_13 ⟨rfl, rfl, _, rfl, ?_⟩
    have hj : okT v = false := by simp only [okT, Bool.and_eq_false_iff, decide_eq_false_iff_not]; first | exact Or.inl (Int32.not_le.mpr c2) | exact Or.inr (Int32.not_le.mpr (Int32.not_le.mp c8))
    rw [mPass, hj]
    exact ⟨rfl, BIs.mk hm0⟩
  · refine V_iload_n hC dX0_letPass_5 rfl rfl ?_
    refine V_bipush hC 99 dX0_letPass_6 (by decide) ?_
    refine V_icmp_le hC 14 dX0_letPass_8 (by decide) (fun c8 => ?_) (fun c8 => ?_)
    · have hj : okT v = true := by simp only [okT, Bool.and_eq_true, decide_eq_true_eq]; exact ⟨Int32.not_lt.mp c2, c8⟩
      obtain ⟨n, hn, rfl⟩ := okT_n hj
      refine V_aload_n hC dX0_letPass_14 rfl rfl ?_
      refine V_B_tallies hC hN dX0_letPass_15 inX0_X0_letPass (by decide +kernel) ?_
      refine V_iconst hC 0 dX0_letPass_18 (by decide) ?_
      refine V_B_ld2 hC hN (k := 0) dX0_letPass_19 (ix_c (by decide)) ?_
      refine V_iload_n hC dX0_letPass_20 rfl rfl ?_
      refine V_iadd hC dX0_letPass_21 ?_
      refine V_sipush hC 20000 dX0_letPass_22 (by decide) ?_
      refine V_icmp_le hC 31 dX0_letPass_25 (by decide) (fun c25 => ?_) (fun c25 => ?_)
      · rw [e8] at c25
        refine V_aload_n hC dX0_letPass_31 rfl rfl ?_
        refine V_cvI (n := 0) hC (c_X0_howManyLeft g (eL E) hN hh) dX0_letPass_32 gX0_letPass_X0_howManyLeft rfl rfl rfl ⟨rfl, rfl⟩ (by decide +kernel) (by decide +kernel) (by omega) zB_0 rfl (Nat.le_of_ble_eq_true rfl) (by decide) (fun x32 u32 h32 => ?_)
        obtain ⟨rfl, rfl⟩ := h32
        refine V_istore_n2 hC dX0_letPass_35 rfl (by rw [hnl]; decide) rfl ?_
        refine V_aload_n hC dX0_letPass_36 rfl rfl ?_
        refine V_iload_n hC dX0_letPass_37 rfl rfl ?_
        refine V_cvV (n := 1) hC (c_X0_tickOn g (eL E) hN (n := n) (by omega) hm0 (hok n hn) hmk) dX0_letPass_38 gX0_letPass_X0_tickOn rfl rfl rfl ⟨rfl, rfl⟩ (by decide +kernel) (by decide +kernel) (by omega) zB_0 rfl (Nat.le_of_ble_eq_true rfl) (by decide) (fun u38 h38 => ?_)
        obtain ⟨s2, t2, p2, bc2, co2, ex2, rc2, pl2, pn2, wy2, gx2, rfl, hm2⟩ := h38
        refine V_aload_n hC dX0_letPass_41 rfl rfl ?_
        refine V_cvI (n := 0) hC (c_X0_howManyLeft g (eL E) hN hm2.1) dX0_letPass_42 gX0_letPass_X0_howManyLeft rfl rfl rfl ⟨rfl, rfl⟩ (by decide +kernel) (by decide +kernel) (by omega) zB_0 rfl (Nat.le_of_ble_eq_true rfl) (by decide) (fun x42 u42 h42 => ?_)
        obtain ⟨rfl, rfl⟩ := h42
        refine V_iload_n hC dX0_letPass_45 rfl rfl ?_
        refine V_isub hC dX0_letPass_46 ?_
        refine V_iret hC hR dX0_letPass_47 ⟨rfl, rfl, _, rfl, ?_⟩
        rw [mPass, hj]
        simp only [if_true]
        rw [if_neg (Int32.not_lt.mpr c25), nI_clamp (by omega)]
        exact ⟨rfl, BIs.mk hm2⟩
      · rw [e8] at c25
        refine V_bipush hC (-4) dX0_letPass_28 (by decide) ?_
        refine V_iret hC hR dX0_letPass_30 ⟨rfl, rfl, _, rfl, ?_⟩
        rw [mPass, hj]
        simp only [if_true]
        rw [if_pos (Int32.not_le.mp c25)]
        exact ⟨rfl, BIs.mk hm0⟩
    · refine V_bipush hC (-2) dX0_letPass_11 (by decide) ?_
      refine V_iret hC hR dX0_letPass_13 ⟨rfl, rfl, _, rfl, ?_⟩
      have hj : okT v = false := by simp only [okT, Bool.and_eq_false_iff, decide_eq_false_iff_not]; first | exact Or.inl (Int32.not_le.mpr c2) | exact Or.inr (Int32.not_le.mpr (Int32.not_le.mp c8))
      rw [mPass, hj]
      exact ⟨rfl, BIs.mk hm0⟩
theorem Met.ofWF {l : Launch} {y : MethodName} {ws ws' : List Cond} {rm : Room} {Pc : Array Value → State → Prop} {Qc : Array Value → State → Outcome → State → Prop} {mc ms : Nat} {free : Addr → Prop} {cc : ByteArray} {maxL : Nat} {ret : Option FieldType}
    (hy : plainFor y = true) (hw : ws = Cond.code y cc maxL ret :: ws')
    (body : ∀ p e s m args below meth c s₁, BodyLoose p l y (headSpec ws rm) cc maxL ret e s m args below meth c s₁ → c.maxLocals = maxL → Pc args s →
      W p l e (headSpec ws rm).room s m args below meth c s.heap [] 0 0 (MQ below Qc args s mc ms free) (entryFrame m args maxL)) : Met l y ws rm Pc Qc mc ms free := by
  refine MetFree.of_bodySF (code := cc) (maxLocals := maxL) (ret := ret) hy (fun args s m h hn => ?_) (fun p e s m args below meth c s₁ B hml hP _ => ?_)
  · obtain ⟨meth, c, h1, h2, h3, h4, h5, h6, -, -⟩ := Cond.code_spec hn (atoms_spec (ws := ws) h _ (by rw [hw]; exact List.mem_cons_self))
    exact ⟨meth, c, h1, h2, h3, h4, h5, h6⟩
  · obtain ⟨t, a1, o, b1, b2, b3⟩ := body p e s m args below meth c s₁ B hml hP s₁ (by rw [B.state]; rfl) (Stand.of_body B)
    exact ⟨t, o, a1, b1, b2, ⟨b3.1, b3.2⟩⟩
/-- a contract out of a walk, of a method of the Java platform -/
theorem Ct.ofF {g : GE} {l : Launch} {y : MethodName} {ws ws' : List Cond} {rm : Room} {N : Nat} {ad : Nat → Nat} {av : List Value} {f : Nat → va_E} {post : Option Value → Nat → (Nat → Nat) → (Nat → va_E) → Prop} {mc ms : Nat} {cc : ByteArray} {maxL : Nat} {ret : Option FieldType} (hw : ws = Cond.code y cc maxL ret :: ws') (hy : plainFor y = true) (lo : List (Option Value)) (hav : (lg_sl av).length ≤ maxL) (hlo : ∀ q ∈ lvo 0 lo, q ∈ lv_args 0 av)
    (body : ∀ E : EV, eN E = maxL → (eH E).name = y.name → CX E g cc ws y.cls rm → RT E g mc ms ret post → V E g N ad 0 0 f 0 lo []) : Ct g l y ws rm N ad av f post mc ms := by
  refine Met.ofWF (cc := cc) (maxL := maxL) (ret := ret) hy hw ?_
  intro p e s m args below meth c s₁ B hml hv
  obtain ⟨rfl, hP, hK, hD, hz, hSF, hNF⟩ := hv
  have hts := atoms_spec (ws := ws) B.pre
  have hown : s.vm.findClass y.cls = some m.cls := findClass_of_methodNamed B.named
  rw [lg_entry_eq]
  have hl := lvo_sub (lv_entry av (n := maxL) hav) hlo
  exact body (p, l, e, rm, s, m, av.toArray, below, meth, c, maxL, MQ below (Qg g post) av.toArray s mc ms (gA g)) rfl (name_of_methodNamed B.named B.method).1 ⟨B.exec, B.bytes, hml, hown, hts, hK, hz, hSF, hNF, rfl⟩ ⟨B.returns, B.notSynchronized, rfl⟩ s.heap [] _ hP hD va_S.rf hl
def fdv (x y : Int32) : Int32 := if (x ^^^ y) < 0 ∧ ¬ x / y * y = x then x / y - 1 else x / y
def fmd (x y : Int32) : Int32 := if (x ^^^ y) < 0 ∧ ¬ x - x / y * y = 0 then x - x / y * y + y else x - x / y * y
theorem fdv_half_p : ∀ n : Fin 27, fdv (nI n.val) 2 = halfD (nI n.val) := by decide +kernel
theorem fdv_half_n : ∀ n : Fin 27, fdv (-(nI n.val)) 2 = halfD (-(nI n.val)) := by decide +kernel
theorem nI_of_int {x : Int32} {n : Nat} (h : x.toInt = n) (hn : n < 2 ^ 31) : x = nI n := by
  rw [← Int32.toInt_inj, nI_toInt hn]
  exact h
theorem fdv_half {d : Int32} (h1 : -26 ≤ d.toInt) (h2 : d.toInt ≤ 26) : fdv d 2 = halfD d := by
  by_cases h : 0 ≤ d.toInt
  · obtain ⟨n, hn⟩ := Int.eq_ofNat_of_zero_le h
    have e := nI_of_int hn (by omega)
    subst e
    exact fdv_half_p ⟨n, by omega⟩
  · obtain ⟨n, hn⟩ := Int.eq_ofNat_of_zero_le (a := - d.toInt) (by omega)
    have e : -d = nI n := nI_of_int (by rw [i_neg (by omega)]; exact hn) (by omega)
    have e2 : d = -(nI n) := by rw [← e, Int32.neg_neg]
    subst e2
    exact fdv_half_n ⟨n, by omega⟩
theorem okLen_i {v : Int32} (h : okLen v = true) : 4 ≤ v.toInt ∧ v.toInt ≤ 30 := by
  simp only [okLen, Bool.and_eq_true, decide_eq_true_eq, Int32.le_iff_toInt_le] at h
  exact h
theorem fdv_len {a b : Int32} (ha : okLen a = true) (hb : okLen b = true) : fdv (a - b) 2 = halfD (a - b) := by
  have h1 := okLen_i ha
  have h2 := okLen_i hb
  have e : (a - b).toInt = a.toInt - b.toInt := i_sub (by omega) (by omega)
  exact fdv_half (by omega) (by omega)
abbrev rmJ9_floorDiv_7cf53 : Room := { frames := 0, cells := 0, slots := 0, locals := 0 }
set_option maxHeartbeats 4000000 in
set_option maxRecDepth 100000 in
theorem c_J9_floorDiv_7cf53 (g : GE) (lau : Launch) {N : Nat} {ad : Nat → Nat} {f : Nat → va_E} (v y : Int32) (hy : ¬ y = 0) : Ct g lau yJ9_floorDiv_7cf53 wsJ9_floorDiv_7cf53 rmJ9_floorDiv_7cf53 N ad [.int v, .int y] f (pI N ad (fun x u => x = fdv v y ∧ u = f)) 0 0 := by
  refine Ct.ofF (maxL := 3) rfl (by decide +kernel) [some (.int v), some (.int y), none] (Nat.le_of_ble_eq_true rfl) (by simp [lvo, lv_args, Value.category]) (fun E hnl _ hC hR => ?_)
  refine V_iload_n hC dJ9_floorDiv_7cf53_0 rfl rfl ?_
  refine V_iload_n hC dJ9_floorDiv_7cf53_1 rfl rfl ?_
  refine V_idiv hC dJ9_floorDiv_7cf53_2 hy ?_
  refine V_istore_n2 hC dJ9_floorDiv_7cf53_3 rfl (by rw [hnl]; decide) rfl ?_
  refine V_iload_n hC dJ9_floorDiv_7cf53_4 rfl rfl ?_
  refine V_iload_n hC dJ9_floorDiv_7cf53_5 rfl rfl ?_
  refine V_ixor hC dJ9_floorDiv_7cf53_6 ?_
  refine V_if_ge hC 21 dJ9_floorDiv_7cf53_7 (by decide) (fun c7 => ?_) (fun c7 => ?_)
  · refine V_iload_n hC dJ9_floorDiv_7cf53_21 rfl rfl ?_
    refine V_iret hC hR dJ9_floorDiv_7cf53_22 ⟨rfl, rfl, _, rfl, ?_⟩
    exact ⟨by unfold fdv; first | (rw [if_neg (fun w => absurd w.1 (Int32.not_lt.mpr c7))]; done) | (rw [if_neg (fun w => w.2 c14)]; done), rfl⟩
  · refine V_iload_n hC dJ9_floorDiv_7cf53_10 rfl rfl ?_
    refine V_iload_n hC dJ9_floorDiv_7cf53_11 rfl rfl ?_
    refine V_imul hC dJ9_floorDiv_7cf53_12 ?_
    refine V_iload_n hC dJ9_floorDiv_7cf53_13 rfl rfl ?_
    refine V_icmp_eq hC 21 dJ9_floorDiv_7cf53_14 (by decide) (fun c14 => ?_) (fun c14 => ?_)
    · refine V_iload_n hC dJ9_floorDiv_7cf53_21 rfl rfl ?_
      refine V_iret hC hR dJ9_floorDiv_7cf53_22 ⟨rfl, rfl, _, rfl, ?_⟩
      exact ⟨by unfold fdv; first | (rw [if_neg (fun w => absurd w.1 (Int32.not_lt.mpr c7))]; done) | (rw [if_neg (fun w => w.2 c14)]; done), rfl⟩
    · refine V_iload_n hC dJ9_floorDiv_7cf53_17 rfl rfl ?_
      refine V_iconst hC 1 dJ9_floorDiv_7cf53_18 (by decide) ?_
      refine V_isub hC dJ9_floorDiv_7cf53_19 ?_
      refine V_iret hC hR dJ9_floorDiv_7cf53_20 ⟨rfl, rfl, _, rfl, ?_⟩
      exact ⟨by unfold fdv; rw [if_pos ⟨Int32.not_le.mp c7, c14⟩], rfl⟩
abbrev rmJ9_floorMod_7cf53 : Room := { frames := 0, cells := 0, slots := 0, locals := 0 }
set_option maxHeartbeats 4000000 in
set_option maxRecDepth 100000 in
theorem c_J9_floorMod_7cf53 (g : GE) (lau : Launch) {N : Nat} {ad : Nat → Nat} {f : Nat → va_E} (v y : Int32) (hy : ¬ y = 0) : Ct g lau yJ9_floorMod_7cf53 wsJ9_floorMod_7cf53 rmJ9_floorMod_7cf53 N ad [.int v, .int y] f (pI N ad (fun x u => x = fmd v y ∧ u = f)) 0 0 := by
  refine Ct.ofF (maxL := 3) rfl (by decide +kernel) [some (.int v), some (.int y), none] (Nat.le_of_ble_eq_true rfl) (by simp [lvo, lv_args, Value.category]) (fun E hnl _ hC hR => ?_)
  refine V_iload_n hC dJ9_floorMod_7cf53_0 rfl rfl ?_
  refine V_iload_n hC dJ9_floorMod_7cf53_1 rfl rfl ?_
  refine V_irem hC dJ9_floorMod_7cf53_2 hy ?_
  refine V_istore_n2 hC dJ9_floorMod_7cf53_3 rfl (by rw [hnl]; decide) rfl ?_
  refine V_iload_n hC dJ9_floorMod_7cf53_4 rfl rfl ?_
  refine V_iload_n hC dJ9_floorMod_7cf53_5 rfl rfl ?_
  refine V_ixor hC dJ9_floorMod_7cf53_6 ?_
  refine V_if_ge hC 18 dJ9_floorMod_7cf53_7 (by decide) (fun c7 => ?_) (fun c7 => ?_)
  · refine V_iload_n hC dJ9_floorMod_7cf53_18 rfl rfl ?_
    refine V_iret hC hR dJ9_floorMod_7cf53_19 ⟨rfl, rfl, _, rfl, ?_⟩
    exact ⟨by unfold fmd; first | (rw [if_neg (fun w => absurd w.1 (Int32.not_lt.mpr c7))]; done) | (rw [if_neg (fun w => w.2 c11)]; done), rfl⟩
  · refine V_iload_n hC dJ9_floorMod_7cf53_10 rfl rfl ?_
    refine V_if_eq hC 18 dJ9_floorMod_7cf53_11 (by decide) (fun c11 => ?_) (fun c11 => ?_)
    · refine V_iload_n hC dJ9_floorMod_7cf53_18 rfl rfl ?_
      refine V_iret hC hR dJ9_floorMod_7cf53_19 ⟨rfl, rfl, _, rfl, ?_⟩
      exact ⟨by unfold fmd; first | (rw [if_neg (fun w => absurd w.1 (Int32.not_lt.mpr c7))]; done) | (rw [if_neg (fun w => w.2 c11)]; done), rfl⟩
    · refine V_iload_n hC dJ9_floorMod_7cf53_14 rfl rfl ?_
      refine V_iload_n hC dJ9_floorMod_7cf53_15 rfl rfl ?_
      refine V_iadd hC dJ9_floorMod_7cf53_16 ?_
      refine V_iret hC hR dJ9_floorMod_7cf53_17 ⟨rfl, rfl, _, rfl, ?_⟩
      exact ⟨by unfold fmd; rw [if_pos ⟨Int32.not_le.mp c7, c11⟩], rfl⟩
theorem inX0_X0_hasRoom : ∀ w ∈ wsX00, w ∈ wsX0_hasRoom := by decide +kernel
theorem inX1_X0_hasRoom : ∀ w ∈ wsX10, w ∈ wsX0_hasRoom := by decide +kernel
abbrev rmX0_hasRoom : Room := { frames := 1, cells := 0, slots := 0, locals := 20 }
set_option maxHeartbeats 4000000 in
set_option maxRecDepth 100000 in
theorem c_X0_hasRoom (g : GE) (lau : Launch) {N : Nat} {ad : Nat → Nat} {f : Nat → va_E} {c : Nat} {s t : Nat → Int32} {p : Nat → Nat} {bc : Int32} {co ex : Nat → Int32} {rc : Int32} {pl : Nat → Int32} {pn : Int32} {wy : Nat → Int32} {gx : Nat → Nat → Int32} (hN : c + 16 ≤ N) {d r : List (Nat → Int32)} {x : Nat → Int32} (hx : qX p gx bc (d ++ x :: r)) (v w : Int32) : Ct g lau yX0_hasRoom wsX0_hasRoom rmX0_hasRoom N ad [.ref (ad c), .int (nI d.length), .int (v), .int (w)] (zB g ad f c s t p bc co ex rc pl pn wy gx) (pI N ad (fun x_ u => (x_ = 1 ∧ (rmA d v && rmB r w) = true ∧ u = (zB g ad f c s t p bc co ex rc pl pn wy gx)) ∨ (x_ = 0 ∧ (rmA d v && rmB r w) = false ∧ u = (zB g ad f c s t p bc co ex rc pl pn wy gx)))) 0 0 := by
  refine Ct.of (maxL := 4) rfl (by decide +kernel) [some (.ref (ad c)), some (.int (nI d.length)), some (.int (v)), some (.int (w))] (Nat.le_of_ble_eq_true rfl) (by simp [lvo, lv_args, Value.category]) (fun E hnl _ hC hR => ?_)
  have hlt := hx.lt
  have J : rmA d v = true → V E g N ad 0 0 (zB g ad f c s t p bc co ex rc pl pn wy gx) 23 [some (.ref (ad c)), some (.int (nI d.length)), some (.int (v)), some (.int (w))] [] := by
    intro hA
    cases r with
    | nil =>
      refine V_iload_n hC dX0_hasRoom_23 rfl rfl ?_
      refine V_iconst hC 1 dX0_hasRoom_24 (by decide) ?_
      refine V_iadd hC dX0_hasRoom_25 ?_
      refine V_aload_n hC dX0_hasRoom_26 rfl rfl ?_
      refine V_B_boxCount hC hN dX0_hasRoom_27 inX0_X0_hasRoom (by decide +kernel) ?_
      refine V_icmp_ge_t hC 50 dX0_hasRoom_30 (by decide) (by rw [hx.1]; simp only [List.length_append, List.length_cons, List.length_nil]; rw [show (1 : Int32) = nI 1 from rfl, nI_add]; exact Int32.le_refl _) ?_
      refine V_iconst hC 1 dX0_hasRoom_50 (by decide) ?_
      refine V_goto hC 55 dX0_hasRoom_51 (by decide) ?_
      refine V_zret hC hR rfl dX0_hasRoom_55 ⟨rfl, rfl, _, rfl, ?_⟩
      exact Or.inl ⟨rfl, by rw [hA]; rfl, rfl⟩
    | cons y r2 =>
      have hl2 : d.length + 1 < 8 := by have := hx.2.1; simp at this; omega
      have hpl := hx.p8 hl2
      have ey := hx.2.2.2.2 (d.length + 1) y (by simp)
      refine V_iload_n hC dX0_hasRoom_23 rfl rfl ?_
      refine V_iconst hC 1 dX0_hasRoom_24 (by decide) ?_
      refine V_iadd hC dX0_hasRoom_25 ?_
      refine V_eqt (nI (d.length + 1)) (nI_1 _) ?_
      refine V_aload_n hC dX0_hasRoom_26 rfl rfl ?_
      refine V_B_boxCount hC hN dX0_hasRoom_27 inX0_X0_hasRoom (by decide +kernel) ?_
      refine V_icmp_ge_f (tgt := 50) hC dX0_hasRoom_30 (by decide) (by rw [hx.1]; exact nI_ge (by simp) (by have := hx.2.1; omega)) ?_
      refine V_iload_n hC dX0_hasRoom_33 rfl rfl ?_
      refine V_aload_n hC dX0_hasRoom_34 rfl rfl ?_
      refine V_B_boxes hC hN dX0_hasRoom_35 inX0_X0_hasRoom (by decide +kernel) ?_
      refine V_iload_n hC dX0_hasRoom_38 rfl rfl ?_
      refine V_iconst hC 1 dX0_hasRoom_39 (by decide) ?_
      refine V_iadd hC dX0_hasRoom_40 ?_
      refine V_eqt (nI (d.length + 1)) (nI_1 _) ?_
      refine V_B_ld3 hC hN dX0_hasRoom_41 (ix_nI (j := d.length + 1) hl2 (by decide)) ?_
      refine V_X_front hC (by have := hpl; omega) (zB_box hpl) dX0_hasRoom_42 inX1_X0_hasRoom (by decide +kernel) ?_
      refine V_isub hC dX0_hasRoom_45 ?_
      refine V_iconst hC 1 dX0_hasRoom_46 (by decide) ?_
      refine V_icmp_lt hC 54 dX0_hasRoom_47 (by decide) (fun c47 => ?_) (fun c47 => ?_)
      · have hB : rmB (y :: r2) w = false := by rw [ey.1] at c47; exact decide_eq_false (Int32.not_le.mpr c47)
        refine V_iconst hC 0 dX0_hasRoom_54 (by decide) ?_
        refine V_zret hC hR rfl dX0_hasRoom_55 ⟨rfl, rfl, _, rfl, ?_⟩
        first | exact Or.inl ⟨rfl, by rw [hA, hB]; rfl, rfl⟩ | exact Or.inr ⟨rfl, by rw [hA, hB]; rfl, rfl⟩
      · have hB : rmB (y :: r2) w = true := by rw [ey.1] at c47; exact decide_eq_true (Int32.not_lt.mp c47)
        refine V_iconst hC 1 dX0_hasRoom_50 (by decide) ?_
        refine V_goto hC 55 dX0_hasRoom_51 (by decide) ?_
        refine V_zret hC hR rfl dX0_hasRoom_55 ⟨rfl, rfl, _, rfl, ?_⟩
        first | exact Or.inl ⟨rfl, by rw [hA, hB]; rfl, rfl⟩ | exact Or.inr ⟨rfl, by rw [hA, hB]; rfl, rfl⟩
  refine V_iload_n hC dX0_hasRoom_0 rfl rfl ?_
  refine V_if_le hC 23 dX0_hasRoom_1 (by decide) (fun c1 => ?_) (fun c1 => ?_)
  · have h0 : d.length = 0 := by rcases Nat.eq_zero_or_pos d.length with q | q; exact q; exact absurd c1 (nI_nle q (by omega))
    exact J (by unfold rmA; rw [last_get, List.getElem?_eq_none (by omega)])
  · have h0 : 0 < d.length := by rcases Nat.eq_zero_or_pos d.length with q | q; rw [q] at c1; exact absurd (by decide) c1; exact q
    have hpl := hx.p8 (show d.length - 1 < 8 by omega)
    obtain ⟨y, hy⟩ : ∃ y, d[d.length - 1]? = some y := ⟨_, List.getElem?_eq_getElem (by omega)⟩
    have hxy := hx.2.2.2.2 _ y ((cut_l (by omega)).mpr hy)
    refine V_aload_n hC dX0_hasRoom_4 rfl rfl ?_
    refine V_B_boxes hC hN dX0_hasRoom_5 inX0_X0_hasRoom (by decide +kernel) ?_
    refine V_iload_n hC dX0_hasRoom_8 rfl rfl ?_
    refine V_iconst hC 1 dX0_hasRoom_9 (by decide) ?_
    refine V_isub hC dX0_hasRoom_10 ?_
    refine V_eqt (nI (d.length - 1)) (by rw [show (1 : Int32) = nI 1 from rfl, pk_sub (by omega)]) ?_
    refine V_B_ld3 hC hN dX0_hasRoom_11 (ix_nI (j := d.length - 1) (by omega) (by decide)) ?_
    refine V_cvI (n := 0) hC (c_X1_back g (eL E) (i := c + 8 + p (d.length - 1)) (by omega) (zB_box hpl)) dX0_hasRoom_12 gX0_hasRoom_X1_back rfl rfl rfl ⟨rfl, rfl⟩ (by decide +kernel) (by decide +kernel) (by omega) (zB_box hpl) rfl (Nat.le_of_ble_eq_true rfl) (by decide) (fun x12 u12 h12 => ?_)
    obtain ⟨rfl, rfl⟩ := h12
    refine V_iload_n hC dX0_hasRoom_15 rfl rfl ?_
    refine V_isub hC dX0_hasRoom_16 ?_
    refine V_iconst hC 1 dX0_hasRoom_17 (by decide) ?_
    refine V_icmp_ge hC 23 dX0_hasRoom_18 (by decide) (fun c18 => ?_) (fun c18 => ?_)
    · have hA : rmA d v = true := by rw [hxy.1, hxy.2.1] at c18; unfold rmA; rw [last_get, hy]; exact decide_eq_true c18
      exact J hA
    · have hA : rmA d v = false := by rw [hxy.1, hxy.2.1] at c18; unfold rmA; rw [last_get, hy]; exact decide_eq_false c18
      refine V_iconst hC 0 dX0_hasRoom_21 (by decide) ?_
      refine V_zret hC hR rfl dX0_hasRoom_22 ⟨rfl, rfl, _, rfl, ?_⟩
      exact Or.inr ⟨rfl, by rw [hA]; rfl, rfl⟩
theorem isX.turn {y x : Nat → Int32} {a b : Int32} (q : isX y x) : isX (upd (upd y 0 a) 1 b) (upd (upd x 0 a) 1 b) := by
  obtain ⟨e0, e1, e2, e5, e6, e3, hb2, hb4⟩ := q
  exact ⟨rfl, rfl, e2, e5, e6, e3, hb2, hb4⟩
theorem inX0_X0_turnBox : ∀ w ∈ wsX00, w ∈ wsX0_turnBox := by decide +kernel
theorem inX1_X0_turnBox : ∀ w ∈ wsX10, w ∈ wsX0_turnBox := by decide +kernel
abbrev rmX0_turnBox : Room := { frames := 2, cells := 0, slots := 0, locals := 43 }
set_option maxHeartbeats 4000000 in
set_option maxRecDepth 100000 in
theorem c_X0_turnBox (g : GE) (lau : Launch) {N : Nat} {ad : Nat → Nat} {f : Nat → va_E} {c : Nat} {s t : Nat → Int32} {p : Nat → Nat} {bc : Int32} {co ex : Nat → Int32} {rc : Int32} {pl : Nat → Int32} {pn : Int32} {wy : Nat → Int32} {gx : Nat → Nat → Int32} (hN : c + 16 ≤ N) {m : MT} (hm : RepB s t p bc co ex rc pl pn wy gx m) (b v : Int32) (hlen : ∀ x ∈ m.2.1, okLen (x 1) = true) : Ct g lau yX0_turnBox wsX0_turnBox rmX0_turnBox N ad [.ref (ad c), .int (b), .int (v)] (zB g ad f c s t p bc co ex rc pl pn wy gx) (pI N ad (fun x u => x = (mTurn b v m).1 ∧ BIs g ad f c (mTurn b v m).2 u)) 0 0 := by
  refine Ct.of (maxL := 5) rfl (by decide +kernel) [some (.ref (ad c)), some (.int (b)), some (.int (v)), none, none] (Nat.le_of_ble_eq_true rfl) (by simp [lvo, lv_args, Value.category]) (fun E hnl _ hC hR => ?_)
  obtain ⟨h, bs, rs, ps⟩ := m
  have hm0 := hm
  obtain ⟨hh, hx, hr, hp⟩ := hm
  have hx : qX p gx bc bs := hx
  refine V_aload_n hC dX0_turnBox_0 rfl rfl ?_
  refine V_iload_n hC dX0_turnBox_1 rfl rfl ?_
  refine V_cvI (n := 1) hC (c_X0_isBox g (eL E) hN hx b) dX0_turnBox_2 gX0_turnBox_X0_isBox rfl rfl rfl ⟨rfl, rfl⟩ (by decide +kernel) (by decide +kernel) (by omega) zB_0 rfl (Nat.le_of_ble_eq_true rfl) (by decide) (fun x2 u2 h2 => ?_)
  rcases h2 with ⟨rfl, hj, rfl⟩ | ⟨rfl, hj, rfl⟩
  · obtain ⟨k, hk, rfl⟩ := hj
    obtain ⟨d, r, x, rfl, rfl⟩ := cut_ex hk
    have hlt := hx.lt
    have hpl := hx.p8 hlt
    have e := hx.get
    have hxl := hlen x (by simp)
    refine V_if_ne_t hC 10 dX0_turnBox_5 (by decide) (by decide) ?_
    refine V_iload_n hC dX0_turnBox_10 rfl rfl ?_
    refine V_csI (n := 1) hC (c_X1_canHave g (eL E) v) dX0_turnBox_11 gX0_turnBox_X1_canHave rfl rfl rfl ⟨rfl, rfl⟩ (by decide +kernel) (by decide +kernel) (Nat.le_of_ble_eq_true rfl) (by decide) (fun x11 u11 h11 => ?_)
    rcases h11 with ⟨rfl, hl, rfl⟩ | ⟨rfl, hl, rfl⟩
    · refine V_if_ne_t hC 20 dX0_turnBox_14 (by decide) (by decide) ?_
      refine V_aload_n hC dX0_turnBox_20 rfl rfl ?_
      refine V_B_boxes hC hN dX0_turnBox_21 inX0_X0_turnBox (by decide +kernel) ?_
      refine V_iload_n hC dX0_turnBox_24 rfl rfl ?_
      refine V_B_ld3 hC hN dX0_turnBox_25 (ix_nI (j := d.length) hlt (by decide)) ?_
      refine V_astore_n3 hC dX0_turnBox_26 rfl (by rw [hnl]; decide) rfl ?_
      refine V_aload_n hC dX0_turnBox_27 rfl rfl ?_
      refine V_X_front hC (by have := hpl; omega) (zB_box hpl) dX0_turnBox_28 inX1_X0_turnBox (by decide +kernel) ?_
      refine V_iload_n hC dX0_turnBox_31 rfl rfl ?_
      refine V_aload_n hC dX0_turnBox_32 rfl rfl ?_
      refine V_X_length hC (by have := hpl; omega) (zB_box hpl) dX0_turnBox_33 inX1_X0_turnBox (by decide +kernel) ?_
      refine V_isub hC dX0_turnBox_36 ?_
      refine V_iconst hC 2 dX0_turnBox_37 (by decide) ?_
      refine V_csI (n := 2) hC (c_J9_floorDiv_7cf53 g (eL E) _ 2 (by decide)) dX0_turnBox_38 gX0_turnBox_J9_floorDiv_7cf53 rfl rfl rfl ⟨rfl, rfl⟩ (by decide +kernel) (by decide +kernel) (Nat.le_of_ble_eq_true rfl) (by decide) (fun x38 u38 h38 => ?_)
      obtain ⟨rfl, rfl⟩ := h38
      refine V_eqt (halfD (v - x 1)) (by rw [e.2.1, fdv_len hl hxl]) ?_
      refine V_iadd hC dX0_turnBox_41 ?_
      refine V_eqt (frontT x v) (by rw [e.1]; rfl) ?_
      refine V_istore4 hC dX0_turnBox_42 (by rw [hnl]; decide) rfl ?_
      refine V_aload_n hC dX0_turnBox_44 rfl rfl ?_
      refine V_iload_n hC dX0_turnBox_45 rfl rfl ?_
      refine V_iload hC dX0_turnBox_46 rfl ?_
      refine V_iload hC dX0_turnBox_48 rfl ?_
      refine V_iload_n hC dX0_turnBox_50 rfl rfl ?_
      refine V_isub hC dX0_turnBox_51 ?_
      refine V_cvI (n := 3) hC (c_X0_hasRoom g (eL E) hN hx _ _) dX0_turnBox_52 gX0_turnBox_X0_hasRoom rfl rfl rfl ⟨rfl, rfl⟩ (by decide +kernel) (by decide +kernel) (by omega) zB_0 rfl (Nat.le_of_ble_eq_true rfl) (by decide) (fun x52 u52 h52 => ?_)
      rcases h52 with ⟨rfl, hR1, rfl⟩ | ⟨rfl, hR1, rfl⟩
      · refine V_if_ne_t hC 61 dX0_turnBox_55 (by decide) (by decide) ?_
        refine V_aload_n hC dX0_turnBox_61 rfl rfl ?_
        refine V_iload hC dX0_turnBox_62 rfl ?_
        refine V_X_put_front hC (by omega) (zB_box hpl) dX0_turnBox_64 inX1_X0_turnBox (by decide +kernel) ?_
        refine V_f (zB_ubox hpl) ?_
        refine V_aload_n hC dX0_turnBox_67 rfl rfl ?_
        refine V_iload_n hC dX0_turnBox_68 rfl rfl ?_
        refine V_X_put_length hC (by omega) (zB_box hpl) dX0_turnBox_69 inX1_X0_turnBox (by decide +kernel) ?_
        refine V_f (zB_ubox hpl) ?_
        refine V_f (by rw [va_up_self, up_uu]) ?_
        refine V_iload hC dX0_turnBox_72 rfl ?_
        refine V_sipush hC 1000 dX0_turnBox_74 (by decide) ?_
        refine V_iadd hC dX0_turnBox_77 ?_
        refine V_iret hC hR dX0_turnBox_78 ⟨rfl, rfl, _, rfl, ?_⟩
        rw [mTurn_cut (by omega), hl, hR1]
        exact ⟨rfl, BIs.mk ⟨hh, hx.set e.turn, hr, hp⟩⟩
      · refine V_if_ne_f (tgt := 61) hC dX0_turnBox_55 (by decide) rfl ?_
        refine V_bipush hC (-5) dX0_turnBox_58 (by decide) ?_
        refine V_iret hC hR dX0_turnBox_60 ⟨rfl, rfl, _, rfl, ?_⟩
        rw [mTurn_cut (by omega), hl, hR1]
        exact ⟨rfl, BIs.mk hm0⟩
    · refine V_if_ne_f (tgt := 20) hC dX0_turnBox_14 (by decide) rfl ?_
      refine V_bipush hC (-2) dX0_turnBox_17 (by decide) ?_
      refine V_iret hC hR dX0_turnBox_19 ⟨rfl, rfl, _, rfl, ?_⟩
      rw [mTurn_cut (by omega), hl]
      exact ⟨rfl, BIs.mk hm0⟩
  · have hno := mTurn_no (m := (h, bs, rs, ps)) (len := v) hj
    refine V_if_ne_f (tgt := 10) hC dX0_turnBox_5 (by decide) rfl ?_
    refine V_iconst hC (-1) dX0_turnBox_8 (by decide) ?_
    refine V_iret hC hR dX0_turnBox_9 ⟨rfl, rfl, _, rfl, ?_⟩
    rw [hno]
    exact ⟨rfl, BIs.mk hm0⟩
