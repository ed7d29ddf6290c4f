section
variable {E : EV} {g : GE} {N : Nat} {ad : Nat → Nat} {ce sl : Nat} {f : Nat → va_E} {pc : Nat} {lo : List (Option Value)} {st : List Value} {cc : ByteArray} {Ts : List Cond} {own : String} {rm : Room}
end
def zD (g : GE) (ad : Nat → Nat) (f : Nat → va_E) (o : Nat) (sg : Nat → Int32) (ln : Int32) : Nat → va_E := fun q => if q = o then .inr (3, [.ref (ad (o + 1)), .int ln]) else if q = o + 1 then .inl (g.2.1 1, 60, .inl sg) else f q
section
variable {E : EV} {g : GE} {N : Nat} {ad : Nat → Nat} {ce sl : Nat} {f : Nat → va_E} {pc : Nat} {lo : List (Option Value)} {st : List Value} {cc : ByteArray} {Ts : List Cond} {own : String} {rm : Room}
variable {o : Nat} {sg : Nat → Int32} {ln : Int32}
theorem zD_0 : (zD g ad f o sg ln) o = .inr (3, [.ref (ad (o + 1)), .int ln]) := by simp [zD]
theorem zD_a1 : (zD g ad f o sg ln) (o + 1) = .inl (g.2.1 1, 60, .inl sg) := by simp [zD]
theorem zD_out {q : Nat} (h : q < o ∨ o + 2 ≤ q) : (zD g ad f o sg ln) q = f q := by
  unfold zD
  rw [if_neg (by omega), if_neg (by omega)]
theorem V_zD_signs (hC : CX E g cc Ts own rm) (hN : o + 2 ≤ N) {index : Nat} (hd : decode cc pc = .ok (.getfield index, 3)) (hin : ∀ w ∈ wsX30, w ∈ Ts) (hlk : Cond.fieldLink own index "BeltMarks$Pad" "signs" "[C" ∈ Ts) (kk : V E g N ad ce sl (zD g ad f o sg ln) (pc + 3) lo (.ref (ad (o + 1)) :: st)) : V E g N ad ce sl (zD g ad f o sg ln) pc lo (.ref (ad o) :: st) := V_get hC 0 hd (by omega) zD_0 rfl (by decide) hin hlk rfl kk
theorem V_zD_length (hC : CX E g cc Ts own rm) (hN : o + 2 ≤ N) {index : Nat} (hd : decode cc pc = .ok (.getfield index, 3)) (hin : ∀ w ∈ wsX30, w ∈ Ts) (hlk : Cond.fieldLink own index "BeltMarks$Pad" "length" "I" ∈ Ts) (kk : V E g N ad ce sl (zD g ad f o sg ln) (pc + 3) lo (.int ln :: st)) : V E g N ad ce sl (zD g ad f o sg ln) pc lo (.ref (ad o) :: st) := V_get hC 1 hd (by omega) zD_0 rfl (by decide) hin hlk rfl kk
theorem zD_u_length {z : Int32} : va_up (zD g ad f o sg ln) o (.inr (3, [.ref (ad (o + 1)), .int z])) = zD g ad f o sg z := by
  funext q
  unfold va_up zD
  by_cases h : q = o
  · subst h; simp
  · simp [h]
theorem V_zD_put_length (hC : CX E g cc Ts own rm) (hN : o + 2 ≤ N) {index : Nat} {z : Int32} (hd : decode cc pc = .ok (.putfield index, 3)) (hin : ∀ w ∈ wsX30, w ∈ Ts) (hlk : Cond.fieldLink own index "BeltMarks$Pad" "length" "I" ∈ Ts) (kk : V E g N ad ce sl (zD g ad f o sg z) (pc + 3) lo st) : V E g N ad ce sl (zD g ad f o sg ln) pc lo (.int z :: .ref (ad o) :: st) := V_put hC (ty := .int) 1 hd (by omega) zD_0 rfl (by decide) hin hlk tyX3_ok nmX3 rfl rfl rfl rfl (by simp) (V_f zD_u_length kk)
theorem zD_u1 {z : Nat → Int32} : va_up (zD g ad f o sg ln) (o + 1) (.inl (g.2.1 1, 60, .inl z)) = zD g ad f o z ln := by
  funext q
  unfold va_up zD
  by_cases h : q = o + 1
  · subst h; simp
  · simp [h]
theorem V_zD_ld1 (hC : CX E g cc Ts own rm) (hN : o + 2 ≤ N) {j : Int32} {k : Nat} (hd : decode cc pc = .ok (.caload, 1)) (hx : ix j k 60) (kk : V E g N ad ce sl (zD g ad f o sg ln) (pc + 1) lo (.int (sg k) :: st)) : V E g N ad ce sl (zD g ad f o sg ln) pc lo (.int j :: .ref (ad (o + 1)) :: st) := V_cald hC hd (by omega) zD_a1 hx kk
theorem V_zD_st1 (hC : CX E g cc Ts own rm) (hN : o + 2 ≤ N) {j x : Int32} {k : Nat} (hd : decode cc pc = .ok (.castore, 1)) (hx : ix j k 60) (kk : V E g N ad ce sl (zD g ad f o (upd sg k (vp_nar .char x)) ln) (pc + 1) lo st) : V E g N ad ce sl (zD g ad f o sg ln) pc lo (.int x :: .int j :: .ref (ad (o + 1)) :: st) := V_cast hC hd (by omega) zD_a1 hx (V_f zD_u1 kk)
theorem V_zD_len1 (hC : CX E g cc Ts own rm) (hN : o + 2 ≤ N) (v : Int32) (hd : decode cc pc = .ok (.arraylength, 1)) (hv : Int32.ofNat 60 = v) (kk : V E g N ad ce sl (zD g ad f o sg ln) (pc + 1) lo (.int v :: st)) : V E g N ad ce sl (zD g ad f o sg ln) pc lo (.ref (ad (o + 1)) :: st) := V_alen (t0 := 1) (ty := .char) hC v hd (by omega) zD_a1 rfl hv kk
end
def zY (g : GE) (ad : Nat → Nat) (f : Nat → va_E) (o : Nat) (ss : Nat → Option Nat) (ol : Int32) (sz : Int32) : Nat → va_E := fun q => if q = o then .inr (2, [.ref (ad (o + 1)), .int ol, .int sz]) else if q = o + 1 then .inl (g.2.1 3, 7, .inr (.inr (.inr (.inr ss)))) else f q
section
variable {E : EV} {g : GE} {N : Nat} {ad : Nat → Nat} {ce sl : Nat} {f : Nat → va_E} {pc : Nat} {lo : List (Option Value)} {st : List Value} {cc : ByteArray} {Ts : List Cond} {own : String} {rm : Room}
variable {o : Nat} {ss : Nat → Option Nat} {ol : Int32} {sz : Int32}
theorem zY_0 : (zY g ad f o ss ol sz) o = .inr (2, [.ref (ad (o + 1)), .int ol, .int sz]) := by simp [zY]
theorem zY_a1 : (zY g ad f o ss ol sz) (o + 1) = .inl (g.2.1 3, 7, .inr (.inr (.inr (.inr ss)))) := by simp [zY]
theorem zY_out {q : Nat} (h : q < o ∨ o + 2 ≤ q) : (zY g ad f o ss ol sz) q = f q := by
  unfold zY
  rw [if_neg (by omega), if_neg (by omega)]
theorem V_zY_states (hC : CX E g cc Ts own rm) (hN : o + 2 ≤ N) {index : Nat} (hd : decode cc pc = .ok (.getfield index, 3)) (hin : ∀ w ∈ wsX20, w ∈ Ts) (hlk : Cond.fieldLink own index "BeltMarks$History" "states" "[LBeltMarks$Belt;" ∈ Ts) (kk : V E g N ad ce sl (zY g ad f o ss ol sz) (pc + 3) lo (.ref (ad (o + 1)) :: st)) : V E g N ad ce sl (zY g ad f o ss ol sz) pc lo (.ref (ad o) :: st) := V_get hC 0 hd (by omega) zY_0 rfl (by decide) hin hlk rfl kk
theorem V_zY_oldest (hC : CX E g cc Ts own rm) (hN : o + 2 ≤ N) {index : Nat} (hd : decode cc pc = .ok (.getfield index, 3)) (hin : ∀ w ∈ wsX20, w ∈ Ts) (hlk : Cond.fieldLink own index "BeltMarks$History" "oldest" "I" ∈ Ts) (kk : V E g N ad ce sl (zY g ad f o ss ol sz) (pc + 3) lo (.int ol :: st)) : V E g N ad ce sl (zY g ad f o ss ol sz) pc lo (.ref (ad o) :: st) := V_get hC 1 hd (by omega) zY_0 rfl (by decide) hin hlk rfl kk
theorem zY_u_oldest {z : Int32} : va_up (zY g ad f o ss ol sz) o (.inr (2, [.ref (ad (o + 1)), .int z, .int sz])) = zY g ad f o ss z sz := by
  funext q
  unfold va_up zY
  by_cases h : q = o
  · subst h; simp
  · simp [h]
theorem V_zY_put_oldest (hC : CX E g cc Ts own rm) (hN : o + 2 ≤ N) {index : Nat} {z : Int32} (hd : decode cc pc = .ok (.putfield index, 3)) (hin : ∀ w ∈ wsX20, w ∈ Ts) (hlk : Cond.fieldLink own index "BeltMarks$History" "oldest" "I" ∈ Ts) (kk : V E g N ad ce sl (zY g ad f o ss z sz) (pc + 3) lo st) : V E g N ad ce sl (zY g ad f o ss ol sz) pc lo (.int z :: .ref (ad o) :: st) := V_put hC (ty := .int) 1 hd (by omega) zY_0 rfl (by decide) hin hlk tyX2_ok nmX2 rfl rfl rfl rfl (by simp) (V_f zY_u_oldest kk)
theorem V_zY_size (hC : CX E g cc Ts own rm) (hN : o + 2 ≤ N) {index : Nat} (hd : decode cc pc = .ok (.getfield index, 3)) (hin : ∀ w ∈ wsX20, w ∈ Ts) (hlk : Cond.fieldLink own index "BeltMarks$History" "size" "I" ∈ Ts) (kk : V E g N ad ce sl (zY g ad f o ss ol sz) (pc + 3) lo (.int sz :: st)) : V E g N ad ce sl (zY g ad f o ss ol sz) pc lo (.ref (ad o) :: st) := V_get hC 2 hd (by omega) zY_0 rfl (by decide) hin hlk rfl kk
theorem zY_u_size {z : Int32} : va_up (zY g ad f o ss ol sz) o (.inr (2, [.ref (ad (o + 1)), .int ol, .int z])) = zY g ad f o ss ol z := by
  funext q
  unfold va_up zY
  by_cases h : q = o
  · subst h; simp
  · simp [h]
theorem V_zY_put_size (hC : CX E g cc Ts own rm) (hN : o + 2 ≤ N) {index : Nat} {z : Int32} (hd : decode cc pc = .ok (.putfield index, 3)) (hin : ∀ w ∈ wsX20, w ∈ Ts) (hlk : Cond.fieldLink own index "BeltMarks$History" "size" "I" ∈ Ts) (kk : V E g N ad ce sl (zY g ad f o ss ol z) (pc + 3) lo st) : V E g N ad ce sl (zY g ad f o ss ol sz) pc lo (.int z :: .ref (ad o) :: st) := V_put hC (ty := .int) 2 hd (by omega) zY_0 rfl (by decide) hin hlk tyX2_ok nmX2 rfl rfl rfl rfl (by simp) (V_f zY_u_size kk)
end
def zB0 (g : GE) (ad : Nat → Nat) (f : Nat → va_E) (c : Nat) (s : Nat → Int32) (t : Nat → Int32) (bs : Nat → Option Nat) (bc : Int32) (co : Nat → Int32) (ex : Nat → Int32) (rc : Int32) (pl : Nat → Int32) (pn : Int32) (wy : Nat → Int32) : Nat → va_E := fun q => if q = c then .inr (0, [.ref (ad (c + 1)), .ref (ad (c + 2)), .ref (ad (c + 3)), .int bc, .ref (ad (c + 4)), .ref (ad (c + 5)), .int rc, .ref (ad (c + 6)), .int pn, .ref (ad (c + 7))]) else if q = c + 1 then .inl (g.2.1 0, 8, .inl s) else if q = c + 2 then .inl (g.2.1 0, 14, .inl t) else if q = c + 3 then .inl (g.2.1 4, 8, .inr (.inr (.inr (.inr bs)))) else if q = c + 4 then .inl (g.2.1 0, 32, .inl co) else if q = c + 5 then .inl (g.2.1 0, 32, .inl ex) else if q = c + 6 then .inl (g.2.1 0, 32, .inl pl) else if q = c + 7 then .inl (g.2.1 0, 5, .inl wy) else f q
section
variable {E : EV} {g : GE} {N : Nat} {ad : Nat → Nat} {ce sl : Nat} {f : Nat → va_E} {pc : Nat} {lo : List (Option Value)} {st : List Value} {cc : ByteArray} {Ts : List Cond} {own : String} {rm : Room}
variable {c : Nat} {s : Nat → Int32} {t : Nat → Int32} {bs : Nat → Option Nat} {bc : Int32} {co : Nat → Int32} {ex : Nat → Int32} {rc : Int32} {pl : Nat → Int32} {pn : Int32} {wy : Nat → Int32}
theorem zB0_0 : (zB0 g ad f c s t bs bc co ex rc pl pn wy) c = .inr (0, [.ref (ad (c + 1)), .ref (ad (c + 2)), .ref (ad (c + 3)), .int bc, .ref (ad (c + 4)), .ref (ad (c + 5)), .int rc, .ref (ad (c + 6)), .int pn, .ref (ad (c + 7))]) := by simp [zB0]
theorem zB0_a1 : (zB0 g ad f c s t bs bc co ex rc pl pn wy) (c + 1) = .inl (g.2.1 0, 8, .inl s) := by simp [zB0]
theorem zB0_a2 : (zB0 g ad f c s t bs bc co ex rc pl pn wy) (c + 2) = .inl (g.2.1 0, 14, .inl t) := by simp [zB0]
theorem zB0_a3 : (zB0 g ad f c s t bs bc co ex rc pl pn wy) (c + 3) = .inl (g.2.1 4, 8, .inr (.inr (.inr (.inr bs)))) := by simp [zB0]
theorem zB0_a4 : (zB0 g ad f c s t bs bc co ex rc pl pn wy) (c + 4) = .inl (g.2.1 0, 32, .inl co) := by simp [zB0]
theorem zB0_a5 : (zB0 g ad f c s t bs bc co ex rc pl pn wy) (c + 5) = .inl (g.2.1 0, 32, .inl ex) := by simp [zB0]
theorem zB0_a6 : (zB0 g ad f c s t bs bc co ex rc pl pn wy) (c + 6) = .inl (g.2.1 0, 32, .inl pl) := by simp [zB0]
theorem zB0_a7 : (zB0 g ad f c s t bs bc co ex rc pl pn wy) (c + 7) = .inl (g.2.1 0, 5, .inl wy) := by simp [zB0]
theorem zB0_out {q : Nat} (h : q < c ∨ c + 8 ≤ q) : (zB0 g ad f c s t bs bc co ex rc pl pn wy) q = f q := by
  unfold zB0
  rw [if_neg (by omega), if_neg (by omega), if_neg (by omega), if_neg (by omega), if_neg (by omega), if_neg (by omega), if_neg (by omega), if_neg (by omega)]
theorem V_zB0_settings (hC : CX E g cc Ts own rm) (hN : c + 8 ≤ N) {index : Nat} (hd : decode cc pc = .ok (.getfield index, 3)) (hin : ∀ w ∈ wsX00, w ∈ Ts) (hlk : Cond.fieldLink own index "BeltMarks$Belt" "settings" "[I" ∈ Ts) (kk : V E g N ad ce sl (zB0 g ad f c s t bs bc co ex rc pl pn wy) (pc + 3) lo (.ref (ad (c + 1)) :: st)) : V E g N ad ce sl (zB0 g ad f c s t bs bc co ex rc pl pn wy) pc lo (.ref (ad c) :: st) := V_get hC 0 hd (by omega) zB0_0 rfl (by decide) hin hlk rfl kk
theorem V_zB0_tallies (hC : CX E g cc Ts own rm) (hN : c + 8 ≤ N) {index : Nat} (hd : decode cc pc = .ok (.getfield index, 3)) (hin : ∀ w ∈ wsX00, w ∈ Ts) (hlk : Cond.fieldLink own index "BeltMarks$Belt" "tallies" "[I" ∈ Ts) (kk : V E g N ad ce sl (zB0 g ad f c s t bs bc co ex rc pl pn wy) (pc + 3) lo (.ref (ad (c + 2)) :: st)) : V E g N ad ce sl (zB0 g ad f c s t bs bc co ex rc pl pn wy) pc lo (.ref (ad c) :: st) := V_get hC 1 hd (by omega) zB0_0 rfl (by decide) hin hlk rfl kk
theorem V_zB0_boxes (hC : CX E g cc Ts own rm) (hN : c + 8 ≤ N) {index : Nat} (hd : decode cc pc = .ok (.getfield index, 3)) (hin : ∀ w ∈ wsX00, w ∈ Ts) (hlk : Cond.fieldLink own index "BeltMarks$Belt" "boxes" "[LBeltMarks$Box;" ∈ Ts) (kk : V E g N ad ce sl (zB0 g ad f c s t bs bc co ex rc pl pn wy) (pc + 3) lo (.ref (ad (c + 3)) :: st)) : V E g N ad ce sl (zB0 g ad f c s t bs bc co ex rc pl pn wy) pc lo (.ref (ad c) :: st) := V_get hC 2 hd (by omega) zB0_0 rfl (by decide) hin hlk rfl kk
theorem V_zB0_boxCount (hC : CX E g cc Ts own rm) (hN : c + 8 ≤ N) {index : Nat} (hd : decode cc pc = .ok (.getfield index, 3)) (hin : ∀ w ∈ wsX00, w ∈ Ts) (hlk : Cond.fieldLink own index "BeltMarks$Belt" "boxCount" "I" ∈ Ts) (kk : V E g N ad ce sl (zB0 g ad f c s t bs bc co ex rc pl pn wy) (pc + 3) lo (.int bc :: st)) : V E g N ad ce sl (zB0 g ad f c s t bs bc co ex rc pl pn wy) pc lo (.ref (ad c) :: st) := V_get hC 3 hd (by omega) zB0_0 rfl (by decide) hin hlk rfl kk
theorem zB0_u_boxCount {z : Int32} : va_up (zB0 g ad f c s t bs bc co ex rc pl pn wy) c (.inr (0, [.ref (ad (c + 1)), .ref (ad (c + 2)), .ref (ad (c + 3)), .int z, .ref (ad (c + 4)), .ref (ad (c + 5)), .int rc, .ref (ad (c + 6)), .int pn, .ref (ad (c + 7))])) = zB0 g ad f c s t bs z co ex rc pl pn wy := by
  funext q
  unfold va_up zB0
  by_cases h : q = c
  · subst h; simp
  · simp [h]
theorem V_zB0_put_boxCount (hC : CX E g cc Ts own rm) (hN : c + 8 ≤ N) {index : Nat} {z : Int32} (hd : decode cc pc = .ok (.putfield index, 3)) (hin : ∀ w ∈ wsX00, w ∈ Ts) (hlk : Cond.fieldLink own index "BeltMarks$Belt" "boxCount" "I" ∈ Ts) (kk : V E g N ad ce sl (zB0 g ad f c s t bs z co ex rc pl pn wy) (pc + 3) lo st) : V E g N ad ce sl (zB0 g ad f c s t bs bc co ex rc pl pn wy) pc lo (.int z :: .ref (ad c) :: st) := V_put hC (ty := .int) 3 hd (by omega) zB0_0 rfl (by decide) hin hlk tyX0_ok nmX0 rfl rfl rfl rfl (by simp) (V_f zB0_u_boxCount kk)
theorem V_zB0_comes (hC : CX E g cc Ts own rm) (hN : c + 8 ≤ N) {index : Nat} (hd : decode cc pc = .ok (.getfield index, 3)) (hin : ∀ w ∈ wsX00, w ∈ Ts) (hlk : Cond.fieldLink own index "BeltMarks$Belt" "comes" "[I" ∈ Ts) (kk : V E g N ad ce sl (zB0 g ad f c s t bs bc co ex rc pl pn wy) (pc + 3) lo (.ref (ad (c + 4)) :: st)) : V E g N ad ce sl (zB0 g ad f c s t bs bc co ex rc pl pn wy) pc lo (.ref (ad c) :: st) := V_get hC 4 hd (by omega) zB0_0 rfl (by decide) hin hlk rfl kk
theorem V_zB0_excesses (hC : CX E g cc Ts own rm) (hN : c + 8 ≤ N) {index : Nat} (hd : decode cc pc = .ok (.getfield index, 3)) (hin : ∀ w ∈ wsX00, w ∈ Ts) (hlk : Cond.fieldLink own index "BeltMarks$Belt" "excesses" "[I" ∈ Ts) (kk : V E g N ad ce sl (zB0 g ad f c s t bs bc co ex rc pl pn wy) (pc + 3) lo (.ref (ad (c + 5)) :: st)) : V E g N ad ce sl (zB0 g ad f c s t bs bc co ex rc pl pn wy) pc lo (.ref (ad c) :: st) := V_get hC 5 hd (by omega) zB0_0 rfl (by decide) hin hlk rfl kk
theorem V_zB0_reportCount (hC : CX E g cc Ts own rm) (hN : c + 8 ≤ N) {index : Nat} (hd : decode cc pc = .ok (.getfield index, 3)) (hin : ∀ w ∈ wsX00, w ∈ Ts) (hlk : Cond.fieldLink own index "BeltMarks$Belt" "reportCount" "I" ∈ Ts) (kk : V E g N ad ce sl (zB0 g ad f c s t bs bc co ex rc pl pn wy) (pc + 3) lo (.int rc :: st)) : V E g N ad ce sl (zB0 g ad f c s t bs bc co ex rc pl pn wy) pc lo (.ref (ad c) :: st) := V_get hC 6 hd (by omega) zB0_0 rfl (by decide) hin hlk rfl kk
theorem zB0_u_reportCount {z : Int32} : va_up (zB0 g ad f c s t bs bc co ex rc pl pn wy) c (.inr (0, [.ref (ad (c + 1)), .ref (ad (c + 2)), .ref (ad (c + 3)), .int bc, .ref (ad (c + 4)), .ref (ad (c + 5)), .int z, .ref (ad (c + 6)), .int pn, .ref (ad (c + 7))])) = zB0 g ad f c s t bs bc co ex z pl pn wy := by
  funext q
  unfold va_up zB0
  by_cases h : q = c
  · subst h; simp
  · simp [h]
theorem V_zB0_put_reportCount (hC : CX E g cc Ts own rm) (hN : c + 8 ≤ N) {index : Nat} {z : Int32} (hd : decode cc pc = .ok (.putfield index, 3)) (hin : ∀ w ∈ wsX00, w ∈ Ts) (hlk : Cond.fieldLink own index "BeltMarks$Belt" "reportCount" "I" ∈ Ts) (kk : V E g N ad ce sl (zB0 g ad f c s t bs bc co ex z pl pn wy) (pc + 3) lo st) : V E g N ad ce sl (zB0 g ad f c s t bs bc co ex rc pl pn wy) pc lo (.int z :: .ref (ad c) :: st) := V_put hC (ty := .int) 6 hd (by omega) zB0_0 rfl (by decide) hin hlk tyX0_ok nmX0 rfl rfl rfl rfl (by simp) (V_f zB0_u_reportCount kk)
theorem V_zB0_plans (hC : CX E g cc Ts own rm) (hN : c + 8 ≤ N) {index : Nat} (hd : decode cc pc = .ok (.getfield index, 3)) (hin : ∀ w ∈ wsX00, w ∈ Ts) (hlk : Cond.fieldLink own index "BeltMarks$Belt" "plans" "[I" ∈ Ts) (kk : V E g N ad ce sl (zB0 g ad f c s t bs bc co ex rc pl pn wy) (pc + 3) lo (.ref (ad (c + 6)) :: st)) : V E g N ad ce sl (zB0 g ad f c s t bs bc co ex rc pl pn wy) pc lo (.ref (ad c) :: st) := V_get hC 7 hd (by omega) zB0_0 rfl (by decide) hin hlk rfl kk
theorem V_zB0_planCount (hC : CX E g cc Ts own rm) (hN : c + 8 ≤ N) {index : Nat} (hd : decode cc pc = .ok (.getfield index, 3)) (hin : ∀ w ∈ wsX00, w ∈ Ts) (hlk : Cond.fieldLink own index "BeltMarks$Belt" "planCount" "I" ∈ Ts) (kk : V E g N ad ce sl (zB0 g ad f c s t bs bc co ex rc pl pn wy) (pc + 3) lo (.int pn :: st)) : V E g N ad ce sl (zB0 g ad f c s t bs bc co ex rc pl pn wy) pc lo (.ref (ad c) :: st) := V_get hC 8 hd (by omega) zB0_0 rfl (by decide) hin hlk rfl kk
theorem zB0_u_planCount {z : Int32} : va_up (zB0 g ad f c s t bs bc co ex rc pl pn wy) c (.inr (0, [.ref (ad (c + 1)), .ref (ad (c + 2)), .ref (ad (c + 3)), .int bc, .ref (ad (c + 4)), .ref (ad (c + 5)), .int rc, .ref (ad (c + 6)), .int z, .ref (ad (c + 7))])) = zB0 g ad f c s t bs bc co ex rc pl z wy := by
  funext q
  unfold va_up zB0
  by_cases h : q = c
  · subst h; simp
  · simp [h]
theorem V_zB0_put_planCount (hC : CX E g cc Ts own rm) (hN : c + 8 ≤ N) {index : Nat} {z : Int32} (hd : decode cc pc = .ok (.putfield index, 3)) (hin : ∀ w ∈ wsX00, w ∈ Ts) (hlk : Cond.fieldLink own index "BeltMarks$Belt" "planCount" "I" ∈ Ts) (kk : V E g N ad ce sl (zB0 g ad f c s t bs bc co ex rc pl z wy) (pc + 3) lo st) : V E g N ad ce sl (zB0 g ad f c s t bs bc co ex rc pl pn wy) pc lo (.int z :: .ref (ad c) :: st) := V_put hC (ty := .int) 8 hd (by omega) zB0_0 rfl (by decide) hin hlk tyX0_ok nmX0 rfl rfl rfl rfl (by simp) (V_f zB0_u_planCount kk)
theorem V_zB0_ways (hC : CX E g cc Ts own rm) (hN : c + 8 ≤ N) {index : Nat} (hd : decode cc pc = .ok (.getfield index, 3)) (hin : ∀ w ∈ wsX00, w ∈ Ts) (hlk : Cond.fieldLink own index "BeltMarks$Belt" "ways" "[I" ∈ Ts) (kk : V E g N ad ce sl (zB0 g ad f c s t bs bc co ex rc pl pn wy) (pc + 3) lo (.ref (ad (c + 7)) :: st)) : V E g N ad ce sl (zB0 g ad f c s t bs bc co ex rc pl pn wy) pc lo (.ref (ad c) :: st) := V_get hC 9 hd (by omega) zB0_0 rfl (by decide) hin hlk rfl kk
theorem zB0_u1 {z : Nat → Int32} : va_up (zB0 g ad f c s t bs bc co ex rc pl pn wy) (c + 1) (.inl (g.2.1 0, 8, .inl z)) = zB0 g ad f c z t bs bc co ex rc pl pn wy := by
  funext q
  unfold va_up zB0
  by_cases h : q = c + 1
  · subst h; simp
  · simp [h]
theorem V_zB0_ld1 (hC : CX E g cc Ts own rm) (hN : c + 8 ≤ N) {j : Int32} {k : Nat} (hd : decode cc pc = .ok (.iaload, 1)) (hx : ix j k 8) (kk : V E g N ad ce sl (zB0 g ad f c s t bs bc co ex rc pl pn wy) (pc + 1) lo (.int (s k) :: st)) : V E g N ad ce sl (zB0 g ad f c s t bs bc co ex rc pl pn wy) pc lo (.int j :: .ref (ad (c + 1)) :: st) := V_iald hC hd (by omega) zB0_a1 hx kk
theorem V_zB0_st1 (hC : CX E g cc Ts own rm) (hN : c + 8 ≤ N) {j x : Int32} {k : Nat} (hd : decode cc pc = .ok (.iastore, 1)) (hx : ix j k 8) (kk : V E g N ad ce sl (zB0 g ad f c (upd s k x) t bs bc co ex rc pl pn wy) (pc + 1) lo st) : V E g N ad ce sl (zB0 g ad f c s t bs bc co ex rc pl pn wy) pc lo (.int x :: .int j :: .ref (ad (c + 1)) :: st) := V_iast hC hd (by omega) zB0_a1 hx (V_f zB0_u1 kk)
theorem V_zB0_len1 (hC : CX E g cc Ts own rm) (hN : c + 8 ≤ N) (v : Int32) (hd : decode cc pc = .ok (.arraylength, 1)) (hv : Int32.ofNat 8 = v) (kk : V E g N ad ce sl (zB0 g ad f c s t bs bc co ex rc pl pn wy) (pc + 1) lo (.int v :: st)) : V E g N ad ce sl (zB0 g ad f c s t bs bc co ex rc pl pn wy) pc lo (.ref (ad (c + 1)) :: st) := V_alen (t0 := 0) (ty := .int) hC v hd (by omega) zB0_a1 rfl hv kk
theorem zB0_u2 {z : Nat → Int32} : va_up (zB0 g ad f c s t bs bc co ex rc pl pn wy) (c + 2) (.inl (g.2.1 0, 14, .inl z)) = zB0 g ad f c s z bs bc co ex rc pl pn wy := by
  funext q
  unfold va_up zB0
  by_cases h : q = c + 2
  · subst h; simp
  · simp [h]
theorem V_zB0_ld2 (hC : CX E g cc Ts own rm) (hN : c + 8 ≤ N) {j : Int32} {k : Nat} (hd : decode cc pc = .ok (.iaload, 1)) (hx : ix j k 14) (kk : V E g N ad ce sl (zB0 g ad f c s t bs bc co ex rc pl pn wy) (pc + 1) lo (.int (t k) :: st)) : V E g N ad ce sl (zB0 g ad f c s t bs bc co ex rc pl pn wy) pc lo (.int j :: .ref (ad (c + 2)) :: st) := V_iald hC hd (by omega) zB0_a2 hx kk
theorem V_zB0_st2 (hC : CX E g cc Ts own rm) (hN : c + 8 ≤ N) {j x : Int32} {k : Nat} (hd : decode cc pc = .ok (.iastore, 1)) (hx : ix j k 14) (kk : V E g N ad ce sl (zB0 g ad f c s (upd t k x) bs bc co ex rc pl pn wy) (pc + 1) lo st) : V E g N ad ce sl (zB0 g ad f c s t bs bc co ex rc pl pn wy) pc lo (.int x :: .int j :: .ref (ad (c + 2)) :: st) := V_iast hC hd (by omega) zB0_a2 hx (V_f zB0_u2 kk)
theorem V_zB0_len2 (hC : CX E g cc Ts own rm) (hN : c + 8 ≤ N) (v : Int32) (hd : decode cc pc = .ok (.arraylength, 1)) (hv : Int32.ofNat 14 = v) (kk : V E g N ad ce sl (zB0 g ad f c s t bs bc co ex rc pl pn wy) (pc + 1) lo (.int v :: st)) : V E g N ad ce sl (zB0 g ad f c s t bs bc co ex rc pl pn wy) pc lo (.ref (ad (c + 2)) :: st) := V_alen (t0 := 0) (ty := .int) hC v hd (by omega) zB0_a2 rfl hv kk
theorem zB0_u4 {z : Nat → Int32} : va_up (zB0 g ad f c s t bs bc co ex rc pl pn wy) (c + 4) (.inl (g.2.1 0, 32, .inl z)) = zB0 g ad f c s t bs bc z ex rc pl pn wy := by
  funext q
  unfold va_up zB0
  by_cases h : q = c + 4
  · subst h; simp
  · simp [h]
theorem V_zB0_ld4 (hC : CX E g cc Ts own rm) (hN : c + 8 ≤ N) {j : Int32} {k : Nat} (hd : decode cc pc = .ok (.iaload, 1)) (hx : ix j k 32) (kk : V E g N ad ce sl (zB0 g ad f c s t bs bc co ex rc pl pn wy) (pc + 1) lo (.int (co k) :: st)) : V E g N ad ce sl (zB0 g ad f c s t bs bc co ex rc pl pn wy) pc lo (.int j :: .ref (ad (c + 4)) :: st) := V_iald hC hd (by omega) zB0_a4 hx kk
theorem V_zB0_st4 (hC : CX E g cc Ts own rm) (hN : c + 8 ≤ N) {j x : Int32} {k : Nat} (hd : decode cc pc = .ok (.iastore, 1)) (hx : ix j k 32) (kk : V E g N ad ce sl (zB0 g ad f c s t bs bc (upd co k x) ex rc pl pn wy) (pc + 1) lo st) : V E g N ad ce sl (zB0 g ad f c s t bs bc co ex rc pl pn wy) pc lo (.int x :: .int j :: .ref (ad (c + 4)) :: st) := V_iast hC hd (by omega) zB0_a4 hx (V_f zB0_u4 kk)
theorem V_zB0_len4 (hC : CX E g cc Ts own rm) (hN : c + 8 ≤ N) (v : Int32) (hd : decode cc pc = .ok (.arraylength, 1)) (hv : Int32.ofNat 32 = v) (kk : V E g N ad ce sl (zB0 g ad f c s t bs bc co ex rc pl pn wy) (pc + 1) lo (.int v :: st)) : V E g N ad ce sl (zB0 g ad f c s t bs bc co ex rc pl pn wy) pc lo (.ref (ad (c + 4)) :: st) := V_alen (t0 := 0) (ty := .int) hC v hd (by omega) zB0_a4 rfl hv kk
theorem zB0_u5 {z : Nat → Int32} : va_up (zB0 g ad f c s t bs bc co ex rc pl pn wy) (c + 5) (.inl (g.2.1 0, 32, .inl z)) = zB0 g ad f c s t bs bc co z rc pl pn wy := by
  funext q
  unfold va_up zB0
  by_cases h : q = c + 5
  · subst h; simp
  · simp [h]
theorem V_zB0_ld5 (hC : CX E g cc Ts own rm) (hN : c + 8 ≤ N) {j : Int32} {k : Nat} (hd : decode cc pc = .ok (.iaload, 1)) (hx : ix j k 32) (kk : V E g N ad ce sl (zB0 g ad f c s t bs bc co ex rc pl pn wy) (pc + 1) lo (.int (ex k) :: st)) : V E g N ad ce sl (zB0 g ad f c s t bs bc co ex rc pl pn wy) pc lo (.int j :: .ref (ad (c + 5)) :: st) := V_iald hC hd (by omega) zB0_a5 hx kk
theorem V_zB0_st5 (hC : CX E g cc Ts own rm) (hN : c + 8 ≤ N) {j x : Int32} {k : Nat} (hd : decode cc pc = .ok (.iastore, 1)) (hx : ix j k 32) (kk : V E g N ad ce sl (zB0 g ad f c s t bs bc co (upd ex k x) rc pl pn wy) (pc + 1) lo st) : V E g N ad ce sl (zB0 g ad f c s t bs bc co ex rc pl pn wy) pc lo (.int x :: .int j :: .ref (ad (c + 5)) :: st) := V_iast hC hd (by omega) zB0_a5 hx (V_f zB0_u5 kk)
theorem V_zB0_len5 (hC : CX E g cc Ts own rm) (hN : c + 8 ≤ N) (v : Int32) (hd : decode cc pc = .ok (.arraylength, 1)) (hv : Int32.ofNat 32 = v) (kk : V E g N ad ce sl (zB0 g ad f c s t bs bc co ex rc pl pn wy) (pc + 1) lo (.int v :: st)) : V E g N ad ce sl (zB0 g ad f c s t bs bc co ex rc pl pn wy) pc lo (.ref (ad (c + 5)) :: st) := V_alen (t0 := 0) (ty := .int) hC v hd (by omega) zB0_a5 rfl hv kk
theorem zB0_u6 {z : Nat → Int32} : va_up (zB0 g ad f c s t bs bc co ex rc pl pn wy) (c + 6) (.inl (g.2.1 0, 32, .inl z)) = zB0 g ad f c s t bs bc co ex rc z pn wy := by
  funext q
  unfold va_up zB0
  by_cases h : q = c + 6
  · subst h; simp
  · simp [h]
theorem V_zB0_ld6 (hC : CX E g cc Ts own rm) (hN : c + 8 ≤ N) {j : Int32} {k : Nat} (hd : decode cc pc = .ok (.iaload, 1)) (hx : ix j k 32) (kk : V E g N ad ce sl (zB0 g ad f c s t bs bc co ex rc pl pn wy) (pc + 1) lo (.int (pl k) :: st)) : V E g N ad ce sl (zB0 g ad f c s t bs bc co ex rc pl pn wy) pc lo (.int j :: .ref (ad (c + 6)) :: st) := V_iald hC hd (by omega) zB0_a6 hx kk
theorem V_zB0_st6 (hC : CX E g cc Ts own rm) (hN : c + 8 ≤ N) {j x : Int32} {k : Nat} (hd : decode cc pc = .ok (.iastore, 1)) (hx : ix j k 32) (kk : V E g N ad ce sl (zB0 g ad f c s t bs bc co ex rc (upd pl k x) pn wy) (pc + 1) lo st) : V E g N ad ce sl (zB0 g ad f c s t bs bc co ex rc pl pn wy) pc lo (.int x :: .int j :: .ref (ad (c + 6)) :: st) := V_iast hC hd (by omega) zB0_a6 hx (V_f zB0_u6 kk)
theorem V_zB0_len6 (hC : CX E g cc Ts own rm) (hN : c + 8 ≤ N) (v : Int32) (hd : decode cc pc = .ok (.arraylength, 1)) (hv : Int32.ofNat 32 = v) (kk : V E g N ad ce sl (zB0 g ad f c s t bs bc co ex rc pl pn wy) (pc + 1) lo (.int v :: st)) : V E g N ad ce sl (zB0 g ad f c s t bs bc co ex rc pl pn wy) pc lo (.ref (ad (c + 6)) :: st) := V_alen (t0 := 0) (ty := .int) hC v hd (by omega) zB0_a6 rfl hv kk
theorem zB0_u7 {z : Nat → Int32} : va_up (zB0 g ad f c s t bs bc co ex rc pl pn wy) (c + 7) (.inl (g.2.1 0, 5, .inl z)) = zB0 g ad f c s t bs bc co ex rc pl pn z := by
  funext q
  unfold va_up zB0
  by_cases h : q = c + 7
  · subst h; simp
  · simp [h]
theorem V_zB0_ld7 (hC : CX E g cc Ts own rm) (hN : c + 8 ≤ N) {j : Int32} {k : Nat} (hd : decode cc pc = .ok (.iaload, 1)) (hx : ix j k 5) (kk : V E g N ad ce sl (zB0 g ad f c s t bs bc co ex rc pl pn wy) (pc + 1) lo (.int (wy k) :: st)) : V E g N ad ce sl (zB0 g ad f c s t bs bc co ex rc pl pn wy) pc lo (.int j :: .ref (ad (c + 7)) :: st) := V_iald hC hd (by omega) zB0_a7 hx kk
theorem V_zB0_st7 (hC : CX E g cc Ts own rm) (hN : c + 8 ≤ N) {j x : Int32} {k : Nat} (hd : decode cc pc = .ok (.iastore, 1)) (hx : ix j k 5) (kk : V E g N ad ce sl (zB0 g ad f c s t bs bc co ex rc pl pn (upd wy k x)) (pc + 1) lo st) : V E g N ad ce sl (zB0 g ad f c s t bs bc co ex rc pl pn wy) pc lo (.int x :: .int j :: .ref (ad (c + 7)) :: st) := V_iast hC hd (by omega) zB0_a7 hx (V_f zB0_u7 kk)
theorem V_zB0_len7 (hC : CX E g cc Ts own rm) (hN : c + 8 ≤ N) (v : Int32) (hd : decode cc pc = .ok (.arraylength, 1)) (hv : Int32.ofNat 5 = v) (kk : V E g N ad ce sl (zB0 g ad f c s t bs bc co ex rc pl pn wy) (pc + 1) lo (.int v :: st)) : V E g N ad ce sl (zB0 g ad f c s t bs bc co ex rc pl pn wy) pc lo (.ref (ad (c + 7)) :: st) := V_alen (t0 := 0) (ty := .int) hC v hd (by omega) zB0_a7 rfl hv kk
end
/-! boxes -/
def boxE (y : Nat → Int32) : va_E := .inr (1, [.int (y 0), .int (y 1), .int (y 2), .int (y 3), .int (y 4), .int (y 5), .int (y 6)])
def zX (f : Nat → va_E) (c : Nat) (gx : Nat → Nat → Int32) : Nat → va_E := fun q => if c + 8 ≤ q ∧ q < c + 16 then boxE (gx (q - (c + 8))) else f q
theorem zX_at {f : Nat → va_E} {c j : Nat} {gx : Nat → Nat → Int32} (h : j < 8) : zX f c gx (c + 8 + j) = boxE (gx j) := by
  unfold zX
  rw [if_pos (by omega), Nat.add_sub_cancel_left]
theorem zX_out {f : Nat → va_E} {c q : Nat} {gx : Nat → Nat → Int32} (h : q < c + 8 ∨ c + 16 ≤ q) : zX f c gx q = f q := by
  unfold zX
  rw [if_neg (by omega)]
theorem zX_u {f : Nat → va_E} {c j : Nat} {gx : Nat → Nat → Int32} {y : Nat → Int32} (h : j < 8) : va_up (zX f c gx) (c + 8 + j) (boxE y) = zX f c (va_up gx j y) := by
  funext q
  unfold va_up zX
  by_cases hq : q = c + 8 + j
  · subst hq
    rw [if_pos rfl, if_pos (by omega), Nat.add_sub_cancel_left]
    simp
  · rw [if_neg hq]
    by_cases h2 : c + 8 ≤ q ∧ q < c + 16
    · have h3 : q - (c + 8) ≠ j := by omega
      rw [if_pos h2, if_pos h2]
      simp [h3]
    · rw [if_neg h2, if_neg h2]
/-- a belt: its object and arrays, and its boxes -/
def zB (g : GE) (ad : Nat → Nat) (f : Nat → va_E) (c : Nat) (s t : Nat → Int32) (p : Nat → Nat) (bc : Int32) (co ex : Nat → Int32) (rc : Int32) (pl : Nat → Int32) (pn : Int32) (wy : Nat → Int32) (gx : Nat → Nat → Int32) : Nat → va_E := zB0 g ad (zX f c gx) c s t (fun i => some (ad (c + 8 + p i))) bc co ex rc pl pn wy
theorem zB0_u {g : GE} {ad : Nat → Nat} {f : Nat → va_E} {c q : Nat} {s t : Nat → Int32} {bs : Nat → Option Nat} {bc : Int32} {co ex : Nat → Int32} {rc : Int32} {pl : Nat → Int32} {pn : Int32} {wy : Nat → Int32} {e : va_E} (h : c + 8 ≤ q) : va_up (zB0 g ad f c s t bs bc co ex rc pl pn wy) q e = zB0 g ad (va_up f q e) c s t bs bc co ex rc pl pn wy := by
  funext x
  by_cases hx : x = q
  · subst hx
    rw [zB0_out (by omega)]
    simp [va_up]
  · by_cases h2 : x < c ∨ c + 8 ≤ x
    · rw [zB0_out (by omega)]
      simp only [va_up, hx, if_false]
      rw [zB0_out (by omega)]
    · simp only [va_up, hx, if_false]
      unfold zB0
      simp only [va_up]
      repeat' (first | rfl | (split; rfl) | (split; exfalso; omega))
section
variable {E : EV} {g : GE} {N : Nat} {ad : Nat → Nat} {ce sl : Nat} {f : Nat → va_E} {pc : Nat} {lo : List (Option Value)} {st : List Value} {cc : ByteArray} {Ts : List Cond} {own : String} {rm : Room}
variable {c : Nat} {s t : Nat → Int32} {p : Nat → Nat} {bc : Int32} {co ex : Nat → Int32} {rc : Int32} {pl : Nat → Int32} {pn : Int32} {wy : Nat → Int32} {gx : Nat → Nat → Int32}
theorem zB_box {j : Nat} (h : j < 8) : zB g ad f c s t p bc co ex rc pl pn wy gx (c + 8 + j) = boxE (gx j) := by
  unfold zB
  rw [zB0_out (by omega), zX_at h]
theorem zB_out {q : Nat} (h : q < c ∨ c + 16 ≤ q) : zB g ad f c s t p bc co ex rc pl pn wy gx q = f q := by
  unfold zB
  rw [zB0_out (by omega), zX_out (by omega)]
theorem zB_ubox {j : Nat} {y : Nat → Int32} (h : j < 8) : va_up (zB g ad f c s t p bc co ex rc pl pn wy gx) (c + 8 + j) (boxE y) = zB g ad f c s t p bc co ex rc pl pn wy (va_up gx j y) := by
  unfold zB
  rw [zB0_u (by omega), zX_u h]
/-! a belt's rows -/
theorem V_B_settings (hC : CX E g cc Ts own rm) (hN : c + 16 ≤ N) {index : Nat} (hd : decode cc pc = .ok (.getfield index, 3)) (hin : ∀ w ∈ wsX00, w ∈ Ts) (hlk : Cond.fieldLink own index "BeltMarks$Belt" "settings" "[I" ∈ Ts) (kk : V E g N ad ce sl (zB g ad f c s t p bc co ex rc pl pn wy gx) (pc + 3) lo (.ref (ad (c + 1)) :: st)) : V E g N ad ce sl (zB g ad f c s t p bc co ex rc pl pn wy gx) pc lo (.ref (ad c) :: st) := V_zB0_settings hC (by omega) hd hin hlk kk
theorem V_B_tallies (hC : CX E g cc Ts own rm) (hN : c + 16 ≤ N) {index : Nat} (hd : decode cc pc = .ok (.getfield index, 3)) (hin : ∀ w ∈ wsX00, w ∈ Ts) (hlk : Cond.fieldLink own index "BeltMarks$Belt" "tallies" "[I" ∈ Ts) (kk : V E g N ad ce sl (zB g ad f c s t p bc co ex rc pl pn wy gx) (pc + 3) lo (.ref (ad (c + 2)) :: st)) : V E g N ad ce sl (zB g ad f c s t p bc co ex rc pl pn wy gx) pc lo (.ref (ad c) :: st) := V_zB0_tallies hC (by omega) hd hin hlk kk
theorem V_B_boxes (hC : CX E g cc Ts own rm) (hN : c + 16 ≤ N) {index : Nat} (hd : decode cc pc = .ok (.getfield index, 3)) (hin : ∀ w ∈ wsX00, w ∈ Ts) (hlk : Cond.fieldLink own index "BeltMarks$Belt" "boxes" "[LBeltMarks$Box;" ∈ Ts) (kk : V E g N ad ce sl (zB g ad f c s t p bc co ex rc pl pn wy gx) (pc + 3) lo (.ref (ad (c + 3)) :: st)) : V E g N ad ce sl (zB g ad f c s t p bc co ex rc pl pn wy gx) pc lo (.ref (ad c) :: st) := V_zB0_boxes hC (by omega) hd hin hlk kk
theorem V_B_boxCount (hC : CX E g cc Ts own rm) (hN : c + 16 ≤ N) {index : Nat} (hd : decode cc pc = .ok (.getfield index, 3)) (hin : ∀ w ∈ wsX00, w ∈ Ts) (hlk : Cond.fieldLink own index "BeltMarks$Belt" "boxCount" "I" ∈ Ts) (kk : V E g N ad ce sl (zB g ad f c s t p bc co ex rc pl pn wy gx) (pc + 3) lo (.int bc :: st)) : V E g N ad ce sl (zB g ad f c s t p bc co ex rc pl pn wy gx) pc lo (.ref (ad c) :: st) := V_zB0_boxCount hC (by omega) hd hin hlk kk
theorem V_B_put_boxCount (hC : CX E g cc Ts own rm) (hN : c + 16 ≤ N) {index : Nat} {z : Int32} (hd : decode cc pc = .ok (.putfield index, 3)) (hin : ∀ w ∈ wsX00, w ∈ Ts) (hlk : Cond.fieldLink own index "BeltMarks$Belt" "boxCount" "I" ∈ Ts) (kk : V E g N ad ce sl (zB g ad f c s t p z co ex rc pl pn wy gx) (pc + 3) lo st) : V E g N ad ce sl (zB g ad f c s t p bc co ex rc pl pn wy gx) pc lo (.int z :: .ref (ad c) :: st) := V_zB0_put_boxCount hC (by omega) hd hin hlk kk
theorem V_B_comes (hC : CX E g cc Ts own rm) (hN : c + 16 ≤ N) {index : Nat} (hd : decode cc pc = .ok (.getfield index, 3)) (hin : ∀ w ∈ wsX00, w ∈ Ts) (hlk : Cond.fieldLink own index "BeltMarks$Belt" "comes" "[I" ∈ Ts) (kk : V E g N ad ce sl (zB g ad f c s t p bc co ex rc pl pn wy gx) (pc + 3) lo (.ref (ad (c + 4)) :: st)) : V E g N ad ce sl (zB g ad f c s t p bc co ex rc pl pn wy gx) pc lo (.ref (ad c) :: st) := V_zB0_comes hC (by omega) hd hin hlk kk
theorem V_B_excesses (hC : CX E g cc Ts own rm) (hN : c + 16 ≤ N) {index : Nat} (hd : decode cc pc = .ok (.getfield index, 3)) (hin : ∀ w ∈ wsX00, w ∈ Ts) (hlk : Cond.fieldLink own index "BeltMarks$Belt" "excesses" "[I" ∈ Ts) (kk : V E g N ad ce sl (zB g ad f c s t p bc co ex rc pl pn wy gx) (pc + 3) lo (.ref (ad (c + 5)) :: st)) : V E g N ad ce sl (zB g ad f c s t p bc co ex rc pl pn wy gx) pc lo (.ref (ad c) :: st) := V_zB0_excesses hC (by omega) hd hin hlk kk
theorem V_B_reportCount (hC : CX E g cc Ts own rm) (hN : c + 16 ≤ N) {index : Nat} (hd : decode cc pc = .ok (.getfield index, 3)) (hin : ∀ w ∈ wsX00, w ∈ Ts) (hlk : Cond.fieldLink own index "BeltMarks$Belt" "reportCount" "I" ∈ Ts) (kk : V E g N ad ce sl (zB g ad f c s t p bc co ex rc pl pn wy gx) (pc + 3) lo (.int rc :: st)) : V E g N ad ce sl (zB g ad f c s t p bc co ex rc pl pn wy gx) pc lo (.ref (ad c) :: st) := V_zB0_reportCount hC (by omega) hd hin hlk kk
theorem V_B_put_reportCount (hC : CX E g cc Ts own rm) (hN : c + 16 ≤ N) {index : Nat} {z : Int32} (hd : decode cc pc = .ok (.putfield index, 3)) (hin : ∀ w ∈ wsX00, w ∈ Ts) (hlk : Cond.fieldLink own index "BeltMarks$Belt" "reportCount" "I" ∈ Ts) (kk : V E g N ad ce sl (zB g ad f c s t p bc co ex z pl pn wy gx) (pc + 3) lo st) : V E g N ad ce sl (zB g ad f c s t p bc co ex rc pl pn wy gx) pc lo (.int z :: .ref (ad c) :: st) := V_zB0_put_reportCount hC (by omega) hd hin hlk kk
theorem V_B_plans (hC : CX E g cc Ts own rm) (hN : c + 16 ≤ N) {index : Nat} (hd : decode cc pc = .ok (.getfield index, 3)) (hin : ∀ w ∈ wsX00, w ∈ Ts) (hlk : Cond.fieldLink own index "BeltMarks$Belt" "plans" "[I" ∈ Ts) (kk : V E g N ad ce sl (zB g ad f c s t p bc co ex rc pl pn wy gx) (pc + 3) lo (.ref (ad (c + 6)) :: st)) : V E g N ad ce sl (zB g ad f c s t p bc co ex rc pl pn wy gx) pc lo (.ref (ad c) :: st) := V_zB0_plans hC (by omega) hd hin hlk kk
theorem V_B_planCount (hC : CX E g cc Ts own rm) (hN : c + 16 ≤ N) {index : Nat} (hd : decode cc pc = .ok (.getfield index, 3)) (hin : ∀ w ∈ wsX00, w ∈ Ts) (hlk : Cond.fieldLink own index "BeltMarks$Belt" "planCount" "I" ∈ Ts) (kk : V E g N ad ce sl (zB g ad f c s t p bc co ex rc pl pn wy gx) (pc + 3) lo (.int pn :: st)) : V E g N ad ce sl (zB g ad f c s t p bc co ex rc pl pn wy gx) pc lo (.ref (ad c) :: st) := V_zB0_planCount hC (by omega) hd hin hlk kk
theorem V_B_put_planCount (hC : CX E g cc Ts own rm) (hN : c + 16 ≤ N) {index : Nat} {z : Int32} (hd : decode cc pc = .ok (.putfield index, 3)) (hin : ∀ w ∈ wsX00, w ∈ Ts) (hlk : Cond.fieldLink own index "BeltMarks$Belt" "planCount" "I" ∈ Ts) (kk : V E g N ad ce sl (zB g ad f c s t p bc co ex rc pl z wy gx) (pc + 3) lo st) : V E g N ad ce sl (zB g ad f c s t p bc co ex rc pl pn wy gx) pc lo (.int z :: .ref (ad c) :: st) := V_zB0_put_planCount hC (by omega) hd hin hlk kk
theorem V_B_ways (hC : CX E g cc Ts own rm) (hN : c + 16 ≤ N) {index : Nat} (hd : decode cc pc = .ok (.getfield index, 3)) (hin : ∀ w ∈ wsX00, w ∈ Ts) (hlk : Cond.fieldLink own index "BeltMarks$Belt" "ways" "[I" ∈ Ts) (kk : V E g N ad ce sl (zB g ad f c s t p bc co ex rc pl pn wy gx) (pc + 3) lo (.ref (ad (c + 7)) :: st)) : V E g N ad ce sl (zB g ad f c s t p bc co ex rc pl pn wy gx) pc lo (.ref (ad c) :: st) := V_zB0_ways hC (by omega) hd hin hlk kk
theorem V_B_ld1 (hC : CX E g cc Ts own rm) (hN : c + 16 ≤ N) {j : Int32} {k : Nat} (hd : decode cc pc = .ok (.iaload, 1)) (hx : ix j k 8) (kk : V E g N ad ce sl (zB g ad f c s t p bc co ex rc pl pn wy gx) (pc + 1) lo (.int (s k) :: st)) : V E g N ad ce sl (zB g ad f c s t p bc co ex rc pl pn wy gx) pc lo (.int j :: .ref (ad (c + 1)) :: st) := V_zB0_ld1 hC (by omega) hd hx kk
theorem V_B_st1 (hC : CX E g cc Ts own rm) (hN : c + 16 ≤ N) {j x : Int32} {k : Nat} (hd : decode cc pc = .ok (.iastore, 1)) (hx : ix j k 8) (kk : V E g N ad ce sl (zB g ad f c (upd s k x) t p bc co ex rc pl pn wy gx) (pc + 1) lo st) : V E g N ad ce sl (zB g ad f c s t p bc co ex rc pl pn wy gx) pc lo (.int x :: .int j :: .ref (ad (c + 1)) :: st) := V_zB0_st1 hC (by omega) hd hx kk
theorem V_B_len1 (hC : CX E g cc Ts own rm) (hN : c + 16 ≤ N) (v : Int32) (hd : decode cc pc = .ok (.arraylength, 1)) (hv : Int32.ofNat 8 = v) (kk : V E g N ad ce sl (zB g ad f c s t p bc co ex rc pl pn wy gx) (pc + 1) lo (.int v :: st)) : V E g N ad ce sl (zB g ad f c s t p bc co ex rc pl pn wy gx) pc lo (.ref (ad (c + 1)) :: st) := V_zB0_len1 hC (by omega) v hd hv kk
theorem V_B_ld2 (hC : CX E g cc Ts own rm) (hN : c + 16 ≤ N) {j : Int32} {k : Nat} (hd : decode cc pc = .ok (.iaload, 1)) (hx : ix j k 14) (kk : V E g N ad ce sl (zB g ad f c s t p bc co ex rc pl pn wy gx) (pc + 1) lo (.int (t k) :: st)) : V E g N ad ce sl (zB g ad f c s t p bc co ex rc pl pn wy gx) pc lo (.int j :: .ref (ad (c + 2)) :: st) := V_zB0_ld2 hC (by omega) hd hx kk
theorem V_B_st2 (hC : CX E g cc Ts own rm) (hN : c + 16 ≤ N) {j x : Int32} {k : Nat} (hd : decode cc pc = .ok (.iastore, 1)) (hx : ix j k 14) (kk : V E g N ad ce sl (zB g ad f c s (upd t k x) p bc co ex rc pl pn wy gx) (pc + 1) lo st) : V E g N ad ce sl (zB g ad f c s t p bc co ex rc pl pn wy gx) pc lo (.int x :: .int j :: .ref (ad (c + 2)) :: st) := V_zB0_st2 hC (by omega) hd hx kk
theorem V_B_len2 (hC : CX E g cc Ts own rm) (hN : c + 16 ≤ N) (v : Int32) (hd : decode cc pc = .ok (.arraylength, 1)) (hv : Int32.ofNat 14 = v) (kk : V E g N ad ce sl (zB g ad f c s t p bc co ex rc pl pn wy gx) (pc + 1) lo (.int v :: st)) : V E g N ad ce sl (zB g ad f c s t p bc co ex rc pl pn wy gx) pc lo (.ref (ad (c + 2)) :: st) := V_zB0_len2 hC (by omega) v hd hv kk
theorem V_B_ld4 (hC : CX E g cc Ts own rm) (hN : c + 16 ≤ N) {j : Int32} {k : Nat} (hd : decode cc pc = .ok (.iaload, 1)) (hx : ix j k 32) (kk : V E g N ad ce sl (zB g ad f c s t p bc co ex rc pl pn wy gx) (pc + 1) lo (.int (co k) :: st)) : V E g N ad ce sl (zB g ad f c s t p bc co ex rc pl pn wy gx) pc lo (.int j :: .ref (ad (c + 4)) :: st) := V_zB0_ld4 hC (by omega) hd hx kk
theorem V_B_st4 (hC : CX E g cc Ts own rm) (hN : c + 16 ≤ N) {j x : Int32} {k : Nat} (hd : decode cc pc = .ok (.iastore, 1)) (hx : ix j k 32) (kk : V E g N ad ce sl (zB g ad f c s t p bc (upd co k x) ex rc pl pn wy gx) (pc + 1) lo st) : V E g N ad ce sl (zB g ad f c s t p bc co ex rc pl pn wy gx) pc lo (.int x :: .int j :: .ref (ad (c + 4)) :: st) := V_zB0_st4 hC (by omega) hd hx kk
theorem V_B_len4 (hC : CX E g cc Ts own rm) (hN : c + 16 ≤ N) (v : Int32) (hd : decode cc pc = .ok (.arraylength, 1)) (hv : Int32.ofNat 32 = v) (kk : V E g N ad ce sl (zB g ad f c s t p bc co ex rc pl pn wy gx) (pc + 1) lo (.int v :: st)) : V E g N ad ce sl (zB g ad f c s t p bc co ex rc pl pn wy gx) pc lo (.ref (ad (c + 4)) :: st) := V_zB0_len4 hC (by omega) v hd hv kk
theorem V_B_ld5 (hC : CX E g cc Ts own rm) (hN : c + 16 ≤ N) {j : Int32} {k : Nat} (hd : decode cc pc = .ok (.iaload, 1)) (hx : ix j k 32) (kk : V E g N ad ce sl (zB g ad f c s t p bc co ex rc pl pn wy gx) (pc + 1) lo (.int (ex k) :: st)) : V E g N ad ce sl (zB g ad f c s t p bc co ex rc pl pn wy gx) pc lo (.int j :: .ref (ad (c + 5)) :: st) := V_zB0_ld5 hC (by omega) hd hx kk
theorem V_B_st5 (hC : CX E g cc Ts own rm) (hN : c + 16 ≤ N) {j x : Int32} {k : Nat} (hd : decode cc pc = .ok (.iastore, 1)) (hx : ix j k 32) (kk : V E g N ad ce sl (zB g ad f c s t p bc co (upd ex k x) rc pl pn wy gx) (pc + 1) lo st) : V E g N ad ce sl (zB g ad f c s t p bc co ex rc pl pn wy gx) pc lo (.int x :: .int j :: .ref (ad (c + 5)) :: st) := V_zB0_st5 hC (by omega) hd hx kk
theorem V_B_len5 (hC : CX E g cc Ts own rm) (hN : c + 16 ≤ N) (v : Int32) (hd : decode cc pc = .ok (.arraylength, 1)) (hv : Int32.ofNat 32 = v) (kk : V E g N ad ce sl (zB g ad f c s t p bc co ex rc pl pn wy gx) (pc + 1) lo (.int v :: st)) : V E g N ad ce sl (zB g ad f c s t p bc co ex rc pl pn wy gx) pc lo (.ref (ad (c + 5)) :: st) := V_zB0_len5 hC (by omega) v hd hv kk
theorem V_B_ld6 (hC : CX E g cc Ts own rm) (hN : c + 16 ≤ N) {j : Int32} {k : Nat} (hd : decode cc pc = .ok (.iaload, 1)) (hx : ix j k 32) (kk : V E g N ad ce sl (zB g ad f c s t p bc co ex rc pl pn wy gx) (pc + 1) lo (.int (pl k) :: st)) : V E g N ad ce sl (zB g ad f c s t p bc co ex rc pl pn wy gx) pc lo (.int j :: .ref (ad (c + 6)) :: st) := V_zB0_ld6 hC (by omega) hd hx kk
theorem V_B_st6 (hC : CX E g cc Ts own rm) (hN : c + 16 ≤ N) {j x : Int32} {k : Nat} (hd : decode cc pc = .ok (.iastore, 1)) (hx : ix j k 32) (kk : V E g N ad ce sl (zB g ad f c s t p bc co ex rc (upd pl k x) pn wy gx) (pc + 1) lo st) : V E g N ad ce sl (zB g ad f c s t p bc co ex rc pl pn wy gx) pc lo (.int x :: .int j :: .ref (ad (c + 6)) :: st) := V_zB0_st6 hC (by omega) hd hx kk
theorem V_B_len6 (hC : CX E g cc Ts own rm) (hN : c + 16 ≤ N) (v : Int32) (hd : decode cc pc = .ok (.arraylength, 1)) (hv : Int32.ofNat 32 = v) (kk : V E g N ad ce sl (zB g ad f c s t p bc co ex rc pl pn wy gx) (pc + 1) lo (.int v :: st)) : V E g N ad ce sl (zB g ad f c s t p bc co ex rc pl pn wy gx) pc lo (.ref (ad (c + 6)) :: st) := V_zB0_len6 hC (by omega) v hd hv kk
theorem V_B_ld7 (hC : CX E g cc Ts own rm) (hN : c + 16 ≤ N) {j : Int32} {k : Nat} (hd : decode cc pc = .ok (.iaload, 1)) (hx : ix j k 5) (kk : V E g N ad ce sl (zB g ad f c s t p bc co ex rc pl pn wy gx) (pc + 1) lo (.int (wy k) :: st)) : V E g N ad ce sl (zB g ad f c s t p bc co ex rc pl pn wy gx) pc lo (.int j :: .ref (ad (c + 7)) :: st) := V_zB0_ld7 hC (by omega) hd hx kk
theorem V_B_st7 (hC : CX E g cc Ts own rm) (hN : c + 16 ≤ N) {j x : Int32} {k : Nat} (hd : decode cc pc = .ok (.iastore, 1)) (hx : ix j k 5) (kk : V E g N ad ce sl (zB g ad f c s t p bc co ex rc pl pn (upd wy k x) gx) (pc + 1) lo st) : V E g N ad ce sl (zB g ad f c s t p bc co ex rc pl pn wy gx) pc lo (.int x :: .int j :: .ref (ad (c + 7)) :: st) := V_zB0_st7 hC (by omega) hd hx kk
theorem V_B_len7 (hC : CX E g cc Ts own rm) (hN : c + 16 ≤ N) (v : Int32) (hd : decode cc pc = .ok (.arraylength, 1)) (hv : Int32.ofNat 5 = v) (kk : V E g N ad ce sl (zB g ad f c s t p bc co ex rc pl pn wy gx) (pc + 1) lo (.int v :: st)) : V E g N ad ce sl (zB g ad f c s t p bc co ex rc pl pn wy gx) pc lo (.ref (ad (c + 7)) :: st) := V_zB0_len7 hC (by omega) v hd hv kk
theorem V_B_ld3 (hC : CX E g cc Ts own rm) (hN : c + 16 ≤ N) {j : Int32} {k : Nat} (hd : decode cc pc = .ok (.aaload, 1)) (hx : ix j k 8) (kk : V E g N ad ce sl (zB g ad f c s t p bc co ex rc pl pn wy gx) (pc + 1) lo (.ref (ad (c + 8 + p k)) :: st)) : V E g N ad ce sl (zB g ad f c s t p bc co ex rc pl pn wy gx) pc lo (.int j :: .ref (ad (c + 3)) :: st) := V_aald (t0 := 4) hC hd (by omega) zB0_a3 rfl hx rfl kk
theorem V_B_st3 (hC : CX E g cc Ts own rm) (hN : c + 16 ≤ N) {j : Int32} {k q : Nat} (hd : decode cc pc = .ok (.aastore, 1)) (hx : ix j k 8) (hq : q < 8) (kk : V E g N ad ce sl (zB g ad f c s t (va_up p k q) bc co ex rc pl pn wy gx) (pc + 1) lo st) : V E g N ad ce sl (zB g ad f c s t p bc co ex rc pl pn wy gx) pc lo (.ref (ad (c + 8 + q)) :: .int j :: .ref (ad (c + 3)) :: st) := by
  refine V_aast (t0 := 4) (r := (RX1, TX1, 7)) hC hd (by omega) zB0_a3 rfl (by omega) (zB_box hq) rfl hx (V_f ?_ kk)
  have e : (va_up (fun i => some (ad (c + 8 + p i))) k (some (ad (c + 8 + q)))) = (fun i => some (ad (c + 8 + (va_up p k q) i))) := by
    funext i
    simp only [va_up]
    split <;> rfl
  unfold zB
  rw [← e]
  funext x
  simp only [va_up, zB0]
  by_cases h3 : x = c + 3
  · subst h3
    simp
  · simp [h3]
theorem V_X_front (hC : CX E g cc Ts own rm) {i : Nat} {y : Nat → Int32} (hi : i < N) (hf : f i = boxE y) {index : Nat} (hd : decode cc pc = .ok (.getfield index, 3)) (hin : ∀ w ∈ wsX10, w ∈ Ts) (hlk : Cond.fieldLink own index "BeltMarks$Box" "front" "I" ∈ Ts) (kk : V E g N ad ce sl f (pc + 3) lo (.int (y 0) :: st)) : V E g N ad ce sl f pc lo (.ref (ad i) :: st) := V_get hC 0 hd hi hf rfl (by decide) hin hlk rfl kk
theorem V_X_put_front (hC : CX E g cc Ts own rm) {i : Nat} {y : Nat → Int32} {z : Int32} (hi : i < N) (hf : f i = boxE y) {index : Nat} (hd : decode cc pc = .ok (.putfield index, 3)) (hin : ∀ w ∈ wsX10, w ∈ Ts) (hlk : Cond.fieldLink own index "BeltMarks$Box" "front" "I" ∈ Ts) (kk : V E g N ad ce sl (va_up f i (boxE (upd y 0 z))) (pc + 3) lo st) : V E g N ad ce sl f pc lo (.int z :: .ref (ad i) :: st) := V_put hC (ty := .int) 0 hd hi hf rfl (by decide) hin hlk tyX1_ok nmX1 rfl rfl rfl rfl (by simp) (V_f rfl kk)
theorem V_X_length (hC : CX E g cc Ts own rm) {i : Nat} {y : Nat → Int32} (hi : i < N) (hf : f i = boxE y) {index : Nat} (hd : decode cc pc = .ok (.getfield index, 3)) (hin : ∀ w ∈ wsX10, w ∈ Ts) (hlk : Cond.fieldLink own index "BeltMarks$Box" "length" "I" ∈ Ts) (kk : V E g N ad ce sl f (pc + 3) lo (.int (y 1) :: st)) : V E g N ad ce sl f pc lo (.ref (ad i) :: st) := V_get hC 1 hd hi hf rfl (by decide) hin hlk rfl kk
theorem V_X_put_length (hC : CX E g cc Ts own rm) {i : Nat} {y : Nat → Int32} {z : Int32} (hi : i < N) (hf : f i = boxE y) {index : Nat} (hd : decode cc pc = .ok (.putfield index, 3)) (hin : ∀ w ∈ wsX10, w ∈ Ts) (hlk : Cond.fieldLink own index "BeltMarks$Box" "length" "I" ∈ Ts) (kk : V E g N ad ce sl (va_up f i (boxE (upd y 1 z))) (pc + 3) lo st) : V E g N ad ce sl f pc lo (.int z :: .ref (ad i) :: st) := V_put hC (ty := .int) 1 hd hi hf rfl (by decide) hin hlk tyX1_ok nmX1 rfl rfl rfl rfl (by simp) (V_f rfl kk)
theorem V_X_seen (hC : CX E g cc Ts own rm) {i : Nat} {y : Nat → Int32} (hi : i < N) (hf : f i = boxE y) {index : Nat} (hd : decode cc pc = .ok (.getfield index, 3)) (hin : ∀ w ∈ wsX10, w ∈ Ts) (hlk : Cond.fieldLink own index "BeltMarks$Box" "seen" "Z" ∈ Ts) (kk : V E g N ad ce sl f (pc + 3) lo (.int (y 2) :: st)) : V E g N ad ce sl f pc lo (.ref (ad i) :: st) := V_get hC 2 hd hi hf rfl (by decide) hin hlk rfl kk
theorem V_X_put_seen (hC : CX E g cc Ts own rm) {i : Nat} {y : Nat → Int32} {z : Int32} (hi : i < N) (hf : f i = boxE y) (hz : z = 0 ∨ z = 1) {index : Nat} (hd : decode cc pc = .ok (.putfield index, 3)) (hin : ∀ w ∈ wsX10, w ∈ Ts) (hlk : Cond.fieldLink own index "BeltMarks$Box" "seen" "Z" ∈ Ts) (kk : V E g N ad ce sl (va_up f i (boxE (upd y 2 z))) (pc + 3) lo st) : V E g N ad ce sl f pc lo (.int z :: .ref (ad i) :: st) := V_put hC (ty := .boolean) 2 hd hi hf rfl (by decide) hin hlk tyX1_ok nmX1 rfl rfl (by rcases hz with h | h <;> subst h <;> rfl) (by rcases hz with h | h <;> subst h <;> rfl) (by simp) (V_f rfl kk)
theorem V_X_marked (hC : CX E g cc Ts own rm) {i : Nat} {y : Nat → Int32} (hi : i < N) (hf : f i = boxE y) {index : Nat} (hd : decode cc pc = .ok (.getfield index, 3)) (hin : ∀ w ∈ wsX10, w ∈ Ts) (hlk : Cond.fieldLink own index "BeltMarks$Box" "marked" "Z" ∈ Ts) (kk : V E g N ad ce sl f (pc + 3) lo (.int (y 3) :: st)) : V E g N ad ce sl f pc lo (.ref (ad i) :: st) := V_get hC 3 hd hi hf rfl (by decide) hin hlk rfl kk
theorem V_X_put_marked (hC : CX E g cc Ts own rm) {i : Nat} {y : Nat → Int32} {z : Int32} (hi : i < N) (hf : f i = boxE y) (hz : z = 0 ∨ z = 1) {index : Nat} (hd : decode cc pc = .ok (.putfield index, 3)) (hin : ∀ w ∈ wsX10, w ∈ Ts) (hlk : Cond.fieldLink own index "BeltMarks$Box" "marked" "Z" ∈ Ts) (kk : V E g N ad ce sl (va_up f i (boxE (upd y 3 z))) (pc + 3) lo st) : V E g N ad ce sl f pc lo (.int z :: .ref (ad i) :: st) := V_put hC (ty := .boolean) 3 hd hi hf rfl (by decide) hin hlk tyX1_ok nmX1 rfl rfl (by rcases hz with h | h <;> subst h <;> rfl) (by rcases hz with h | h <;> subst h <;> rfl) (by simp) (V_f rfl kk)
theorem V_X_mark (hC : CX E g cc Ts own rm) {i : Nat} {y : Nat → Int32} (hi : i < N) (hf : f i = boxE y) {index : Nat} (hd : decode cc pc = .ok (.getfield index, 3)) (hin : ∀ w ∈ wsX10, w ∈ Ts) (hlk : Cond.fieldLink own index "BeltMarks$Box" "mark" "I" ∈ Ts) (kk : V E g N ad ce sl f (pc + 3) lo (.int (y 4) :: st)) : V E g N ad ce sl f pc lo (.ref (ad i) :: st) := V_get hC 4 hd hi hf rfl (by decide) hin hlk rfl kk
theorem V_X_put_mark (hC : CX E g cc Ts own rm) {i : Nat} {y : Nat → Int32} {z : Int32} (hi : i < N) (hf : f i = boxE y) {index : Nat} (hd : decode cc pc = .ok (.putfield index, 3)) (hin : ∀ w ∈ wsX10, w ∈ Ts) (hlk : Cond.fieldLink own index "BeltMarks$Box" "mark" "I" ∈ Ts) (kk : V E g N ad ce sl (va_up f i (boxE (upd y 4 z))) (pc + 3) lo st) : V E g N ad ce sl f pc lo (.int z :: .ref (ad i) :: st) := V_put hC (ty := .int) 4 hd hi hf rfl (by decide) hin hlk tyX1_ok nmX1 rfl rfl rfl rfl (by simp) (V_f rfl kk)
theorem V_X_twice (hC : CX E g cc Ts own rm) {i : Nat} {y : Nat → Int32} (hi : i < N) (hf : f i = boxE y) {index : Nat} (hd : decode cc pc = .ok (.getfield index, 3)) (hin : ∀ w ∈ wsX10, w ∈ Ts) (hlk : Cond.fieldLink own index "BeltMarks$Box" "twice" "Z" ∈ Ts) (kk : V E g N ad ce sl f (pc + 3) lo (.int (y 5) :: st)) : V E g N ad ce sl f pc lo (.ref (ad i) :: st) := V_get hC 5 hd hi hf rfl (by decide) hin hlk rfl kk
theorem V_X_put_twice (hC : CX E g cc Ts own rm) {i : Nat} {y : Nat → Int32} {z : Int32} (hi : i < N) (hf : f i = boxE y) (hz : z = 0 ∨ z = 1) {index : Nat} (hd : decode cc pc = .ok (.putfield index, 3)) (hin : ∀ w ∈ wsX10, w ∈ Ts) (hlk : Cond.fieldLink own index "BeltMarks$Box" "twice" "Z" ∈ Ts) (kk : V E g N ad ce sl (va_up f i (boxE (upd y 5 z))) (pc + 3) lo st) : V E g N ad ce sl f pc lo (.int z :: .ref (ad i) :: st) := V_put hC (ty := .boolean) 5 hd hi hf rfl (by decide) hin hlk tyX1_ok nmX1 rfl rfl (by rcases hz with h | h <;> subst h <;> rfl) (by rcases hz with h | h <;> subst h <;> rfl) (by simp) (V_f rfl kk)
theorem V_X_number (hC : CX E g cc Ts own rm) {i : Nat} {y : Nat → Int32} (hi : i < N) (hf : f i = boxE y) {index : Nat} (hd : decode cc pc = .ok (.getfield index, 3)) (hin : ∀ w ∈ wsX10, w ∈ Ts) (hlk : Cond.fieldLink own index "BeltMarks$Box" "number" "I" ∈ Ts) (kk : V E g N ad ce sl f (pc + 3) lo (.int (y 6) :: st)) : V E g N ad ce sl f pc lo (.ref (ad i) :: st) := V_get hC 6 hd hi hf rfl (by decide) hin hlk rfl kk
theorem V_X_put_number (hC : CX E g cc Ts own rm) {i : Nat} {y : Nat → Int32} {z : Int32} (hi : i < N) (hf : f i = boxE y) {index : Nat} (hd : decode cc pc = .ok (.putfield index, 3)) (hin : ∀ w ∈ wsX10, w ∈ Ts) (hlk : Cond.fieldLink own index "BeltMarks$Box" "number" "I" ∈ Ts) (kk : V E g N ad ce sl (va_up f i (boxE (upd y 6 z))) (pc + 3) lo st) : V E g N ad ce sl f pc lo (.int z :: .ref (ad i) :: st) := V_put hC (ty := .int) 6 hd hi hf rfl (by decide) hin hlk tyX1_ok nmX1 rfl rfl rfl rfl (by simp) (V_f rfl kk)
end
