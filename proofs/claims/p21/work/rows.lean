section
-- ===== PART A: goes FIRST, ahead of the names: the tables' words, and 'selects' of the private methods out of them =====
/-- a private method of a class that the tables say can be made, by its rows of tables_1 -/
def lw_okq (q : MethodName × Nat) : Prop := (q.1.cls ≠ "java/lang/invoke/MethodHandle" ∧ q.1.cls ≠ "java/lang/invoke/VarHandle") ∧ Cond.instantiable q.1.cls q.2 ∈ tables_1 ∧ Cond.privateMethod q.1 ∈ tables_1 ∧ Cond.instanceMethod q.1 ∈ tables_1
theorem lw_p0 : lw_okq (⟨"BeltMarks$History", "stateAt", "(I)LBeltMarks$Belt;"⟩, 3) := ⟨⟨by decide +kernel, by decide +kernel⟩, List.mem_of_getElem? (i := 100) (by decide +kernel), List.mem_of_getElem? (i := 173) (by decide +kernel), List.mem_of_getElem? (i := 174) (by decide +kernel)⟩
theorem lw_p1 : lw_okq (⟨"BeltMarks", "recorded", "(I)I"⟩, 6) := ⟨⟨by decide +kernel, by decide +kernel⟩, List.mem_of_getElem? (i := 9) (by decide +kernel), List.mem_of_getElem? (i := 206) (by decide +kernel), List.mem_of_getElem? (i := 207) (by decide +kernel)⟩
theorem lw_p2 : lw_okq (⟨"BeltMarks$Belt", "howManyLeft", "()I"⟩, 10) := ⟨⟨by decide +kernel, by decide +kernel⟩, List.mem_of_getElem? (i := 17) (by decide +kernel), List.mem_of_getElem? (i := 222) (by decide +kernel), List.mem_of_getElem? (i := 223) (by decide +kernel)⟩
theorem lw_p3 : lw_okq (⟨"BeltMarks$Belt", "moveOn", "()V"⟩, 10) := ⟨⟨by decide +kernel, by decide +kernel⟩, List.mem_of_getElem? (i := 17) (by decide +kernel), List.mem_of_getElem? (i := 230) (by decide +kernel), List.mem_of_getElem? (i := 231) (by decide +kernel)⟩
theorem lw_p4 : lw_okq (⟨"BeltMarks$Belt", "seeBoxes", "()V"⟩, 10) := ⟨⟨by decide +kernel, by decide +kernel⟩, List.mem_of_getElem? (i := 17) (by decide +kernel), List.mem_of_getElem? (i := 234) (by decide +kernel), List.mem_of_getElem? (i := 235) (by decide +kernel)⟩
theorem lw_p5 : lw_okq (⟨"BeltMarks$Belt", "addReport", "(I)V"⟩, 10) := ⟨⟨by decide +kernel, by decide +kernel⟩, List.mem_of_getElem? (i := 17) (by decide +kernel), List.mem_of_getElem? (i := 238) (by decide +kernel), List.mem_of_getElem? (i := 239) (by decide +kernel)⟩
theorem lw_p6 : lw_okq (⟨"BeltMarks$Belt", "countPlansDown", "()V"⟩, 10) := ⟨⟨by decide +kernel, by decide +kernel⟩, List.mem_of_getElem? (i := 17) (by decide +kernel), List.mem_of_getElem? (i := 242) (by decide +kernel), List.mem_of_getElem? (i := 243) (by decide +kernel)⟩
theorem lw_p7 : lw_okq (⟨"BeltMarks$Belt", "takeReports", "()V"⟩, 10) := ⟨⟨by decide +kernel, by decide +kernel⟩, List.mem_of_getElem? (i := 17) (by decide +kernel), List.mem_of_getElem? (i := 246) (by decide +kernel), List.mem_of_getElem? (i := 247) (by decide +kernel)⟩
theorem lw_p8 : lw_okq (⟨"BeltMarks$Belt", "addPlan", "(I)V"⟩, 10) := ⟨⟨by decide +kernel, by decide +kernel⟩, List.mem_of_getElem? (i := 17) (by decide +kernel), List.mem_of_getElem? (i := 250) (by decide +kernel), List.mem_of_getElem? (i := 251) (by decide +kernel)⟩
theorem lw_p9 : lw_okq (⟨"BeltMarks$Belt", "guessedWay", "()I"⟩, 10) := ⟨⟨by decide +kernel, by decide +kernel⟩, List.mem_of_getElem? (i := 17) (by decide +kernel), List.mem_of_getElem? (i := 254) (by decide +kernel), List.mem_of_getElem? (i := 255) (by decide +kernel)⟩
theorem lw_p10 : lw_okq (⟨"BeltMarks$Belt", "doPlans", "()V"⟩, 10) := ⟨⟨by decide +kernel, by decide +kernel⟩, List.mem_of_getElem? (i := 17) (by decide +kernel), List.mem_of_getElem? (i := 258) (by decide +kernel), List.mem_of_getElem? (i := 259) (by decide +kernel)⟩
theorem lw_p11 : lw_okq (⟨"BeltMarks$Belt", "useLabel", "()V"⟩, 10) := ⟨⟨by decide +kernel, by decide +kernel⟩, List.mem_of_getElem? (i := 17) (by decide +kernel), List.mem_of_getElem? (i := 262) (by decide +kernel), List.mem_of_getElem? (i := 263) (by decide +kernel)⟩
theorem lw_p12 : lw_okq (⟨"BeltMarks$Belt", "markBox", "(LBeltMarks$Box;)V"⟩, 10) := ⟨⟨by decide +kernel, by decide +kernel⟩, List.mem_of_getElem? (i := 17) (by decide +kernel), List.mem_of_getElem? (i := 270) (by decide +kernel), List.mem_of_getElem? (i := 271) (by decide +kernel)⟩
theorem lw_p13 : lw_okq (⟨"BeltMarks$Belt", "feed", "()V"⟩, 10) := ⟨⟨by decide +kernel, by decide +kernel⟩, List.mem_of_getElem? (i := 17) (by decide +kernel), List.mem_of_getElem? (i := 274) (by decide +kernel), List.mem_of_getElem? (i := 275) (by decide +kernel)⟩
theorem lw_p14 : lw_okq (⟨"BeltMarks$Belt", "letBoxesLeave", "()V"⟩, 10) := ⟨⟨by decide +kernel, by decide +kernel⟩, List.mem_of_getElem? (i := 17) (by decide +kernel), List.mem_of_getElem? (i := 281) (by decide +kernel), List.mem_of_getElem? (i := 282) (by decide +kernel)⟩
theorem lw_p15 : lw_okq (⟨"BeltMarks$Belt", "fate", "(LBeltMarks$Box;)I"⟩, 10) := ⟨⟨by decide +kernel, by decide +kernel⟩, List.mem_of_getElem? (i := 17) (by decide +kernel), List.mem_of_getElem? (i := 285) (by decide +kernel), List.mem_of_getElem? (i := 286) (by decide +kernel)⟩
def lw_privs_1 : List (MethodName × Nat) := [(⟨"BeltMarks$History", "stateAt", "(I)LBeltMarks$Belt;"⟩, 3), (⟨"BeltMarks", "recorded", "(I)I"⟩, 6), (⟨"BeltMarks$Belt", "howManyLeft", "()I"⟩, 10), (⟨"BeltMarks$Belt", "moveOn", "()V"⟩, 10), (⟨"BeltMarks$Belt", "seeBoxes", "()V"⟩, 10), (⟨"BeltMarks$Belt", "addReport", "(I)V"⟩, 10), (⟨"BeltMarks$Belt", "countPlansDown", "()V"⟩, 10), (⟨"BeltMarks$Belt", "takeReports", "()V"⟩, 10), (⟨"BeltMarks$Belt", "addPlan", "(I)V"⟩, 10), (⟨"BeltMarks$Belt", "guessedWay", "()I"⟩, 10), (⟨"BeltMarks$Belt", "doPlans", "()V"⟩, 10), (⟨"BeltMarks$Belt", "useLabel", "()V"⟩, 10), (⟨"BeltMarks$Belt", "markBox", "(LBeltMarks$Box;)V"⟩, 10), (⟨"BeltMarks$Belt", "feed", "()V"⟩, 10), (⟨"BeltMarks$Belt", "letBoxesLeave", "()V"⟩, 10), (⟨"BeltMarks$Belt", "fate", "(LBeltMarks$Box;)I"⟩, 10)]
theorem lw_r1 : ∀ q ∈ lw_privs_1, lw_okq q := List.forall_mem_cons.mpr ⟨lw_p0, List.forall_mem_cons.mpr ⟨lw_p1, List.forall_mem_cons.mpr ⟨lw_p2, List.forall_mem_cons.mpr ⟨lw_p3, List.forall_mem_cons.mpr ⟨lw_p4, List.forall_mem_cons.mpr ⟨lw_p5, List.forall_mem_cons.mpr ⟨lw_p6, List.forall_mem_cons.mpr ⟨lw_p7, List.forall_mem_cons.mpr ⟨lw_p8, List.forall_mem_cons.mpr ⟨lw_p9, List.forall_mem_cons.mpr ⟨lw_p10, List.forall_mem_cons.mpr ⟨lw_p11, List.forall_mem_cons.mpr ⟨lw_p12, List.forall_mem_cons.mpr ⟨lw_p13, List.forall_mem_cons.mpr ⟨lw_p14, List.forall_mem_cons.mpr ⟨lw_p15, fun _ h => absurd h List.not_mem_nil⟩⟩⟩⟩⟩⟩⟩⟩⟩⟩⟩⟩⟩⟩⟩⟩
theorem lw_p16 : lw_okq (⟨"BeltMarks$Belt", "isBox", "(I)Z"⟩, 10) := ⟨⟨by decide +kernel, by decide +kernel⟩, List.mem_of_getElem? (i := 17) (by decide +kernel), List.mem_of_getElem? (i := 300) (by decide +kernel), List.mem_of_getElem? (i := 301) (by decide +kernel)⟩
theorem lw_p17 : lw_okq (⟨"BeltMarks$Belt", "hasRoom", "(III)Z"⟩, 10) := ⟨⟨by decide +kernel, by decide +kernel⟩, List.mem_of_getElem? (i := 17) (by decide +kernel), List.mem_of_getElem? (i := 307) (by decide +kernel), List.mem_of_getElem? (i := 308) (by decide +kernel)⟩
theorem lw_p18 : lw_okq (⟨"BeltMarks", "goodWithGuess", "(II)I"⟩, 6) := ⟨⟨by decide +kernel, by decide +kernel⟩, List.mem_of_getElem? (i := 9) (by decide +kernel), List.mem_of_getElem? (i := 380) (by decide +kernel), List.mem_of_getElem? (i := 381) (by decide +kernel)⟩
def lw_privs_2 : List (MethodName × Nat) := [(⟨"BeltMarks$Belt", "isBox", "(I)Z"⟩, 10), (⟨"BeltMarks$Belt", "hasRoom", "(III)Z"⟩, 10), (⟨"BeltMarks", "goodWithGuess", "(II)I"⟩, 6)]
theorem lw_r2 : ∀ q ∈ lw_privs_2, lw_okq q := List.forall_mem_cons.mpr ⟨lw_p16, List.forall_mem_cons.mpr ⟨lw_p17, List.forall_mem_cons.mpr ⟨lw_p18, fun _ h => absurd h List.not_mem_nil⟩⟩⟩
def lw_privs : List (MethodName × Nat) := lw_privs_1 ++ (lw_privs_2)
def lw_tbl : List Cond := k2_sels lw_privs ++ tables_1
theorem lw_privs_ok : ∀ q ∈ lw_privs, lw_okq q := by
  show ∀ q ∈ lw_privs_1 ++ (lw_privs_2), lw_okq q
  exact List.forall_mem_append.mpr ⟨lw_r1, lw_r2⟩
/-! ===== BEGIN words of one list among another's, by their places ===== -/
theorem goodIn_r {big : List Cond} (ws : List Cond) (ps : List Nat) (hp : ws = ps.filterMap (fun i => big[i]?)) (h : ws.all goodWord = true) : GoodIn big ws := by
  intro w hw
  have h1 := List.all_eq_true.mp h w hw
  rw [hp] at hw
  obtain ⟨i, -, hi⟩ := List.mem_filterMap.mp hw
  have hm : w ∈ big := by first | exact List.mem_of_getElem? hi | exact List.getElem?_mem hi
  exact ⟨hm, good_of_word h1⟩
theorem goodIn_app {big a b : List Cond} (ha : GoodIn big a) (hb : GoodIn big b) : GoodIn big (a ++ b) := fun w h => (List.mem_append.mp h).elim (ha w) (hb w)
theorem goodIn_ca {big a b : List Cond} {c : Cond} (ha : GoodIn big (c :: a)) (hb : GoodIn big b) : GoodIn big (c :: (a ++ b)) := fun w h => (List.mem_cons.mp h).elim (fun e => ha w (List.mem_cons.mpr (Or.inl e))) (fun h => (List.mem_append.mp h).elim (fun h => ha w (List.mem_cons.mpr (Or.inr h))) (hb w))
theorem goodIn_sub {big ws : List Cond} (hm : ∀ w ∈ ws, w ∈ big) (h : ws.all goodWord = true) : GoodIn big ws := fun w hw => ⟨hm w hw, good_of_word (List.all_eq_true.mp h w hw)⟩
/-! ===== END ===== -/

/-! ===== BEGIN printed: names, fields, word lists, decode rows ===== -/
def RX0 : String := "BeltMarks$Belt"
def TX0 : u_T := fun k => match k with
  | 0 => ("BeltMarks$Belt", "settings", "[I", true)
  | 1 => ("BeltMarks$Belt", "tallies", "[I", true)
  | 2 => ("BeltMarks$Belt", "boxes", "[LBeltMarks$Box;", true)
  | 3 => ("BeltMarks$Belt", "boxCount", "I", false)
  | 4 => ("BeltMarks$Belt", "comes", "[I", true)
  | 5 => ("BeltMarks$Belt", "excesses", "[I", true)
  | 6 => ("BeltMarks$Belt", "reportCount", "I", false)
  | 7 => ("BeltMarks$Belt", "plans", "[I", true)
  | 8 => ("BeltMarks$Belt", "planCount", "I", false)
  | _ => ("BeltMarks$Belt", "ways", "[I", true)
def tyX0 : Nat → FieldType := fun k => match k with
  | 0 => .array .int
  | 1 => .array .int
  | 2 => .array (.object "BeltMarks$Box")
  | 3 => .int
  | 4 => .array .int
  | 5 => .array .int
  | 6 => .int
  | 7 => .array .int
  | 8 => .int
  | _ => .array .int
abbrev wsX00 : List Cond := u_ws RX0 TX0 10
theorem nmX0 : ∀ a, a < 10 → ∀ b, b < 10 → a ≠ b → (TX0 a).2.1 ≠ (TX0 b).2.1 := by decide +kernel
theorem tyX0_ok : ∀ k, k < 10 → parseFieldDescriptor (TX0 k).2.2.1 = some (tyX0 k) := by decide +kernel
abbrev cX0_init : ByteArray := prog_2_method_1_code
def yX0_init : MethodName := ⟨RX0, "<init>", "()V"⟩
abbrev cX0_copyFrom : ByteArray := prog_2_method_2_code
def yX0_copyFrom : MethodName := ⟨RX0, "copyFrom", "(LBeltMarks$Belt;)V"⟩
abbrev cX0_choose : ByteArray := prog_2_method_3_code
def yX0_choose : MethodName := ⟨RX0, "choose", "(II)I"⟩
abbrev cX0_takeBox : ByteArray := prog_2_method_4_code
def yX0_takeBox : MethodName := ⟨RX0, "takeBox", "(I)I"⟩
abbrev cX0_turnBox : ByteArray := prog_2_method_5_code
def yX0_turnBox : MethodName := ⟨RX0, "turnBox", "(II)I"⟩
abbrev cX0_hasRoom : ByteArray := prog_2_method_6_code
def yX0_hasRoom : MethodName := ⟨RX0, "hasRoom", "(III)Z"⟩
abbrev cX0_letPass : ByteArray := prog_2_method_7_code
def yX0_letPass : MethodName := ⟨RX0, "letPass", "(I)I"⟩
abbrev cX0_howManyLeft : ByteArray := prog_2_method_8_code
def yX0_howManyLeft : MethodName := ⟨RX0, "howManyLeft", "()I"⟩
abbrev cX0_isBox : ByteArray := prog_2_method_9_code
def yX0_isBox : MethodName := ⟨RX0, "isBox", "(I)Z"⟩
abbrev cX0_aboutBox : ByteArray := prog_2_method_10_code
def yX0_aboutBox : MethodName := ⟨RX0, "aboutBox", "(II)I"⟩
abbrev cX0_planAt : ByteArray := prog_2_method_11_code
def yX0_planAt : MethodName := ⟨RX0, "planAt", "(I)I"⟩
abbrev cX0_aboutReport : ByteArray := prog_2_method_12_code
def yX0_aboutReport : MethodName := ⟨RX0, "aboutReport", "(II)I"⟩
abbrev cX0_number : ByteArray := prog_2_method_13_code
def yX0_number : MethodName := ⟨RX0, "number", "(I)I"⟩
abbrev cX0_tickOn : ByteArray := prog_2_method_14_code
def yX0_tickOn : MethodName := ⟨RX0, "tickOn", "(I)V"⟩
abbrev cX0_moveOn : ByteArray := prog_2_method_15_code
def yX0_moveOn : MethodName := ⟨RX0, "moveOn", "()V"⟩
abbrev cX0_seeBoxes : ByteArray := prog_2_method_16_code
def yX0_seeBoxes : MethodName := ⟨RX0, "seeBoxes", "()V"⟩
abbrev cX0_addReport : ByteArray := prog_2_method_17_code
def yX0_addReport : MethodName := ⟨RX0, "addReport", "(I)V"⟩
abbrev cX0_countPlansDown : ByteArray := prog_2_method_18_code
def yX0_countPlansDown : MethodName := ⟨RX0, "countPlansDown", "()V"⟩
abbrev cX0_takeReports : ByteArray := prog_2_method_19_code
def yX0_takeReports : MethodName := ⟨RX0, "takeReports", "()V"⟩
abbrev cX0_addPlan : ByteArray := prog_2_method_20_code
def yX0_addPlan : MethodName := ⟨RX0, "addPlan", "(I)V"⟩
abbrev cX0_guessedWay : ByteArray := prog_2_method_21_code
def yX0_guessedWay : MethodName := ⟨RX0, "guessedWay", "()I"⟩
abbrev cX0_doPlans : ByteArray := prog_2_method_22_code
def yX0_doPlans : MethodName := ⟨RX0, "doPlans", "()V"⟩
abbrev cX0_useLabel : ByteArray := prog_2_method_23_code
def yX0_useLabel : MethodName := ⟨RX0, "useLabel", "()V"⟩
abbrev cX0_markBox : ByteArray := prog_2_method_24_code
def yX0_markBox : MethodName := ⟨RX0, "markBox", "(LBeltMarks$Box;)V"⟩
abbrev cX0_feed : ByteArray := prog_2_method_25_code
def yX0_feed : MethodName := ⟨RX0, "feed", "()V"⟩
abbrev cX0_letBoxesLeave : ByteArray := prog_2_method_26_code
def yX0_letBoxesLeave : MethodName := ⟨RX0, "letBoxesLeave", "()V"⟩
abbrev cX0_fate : ByteArray := prog_2_method_27_code
def yX0_fate : MethodName := ⟨RX0, "fate", "(LBeltMarks$Box;)I"⟩
def RX1 : String := "BeltMarks$Box"
def TX1 : u_T := fun k => match k with
  | 0 => ("BeltMarks$Box", "front", "I", false)
  | 1 => ("BeltMarks$Box", "length", "I", false)
  | 2 => ("BeltMarks$Box", "seen", "Z", false)
  | 3 => ("BeltMarks$Box", "marked", "Z", false)
  | 4 => ("BeltMarks$Box", "mark", "I", false)
  | 5 => ("BeltMarks$Box", "twice", "Z", false)
  | _ => ("BeltMarks$Box", "number", "I", false)
def tyX1 : Nat → FieldType := fun k => match k with
  | 0 => .int
  | 1 => .int
  | 2 => .boolean
  | 3 => .boolean
  | 4 => .int
  | 5 => .boolean
  | _ => .int
abbrev wsX10 : List Cond := u_ws RX1 TX1 7
theorem nmX1 : ∀ a, a < 7 → ∀ b, b < 7 → a ≠ b → (TX1 a).2.1 ≠ (TX1 b).2.1 := by decide +kernel
theorem tyX1_ok : ∀ k, k < 7 → parseFieldDescriptor (TX1 k).2.2.1 = some (tyX1 k) := by decide +kernel
abbrev cX1_init : ByteArray := prog_3_method_1_code
def yX1_init : MethodName := ⟨RX1, "<init>", "()V"⟩
abbrev cX1_canHave : ByteArray := prog_3_method_2_code
def yX1_canHave : MethodName := ⟨RX1, "canHave", "(I)Z"⟩
abbrev cX1_begin : ByteArray := prog_3_method_3_code
def yX1_begin : MethodName := ⟨RX1, "begin", "(II)V"⟩
abbrev cX1_copyFrom : ByteArray := prog_3_method_4_code
def yX1_copyFrom : MethodName := ⟨RX1, "copyFrom", "(LBeltMarks$Box;)V"⟩
abbrev cX1_back : ByteArray := prog_3_method_5_code
def yX1_back : MethodName := ⟨RX1, "back", "()I"⟩
abbrev cX1_liesUnder : ByteArray := prog_3_method_6_code
def yX1_liesUnder : MethodName := ⟨RX1, "liesUnder", "(I)Z"⟩
abbrev cX1_tell : ByteArray := prog_3_method_7_code
def yX1_tell : MethodName := ⟨RX1, "tell", "(I)I"⟩
def RX2 : String := "BeltMarks$History"
def TX2 : u_T := fun k => match k with
  | 0 => ("BeltMarks$History", "states", "[LBeltMarks$Belt;", true)
  | 1 => ("BeltMarks$History", "oldest", "I", false)
  | _ => ("BeltMarks$History", "size", "I", false)
def tyX2 : Nat → FieldType := fun k => match k with
  | 0 => .array (.object "BeltMarks$Belt")
  | 1 => .int
  | _ => .int
abbrev wsX20 : List Cond := u_ws RX2 TX2 3
theorem nmX2 : ∀ a, a < 3 → ∀ b, b < 3 → a ≠ b → (TX2 a).2.1 ≠ (TX2 b).2.1 := by decide +kernel
theorem tyX2_ok : ∀ k, k < 3 → parseFieldDescriptor (TX2 k).2.2.1 = some (tyX2 k) := by decide +kernel
abbrev cX2_init : ByteArray := prog_4_method_1_code
def yX2_init : MethodName := ⟨RX2, "<init>", "()V"⟩
abbrev cX2_stateAt : ByteArray := prog_4_method_2_code
def yX2_stateAt : MethodName := ⟨RX2, "stateAt", "(I)LBeltMarks$Belt;"⟩
abbrev cX2_note : ByteArray := prog_4_method_3_code
def yX2_note : MethodName := ⟨RX2, "note", "(LBeltMarks$Belt;)V"⟩
abbrev cX2_keepNoted : ByteArray := prog_4_method_4_code
def yX2_keepNoted : MethodName := ⟨RX2, "keepNoted", "()V"⟩
abbrev cX2_takeBack : ByteArray := prog_4_method_5_code
def yX2_takeBack : MethodName := ⟨RX2, "takeBack", "(LBeltMarks$Belt;)V"⟩
def RX3 : String := "BeltMarks$Pad"
def TX3 : u_T := fun k => match k with
  | 0 => ("BeltMarks$Pad", "signs", "[C", true)
  | _ => ("BeltMarks$Pad", "length", "I", false)
def tyX3 : Nat → FieldType := fun k => match k with
  | 0 => .array .char
  | _ => .int
abbrev wsX30 : List Cond := u_ws RX3 TX3 2
theorem nmX3 : ∀ a, a < 2 → ∀ b, b < 2 → a ≠ b → (TX3 a).2.1 ≠ (TX3 b).2.1 := by decide +kernel
theorem tyX3_ok : ∀ k, k < 2 → parseFieldDescriptor (TX3 k).2.2.1 = some (tyX3 k) := by decide +kernel
abbrev cX3_init : ByteArray := prog_5_method_1_code
def yX3_init : MethodName := ⟨RX3, "<init>", "()V"⟩
def RX4 : String := "BeltMarks"
def TX4 : u_T := fun k => match k with
  | 0 => ("BeltMarks", "belt", "LBeltMarks$Belt;", true)
  | 1 => ("BeltMarks", "trial", "LBeltMarks$Belt;", true)
  | 2 => ("BeltMarks", "history", "LBeltMarks$History;", true)
  | 3 => ("BeltMarks", "slots", "[LBeltMarks$Belt;", true)
  | 4 => ("BeltMarks", "saved", "[Z", true)
  | _ => ("BeltMarks", "pad", "LBeltMarks$Pad;", true)
def tyX4 : Nat → FieldType := fun k => match k with
  | 0 => .object "BeltMarks$Belt"
  | 1 => .object "BeltMarks$Belt"
  | 2 => .object "BeltMarks$History"
  | 3 => .array (.object "BeltMarks$Belt")
  | 4 => .array .boolean
  | _ => .object "BeltMarks$Pad"
abbrev wsX40 : List Cond := u_ws RX4 TX4 6
theorem nmX4 : ∀ a, a < 6 → ∀ b, b < 6 → a ≠ b → (TX4 a).2.1 ≠ (TX4 b).2.1 := by decide +kernel
theorem tyX4_ok : ∀ k, k < 6 → parseFieldDescriptor (TX4 k).2.2.1 = some (tyX4 k) := by decide +kernel
abbrev cX4_init : ByteArray := prog_1_method_1_code
def yX4_init : MethodName := ⟨RX4, "<init>", "()V"⟩
abbrev cX4_set : ByteArray := prog_1_method_2_code
def yX4_set : MethodName := ⟨RX4, "set", "(II)I"⟩
abbrev cX4_arrive : ByteArray := prog_1_method_3_code
def yX4_arrive : MethodName := ⟨RX4, "arrive", "(I)I"⟩
abbrev cX4_turn : ByteArray := prog_1_method_4_code
def yX4_turn : MethodName := ⟨RX4, "turn", "(II)I"⟩
abbrev cX4_pass : ByteArray := prog_1_method_5_code
def yX4_pass : MethodName := ⟨RX4, "pass", "(I)I"⟩
abbrev cX4_recorded : ByteArray := prog_1_method_6_code
def yX4_recorded : MethodName := ⟨RX4, "recorded", "(I)I"⟩
abbrev cX4_box : ByteArray := prog_1_method_7_code
def yX4_box : MethodName := ⟨RX4, "box", "(II)I"⟩
abbrev cX4_plan : ByteArray := prog_1_method_8_code
def yX4_plan : MethodName := ⟨RX4, "plan", "(I)I"⟩
abbrev cX4_report : ByteArray := prog_1_method_9_code
def yX4_report : MethodName := ⟨RX4, "report", "(II)I"⟩
abbrev cX4_count : ByteArray := prog_1_method_10_code
def yX4_count : MethodName := ⟨RX4, "count", "(I)I"⟩
abbrev cX4_ifPass : ByteArray := prog_1_method_11_code
def yX4_ifPass : MethodName := ⟨RX4, "ifPass", "(II)I"⟩
abbrev cX4_bestGuess : ByteArray := prog_1_method_12_code
def yX4_bestGuess : MethodName := ⟨RX4, "bestGuess", "(II)I"⟩
abbrev cX4_canTry : ByteArray := prog_1_method_14_code
def yX4_canTry : MethodName := ⟨RX4, "canTry", "(I)Z"⟩
abbrev cX4_goodWithGuess : ByteArray := prog_1_method_15_code
def yX4_goodWithGuess : MethodName := ⟨RX4, "goodWithGuess", "(II)I"⟩
abbrev cX4_undo : ByteArray := prog_1_method_22_code
def yX4_undo : MethodName := ⟨RX4, "undo", "()I"⟩
def RX5 : String := "BeltMarksModel"
def TX5 : u_T := fun k => match k with
  | _ => ("", "", "", false)
def tyX5 : Nat → FieldType := fun k => match k with
  | _ => .int
abbrev wsX50 : List Cond := u_ws RX5 TX5 0
theorem nmX5 : ∀ a, a < 0 → ∀ b, b < 0 → a ≠ b → (TX5 a).2.1 ≠ (TX5 b).2.1 := by decide +kernel
theorem tyX5_ok : ∀ k, k < 0 → parseFieldDescriptor (TX5 k).2.2.1 = some (tyX5 k) := by decide +kernel
def RJx8e188 : String := "java/lang/Cloneable"
def TJx8e188 : u_T := fun k => match k with
  | _ => ("", "", "", false)
def tyJx8e188 : Nat → FieldType := fun k => match k with
  | _ => .int
abbrev wsJx8e1880 : List Cond := u_ws RJx8e188 TJx8e188 0
theorem nmJx8e188 : ∀ a, a < 0 → ∀ b, b < 0 → a ≠ b → (TJx8e188 a).2.1 ≠ (TJx8e188 b).2.1 := by decide +kernel
theorem tyJx8e188_ok : ∀ k, k < 0 → parseFieldDescriptor (TJx8e188 k).2.2.1 = some (tyJx8e188 k) := by decide +kernel
def RJ9 : String := "java/lang/Math"
def TJ9 : u_T := fun k => match k with
  | _ => ("", "", "", false)
def tyJ9 : Nat → FieldType := fun k => match k with
  | _ => .int
abbrev wsJ90 : List Cond := u_ws RJ9 TJ9 0
theorem nmJ9 : ∀ a, a < 0 → ∀ b, b < 0 → a ≠ b → (TJ9 a).2.1 ≠ (TJ9 b).2.1 := by decide +kernel
theorem tyJ9_ok : ∀ k, k < 0 → parseFieldDescriptor (TJ9 k).2.2.1 = some (tyJ9 k) := by decide +kernel
abbrev cJ9_floorDiv_7cf53 : ByteArray := prog_9_method_47_code
def yJ9_floorDiv_7cf53 : MethodName := ⟨RJ9, "floorDiv", "(II)I"⟩
abbrev cJ9_floorMod_7cf53 : ByteArray := prog_9_method_50_code
def yJ9_floorMod_7cf53 : MethodName := ⟨RJ9, "floorMod", "(II)I"⟩
abbrev cJ9_abs_0f7a4 : ByteArray := prog_9_method_59_code
def yJ9_abs_0f7a4 : MethodName := ⟨RJ9, "abs", "(I)I"⟩
abbrev cJ9_min_7cf53 : ByteArray := prog_9_method_69_code
def yJ9_min_7cf53 : MethodName := ⟨RJ9, "min", "(II)I"⟩
def RJ10 : String := "java/lang/System"
def TJ10 : u_T := fun k => match k with
  | _ => ("", "", "", false)
def tyJ10 : Nat → FieldType := fun k => match k with
  | _ => .int
abbrev wsJ100 : List Cond := u_ws RJ10 TJ10 0
theorem nmJ10 : ∀ a, a < 0 → ∀ b, b < 0 → a ≠ b → (TJ10 a).2.1 ≠ (TJ10 b).2.1 := by decide +kernel
theorem tyJ10_ok : ∀ k, k < 0 → parseFieldDescriptor (TJ10 k).2.2.1 = some (tyJ10 k) := by decide +kernel
def RL : String := "BeltMarksLaw"
abbrev cL_cell : ByteArray := method_2_code
def yL_cell : MethodName := ⟨RL, "cell", "([II)I"⟩
abbrev cL_up : ByteArray := method_3_code
def yL_up : MethodName := ⟨RL, "up", "(II)I"⟩
abbrev cL_isStep : ByteArray := method_4_code
def yL_isStep : MethodName := ⟨RL, "isStep", "(LBeltMarks;LBeltMarks;I)Z"⟩
abbrev cL_isWell : ByteArray := method_5_code
def yL_isWell : MethodName := ⟨RL, "isWell", "(LBeltMarks;LBeltMarks;)Z"⟩
abbrev cL_isForeseen : ByteArray := method_6_code
def yL_isForeseen : MethodName := ⟨RL, "isForeseen", "(LBeltMarks;II)Z"⟩
abbrev cL_law : ByteArray := code
def yL_law : MethodName := ⟨RL, "law", "([I)Z"⟩
def wsX1_init : List Cond := .code yX1_init cX1_init 1 none :: ([.methodLink RX1 3 objectInit, .instanceMethod objectInit, .code objectInit ⟨#[0xb1]⟩ 1 none])
def wsX0_init : List Cond := .code yX0_init cX0_init 2 none :: ([.methodLink RX0 5 objectInit, .instanceMethod objectInit, .code objectInit ⟨#[0xb1]⟩ 1 none, .fieldLink RX0 11 "BeltMarks$Belt" "AT_FIRST" "[I", .methodLink RX0 15 ⟨"[I", "clone", "()Ljava/lang/Object;"⟩, .sameMethod "[I" "java/lang/Object" "clone" "()Ljava/lang/Object;", .native ⟨"java/lang/Object", "clone", "()Ljava/lang/Object;"⟩, .instanceMethod ⟨"java/lang/Object", "clone", "()Ljava/lang/Object;"⟩, .selects "[I" ⟨"[I", "clone", "()Ljava/lang/Object;"⟩ ⟨"java/lang/Object", "clone", "()Ljava/lang/Object;"⟩, .classLink RX0 16 "[I", .fieldLink RX0 20 "BeltMarks$Belt" "settings" "[I", .arrayClass .int, .fieldLink RX0 23 "BeltMarks$Belt" "tallies" "[I", .classLink RX0 26 RX1, .fieldLink RX0 28 "BeltMarks$Belt" "boxes" "[LBeltMarks$Box;", .fieldLink RX0 32 "BeltMarks$Belt" "comes" "[I", .fieldLink RX0 35 "BeltMarks$Belt" "excesses" "[I", .fieldLink RX0 38 "BeltMarks$Belt" "plans" "[I", .fieldLink RX0 41 "BeltMarks$Belt" "ways" "[I", .instantiable RX1 7, .initialized RX1, .instanceMethod yX1_init, .code yX1_init cX1_init 1 none, .methodLink RX1 3 objectInit] ++ wsX00 ++ wsX10)
def wsX1_copyFrom : List Cond := .code yX1_copyFrom cX1_copyFrom 2 none :: ([.fieldLink RX1 11 "BeltMarks$Box" "front" "I", .fieldLink RX1 15 "BeltMarks$Box" "length" "I", .fieldLink RX1 18 "BeltMarks$Box" "seen" "Z", .fieldLink RX1 22 "BeltMarks$Box" "marked" "Z", .fieldLink RX1 25 "BeltMarks$Box" "mark" "I", .fieldLink RX1 28 "BeltMarks$Box" "twice" "Z", .fieldLink RX1 31 "BeltMarks$Box" "number" "I"] ++ wsX10)
def wsX0_copyFrom_r1 : List Cond := [Cond.fieldLink RX0 20 "BeltMarks$Belt" "settings" "[I", Cond.methodLink RX0 45 arraycopyName, Cond.native arraycopyName, Cond.static arraycopyName, Cond.initialized "java/lang/System", Cond.fieldLink RX0 23 "BeltMarks$Belt" "tallies" "[I", Cond.fieldLink RX0 51 "BeltMarks$Belt" "boxCount" "I", Cond.fieldLink RX0 28 "BeltMarks$Belt" "boxes" "[LBeltMarks$Box;", Cond.fieldLink RX0 59 "BeltMarks$Belt" "reportCount" "I", Cond.fieldLink RX0 32 "BeltMarks$Belt" "comes" "[I", Cond.fieldLink RX0 35 "BeltMarks$Belt" "excesses" "[I", Cond.fieldLink RX0 62 "BeltMarks$Belt" "planCount" "I", Cond.fieldLink RX0 38 "BeltMarks$Belt" "plans" "[I", Cond.fieldLink RX0 41 "BeltMarks$Belt" "ways" "[I", Cond.methodLink RX0 55 yX1_copyFrom, Cond.instanceMethod yX1_copyFrom, Cond.selects RX1 yX1_copyFrom yX1_copyFrom, Cond.initialized RX1, Cond.code yX1_copyFrom cX1_copyFrom 2 none, Cond.fieldLink RX1 11 "BeltMarks$Box" "front" "I", Cond.fieldLink RX1 15 "BeltMarks$Box" "length" "I", Cond.fieldLink RX1 18 "BeltMarks$Box" "seen" "Z", Cond.fieldLink RX1 22 "BeltMarks$Box" "marked" "Z", Cond.fieldLink RX1 25 "BeltMarks$Box" "mark" "I"]
def wsX0_copyFrom_r2 : List Cond := [Cond.fieldLink RX1 28 "BeltMarks$Box" "twice" "Z", Cond.fieldLink RX1 31 "BeltMarks$Box" "number" "I"]
def wsX0_copyFrom : List Cond := .code yX0_copyFrom cX0_copyFrom 3 none :: ((wsX0_copyFrom_r1 ++ wsX0_copyFrom_r2) ++ wsX00 ++ wsX10)
def wsX0_choose : List Cond := .code yX0_choose cX0_choose 4 (some .int) :: ([.fieldLink RX0 20 "BeltMarks$Belt" "settings" "[I", .fieldLink RX0 65 "BeltMarks$Belt" "LOWEST" "[I", .fieldLink RX0 68 "BeltMarks$Belt" "HIGHEST" "[I"] ++ wsX00)
def wsX1_canHave : List Cond := .code yX1_canHave cX1_canHave 1 (some .boolean) :: ([])
def wsX1_back : List Cond := .code yX1_back cX1_back 1 (some .int) :: ([.fieldLink RX1 11 "BeltMarks$Box" "front" "I", .fieldLink RX1 15 "BeltMarks$Box" "length" "I"] ++ wsX10)
def wsX1_begin : List Cond := .code yX1_begin cX1_begin 3 none :: ([.fieldLink RX1 11 "BeltMarks$Box" "front" "I", .fieldLink RX1 15 "BeltMarks$Box" "length" "I", .fieldLink RX1 18 "BeltMarks$Box" "seen" "Z", .fieldLink RX1 22 "BeltMarks$Box" "marked" "Z", .fieldLink RX1 25 "BeltMarks$Box" "mark" "I", .fieldLink RX1 28 "BeltMarks$Box" "twice" "Z", .fieldLink RX1 31 "BeltMarks$Box" "number" "I"] ++ wsX10)
def wsX0_takeBox : List Cond := .code yX0_takeBox cX0_takeBox 2 (some .int) :: ([.fieldLink RX0 51 "BeltMarks$Belt" "boxCount" "I", .fieldLink RX0 28 "BeltMarks$Belt" "boxes" "[LBeltMarks$Box;", .fieldLink RX0 23 "BeltMarks$Belt" "tallies" "[I", .methodLink RX0 71 yX1_canHave, .static yX1_canHave, .initialized RX1, .code yX1_canHave cX1_canHave 1 (some .boolean), .methodLink RX0 75 yX1_back, .instanceMethod yX1_back, .selects RX1 yX1_back yX1_back, .code yX1_back cX1_back 1 (some .int), .fieldLink RX1 11 "BeltMarks$Box" "front" "I", .fieldLink RX1 15 "BeltMarks$Box" "length" "I", .methodLink RX0 79 yX1_begin, .instanceMethod yX1_begin, .selects RX1 yX1_begin yX1_begin, .code yX1_begin cX1_begin 3 none, .fieldLink RX1 18 "BeltMarks$Box" "seen" "Z", .fieldLink RX1 22 "BeltMarks$Box" "marked" "Z", .fieldLink RX1 25 "BeltMarks$Box" "mark" "I", .fieldLink RX1 28 "BeltMarks$Box" "twice" "Z", .fieldLink RX1 31 "BeltMarks$Box" "number" "I"] ++ wsX00 ++ wsX10)
def wsX0_isBox : List Cond := .code yX0_isBox cX0_isBox 2 (some .boolean) :: ([.fieldLink RX0 51 "BeltMarks$Belt" "boxCount" "I"] ++ wsX00)
def wsJ9_floorDiv_7cf53 : List Cond := .code yJ9_floorDiv_7cf53 cJ9_floorDiv_7cf53 3 (some .int) :: ([])
def wsX0_hasRoom : List Cond := .code yX0_hasRoom cX0_hasRoom 4 (some .boolean) :: ([.fieldLink RX0 28 "BeltMarks$Belt" "boxes" "[LBeltMarks$Box;", .fieldLink RX0 51 "BeltMarks$Belt" "boxCount" "I", .fieldLink RX0 86 "BeltMarks$Box" "front" "I", .methodLink RX0 75 yX1_back, .instanceMethod yX1_back, .selects RX1 yX1_back yX1_back, .initialized RX1, .code yX1_back cX1_back 1 (some .int), .fieldLink RX1 11 "BeltMarks$Box" "front" "I", .fieldLink RX1 15 "BeltMarks$Box" "length" "I"] ++ wsX00 ++ wsX10)
def wsX0_turnBox_r1 : List Cond := [Cond.fieldLink RX0 28 "BeltMarks$Belt" "boxes" "[LBeltMarks$Box;", Cond.fieldLink RX0 86 "BeltMarks$Box" "front" "I", Cond.fieldLink RX0 89 "BeltMarks$Box" "length" "I", Cond.methodLink RX0 83 yX0_isBox, Cond.instanceMethod yX0_isBox, Cond.selects RX0 yX0_isBox yX0_isBox, Cond.initialized RX0, Cond.code yX0_isBox cX0_isBox 2 (some .boolean), Cond.fieldLink RX0 51 "BeltMarks$Belt" "boxCount" "I", Cond.methodLink RX0 71 yX1_canHave, Cond.static yX1_canHave, Cond.initialized RX1, Cond.code yX1_canHave cX1_canHave 1 (some .boolean), Cond.methodLink RX0 92 yJ9_floorDiv_7cf53, Cond.static yJ9_floorDiv_7cf53, Cond.initialized RJ9, Cond.code yJ9_floorDiv_7cf53 cJ9_floorDiv_7cf53 3 (some .int), Cond.methodLink RX0 98 yX0_hasRoom, Cond.instanceMethod yX0_hasRoom, Cond.selects RX0 yX0_hasRoom yX0_hasRoom, Cond.code yX0_hasRoom cX0_hasRoom 4 (some .boolean), Cond.methodLink RX0 75 yX1_back, Cond.instanceMethod yX1_back, Cond.selects RX1 yX1_back yX1_back]
def wsX0_turnBox_r2 : List Cond := [Cond.code yX1_back cX1_back 1 (some .int), Cond.fieldLink RX1 11 "BeltMarks$Box" "front" "I", Cond.fieldLink RX1 15 "BeltMarks$Box" "length" "I"]
def wsX0_turnBox : List Cond := .code yX0_turnBox cX0_turnBox 5 (some .int) :: ((wsX0_turnBox_r1 ++ wsX0_turnBox_r2) ++ wsX00 ++ wsX10)
def wsX0_howManyLeft : List Cond := .code yX0_howManyLeft cX0_howManyLeft 1 (some .int) :: ([.fieldLink RX0 23 "BeltMarks$Belt" "tallies" "[I"] ++ wsX00)
def wsX0_moveOn : List Cond := .code yX0_moveOn cX0_moveOn 3 none :: ([.fieldLink RX0 20 "BeltMarks$Belt" "settings" "[I", .fieldLink RX0 51 "BeltMarks$Belt" "boxCount" "I", .fieldLink RX0 28 "BeltMarks$Belt" "boxes" "[LBeltMarks$Box;", .fieldLink RX0 86 "BeltMarks$Box" "front" "I", .fieldLink RX0 23 "BeltMarks$Belt" "tallies" "[I", .fieldLink RX0 41 "BeltMarks$Belt" "ways" "[I"] ++ wsX00 ++ wsX10)
def wsX0_addReport : List Cond := .code yX0_addReport cX0_addReport 2 none :: ([.fieldLink RX0 59 "BeltMarks$Belt" "reportCount" "I", .fieldLink RX0 32 "BeltMarks$Belt" "comes" "[I", .fieldLink RX0 23 "BeltMarks$Belt" "tallies" "[I", .fieldLink RX0 20 "BeltMarks$Belt" "settings" "[I", .fieldLink RX0 35 "BeltMarks$Belt" "excesses" "[I"] ++ wsX00)
def wsX0_seeBoxes : List Cond := .code yX0_seeBoxes cX0_seeBoxes 3 none :: ([.fieldLink RX0 51 "BeltMarks$Belt" "boxCount" "I", .fieldLink RX0 28 "BeltMarks$Belt" "boxes" "[LBeltMarks$Box;", .fieldLink RX0 134 "BeltMarks$Box" "seen" "Z", .fieldLink RX0 86 "BeltMarks$Box" "front" "I", .methodLink RX0 138 yX0_addReport, .instanceMethod yX0_addReport, .selects RX0 yX0_addReport yX0_addReport, .initialized RX0, .code yX0_addReport cX0_addReport 2 none, .fieldLink RX0 59 "BeltMarks$Belt" "reportCount" "I", .fieldLink RX0 32 "BeltMarks$Belt" "comes" "[I", .fieldLink RX0 23 "BeltMarks$Belt" "tallies" "[I", .fieldLink RX0 20 "BeltMarks$Belt" "settings" "[I", .fieldLink RX0 35 "BeltMarks$Belt" "excesses" "[I"] ++ wsX00 ++ wsX10)
def wsX0_countPlansDown : List Cond := .code yX0_countPlansDown cX0_countPlansDown 2 none :: ([.fieldLink RX0 62 "BeltMarks$Belt" "planCount" "I", .fieldLink RX0 38 "BeltMarks$Belt" "plans" "[I", .fieldLink RX0 20 "BeltMarks$Belt" "settings" "[I"] ++ wsX00)
def wsX0_guessedWay : List Cond := .code yX0_guessedWay cX0_guessedWay 3 (some .int) :: ([.fieldLink RX0 20 "BeltMarks$Belt" "settings" "[I", .fieldLink RX0 41 "BeltMarks$Belt" "ways" "[I"] ++ wsX00)
def wsX0_addPlan : List Cond := .code yX0_addPlan cX0_addPlan 2 none :: ([.fieldLink RX0 62 "BeltMarks$Belt" "planCount" "I", .fieldLink RX0 38 "BeltMarks$Belt" "plans" "[I", .fieldLink RX0 20 "BeltMarks$Belt" "settings" "[I", .methodLink RX0 144 yX0_guessedWay, .instanceMethod yX0_guessedWay, .selects RX0 yX0_guessedWay yX0_guessedWay, .initialized RX0, .code yX0_guessedWay cX0_guessedWay 3 (some .int), .fieldLink RX0 41 "BeltMarks$Belt" "ways" "[I"] ++ wsX00)
def wsX0_takeReports : List Cond := .code yX0_takeReports cX0_takeReports 3 none :: ([.fieldLink RX0 59 "BeltMarks$Belt" "reportCount" "I", .fieldLink RX0 32 "BeltMarks$Belt" "comes" "[I", .fieldLink RX0 23 "BeltMarks$Belt" "tallies" "[I", .fieldLink RX0 35 "BeltMarks$Belt" "excesses" "[I", .methodLink RX0 141 yX0_addPlan, .instanceMethod yX0_addPlan, .selects RX0 yX0_addPlan yX0_addPlan, .initialized RX0, .code yX0_addPlan cX0_addPlan 2 none, .fieldLink RX0 62 "BeltMarks$Belt" "planCount" "I", .fieldLink RX0 38 "BeltMarks$Belt" "plans" "[I", .fieldLink RX0 20 "BeltMarks$Belt" "settings" "[I", .methodLink RX0 144 yX0_guessedWay, .instanceMethod yX0_guessedWay, .selects RX0 yX0_guessedWay yX0_guessedWay, .code yX0_guessedWay cX0_guessedWay 3 (some .int), .fieldLink RX0 41 "BeltMarks$Belt" "ways" "[I"] ++ wsX00)
def wsX1_liesUnder : List Cond := .code yX1_liesUnder cX1_liesUnder 2 (some .boolean) :: ([.fieldLink RX1 11 "BeltMarks$Box" "front" "I", .fieldLink RX1 15 "BeltMarks$Box" "length" "I"] ++ wsX10)
def wsX0_markBox : List Cond := .code yX0_markBox cX0_markBox 2 none :: ([.fieldLink RX0 23 "BeltMarks$Belt" "tallies" "[I", .fieldLink RX0 156 "BeltMarks$Box" "marked" "Z", .fieldLink RX0 159 "BeltMarks$Box" "twice" "Z", .fieldLink RX0 86 "BeltMarks$Box" "front" "I", .fieldLink RX0 162 "BeltMarks$Box" "mark" "I"] ++ wsX00 ++ wsX10)
def wsX0_useLabel : List Cond := .code yX0_useLabel cX0_useLabel 2 none :: ([.fieldLink RX0 23 "BeltMarks$Belt" "tallies" "[I", .fieldLink RX0 20 "BeltMarks$Belt" "settings" "[I", .fieldLink RX0 51 "BeltMarks$Belt" "boxCount" "I", .fieldLink RX0 28 "BeltMarks$Belt" "boxes" "[LBeltMarks$Box;", .methodLink RX0 150 yX1_liesUnder, .instanceMethod yX1_liesUnder, .selects RX1 yX1_liesUnder yX1_liesUnder, .initialized RX1, .code yX1_liesUnder cX1_liesUnder 2 (some .boolean), .fieldLink RX1 11 "BeltMarks$Box" "front" "I", .fieldLink RX1 15 "BeltMarks$Box" "length" "I", .methodLink RX0 153 yX0_markBox, .instanceMethod yX0_markBox, .selects RX0 yX0_markBox yX0_markBox, .initialized RX0, .code yX0_markBox cX0_markBox 2 none, .fieldLink RX0 156 "BeltMarks$Box" "marked" "Z", .fieldLink RX0 159 "BeltMarks$Box" "twice" "Z", .fieldLink RX0 86 "BeltMarks$Box" "front" "I", .fieldLink RX0 162 "BeltMarks$Box" "mark" "I"] ++ wsX00 ++ wsX10)
def wsX0_doPlans_r1 : List Cond := [Cond.fieldLink RX0 62 "BeltMarks$Belt" "planCount" "I", Cond.fieldLink RX0 38 "BeltMarks$Belt" "plans" "[I", Cond.methodLink RX0 147 yX0_useLabel, Cond.instanceMethod yX0_useLabel, Cond.selects RX0 yX0_useLabel yX0_useLabel, Cond.initialized RX0, Cond.code yX0_useLabel cX0_useLabel 2 none, Cond.fieldLink RX0 23 "BeltMarks$Belt" "tallies" "[I", Cond.fieldLink RX0 20 "BeltMarks$Belt" "settings" "[I", Cond.fieldLink RX0 51 "BeltMarks$Belt" "boxCount" "I", Cond.fieldLink RX0 28 "BeltMarks$Belt" "boxes" "[LBeltMarks$Box;", Cond.methodLink RX0 150 yX1_liesUnder, Cond.instanceMethod yX1_liesUnder, Cond.selects RX1 yX1_liesUnder yX1_liesUnder, Cond.initialized RX1, Cond.code yX1_liesUnder cX1_liesUnder 2 (some .boolean), Cond.fieldLink RX1 11 "BeltMarks$Box" "front" "I", Cond.fieldLink RX1 15 "BeltMarks$Box" "length" "I", Cond.methodLink RX0 153 yX0_markBox, Cond.instanceMethod yX0_markBox, Cond.selects RX0 yX0_markBox yX0_markBox, Cond.code yX0_markBox cX0_markBox 2 none, Cond.fieldLink RX0 156 "BeltMarks$Box" "marked" "Z", Cond.fieldLink RX0 159 "BeltMarks$Box" "twice" "Z"]
def wsX0_doPlans_r2 : List Cond := [Cond.fieldLink RX0 86 "BeltMarks$Box" "front" "I", Cond.fieldLink RX0 162 "BeltMarks$Box" "mark" "I"]
def wsX0_doPlans : List Cond := .code yX0_doPlans cX0_doPlans 3 none :: ((wsX0_doPlans_r1 ++ wsX0_doPlans_r2) ++ wsX00 ++ wsX10)
def wsX0_feed : List Cond := .code yX0_feed cX0_feed 1 none :: ([.fieldLink RX0 23 "BeltMarks$Belt" "tallies" "[I", .fieldLink RX0 20 "BeltMarks$Belt" "settings" "[I", .methodLink RX0 165 Lib.Math.min.name, .static Lib.Math.min.name, .initialized "java/lang/Math", .code Lib.Math.min.name Lib.Math.min.code 2 (some .int)] ++ wsX00)
def wsX0_fate : List Cond := .code yX0_fate cX0_fate 3 (some .int) :: ([.fieldLink RX0 156 "BeltMarks$Box" "marked" "Z", .fieldLink RX0 162 "BeltMarks$Box" "mark" "I", .fieldLink RX0 20 "BeltMarks$Belt" "settings" "[I", .methodLink RX0 172 Lib.Math.abs.name, .static Lib.Math.abs.name, .initialized "java/lang/Math", .code Lib.Math.abs.name Lib.Math.abs.code 1 (some .int), .fieldLink RX0 159 "BeltMarks$Box" "twice" "Z"] ++ wsX10 ++ wsX00)
def wsX0_letBoxesLeave : List Cond := .code yX0_letBoxesLeave cX0_letBoxesLeave 4 none :: ([.fieldLink RX0 51 "BeltMarks$Belt" "boxCount" "I", .fieldLink RX0 28 "BeltMarks$Belt" "boxes" "[LBeltMarks$Box;", .fieldLink RX0 23 "BeltMarks$Belt" "tallies" "[I", .methodLink RX0 75 yX1_back, .instanceMethod yX1_back, .selects RX1 yX1_back yX1_back, .initialized RX1, .code yX1_back cX1_back 1 (some .int), .fieldLink RX1 11 "BeltMarks$Box" "front" "I", .fieldLink RX1 15 "BeltMarks$Box" "length" "I", .methodLink RX0 168 yX0_fate, .instanceMethod yX0_fate, .selects RX0 yX0_fate yX0_fate, .initialized RX0, .code yX0_fate cX0_fate 3 (some .int), .fieldLink RX0 156 "BeltMarks$Box" "marked" "Z", .fieldLink RX0 162 "BeltMarks$Box" "mark" "I", .fieldLink RX0 20 "BeltMarks$Belt" "settings" "[I", .methodLink RX0 172 Lib.Math.abs.name, .static Lib.Math.abs.name, .initialized "java/lang/Math", .code Lib.Math.abs.name Lib.Math.abs.code 1 (some .int), .fieldLink RX0 159 "BeltMarks$Box" "twice" "Z"] ++ wsX00 ++ wsX10)
def wsX0_tickOn_r1 : List Cond := [Cond.fieldLink RX0 23 "BeltMarks$Belt" "tallies" "[I", Cond.methodLink RX0 113 yX0_moveOn, Cond.instanceMethod yX0_moveOn, Cond.selects RX0 yX0_moveOn yX0_moveOn, Cond.initialized RX0, Cond.code yX0_moveOn cX0_moveOn 3 none, Cond.fieldLink RX0 20 "BeltMarks$Belt" "settings" "[I", Cond.fieldLink RX0 51 "BeltMarks$Belt" "boxCount" "I", Cond.fieldLink RX0 28 "BeltMarks$Belt" "boxes" "[LBeltMarks$Box;", Cond.fieldLink RX0 86 "BeltMarks$Box" "front" "I", Cond.fieldLink RX0 41 "BeltMarks$Belt" "ways" "[I", Cond.methodLink RX0 116 yX0_seeBoxes, Cond.instanceMethod yX0_seeBoxes, Cond.selects RX0 yX0_seeBoxes yX0_seeBoxes, Cond.code yX0_seeBoxes cX0_seeBoxes 3 none, Cond.fieldLink RX0 134 "BeltMarks$Box" "seen" "Z", Cond.methodLink RX0 138 yX0_addReport, Cond.instanceMethod yX0_addReport, Cond.selects RX0 yX0_addReport yX0_addReport, Cond.code yX0_addReport cX0_addReport 2 none, Cond.fieldLink RX0 59 "BeltMarks$Belt" "reportCount" "I", Cond.fieldLink RX0 32 "BeltMarks$Belt" "comes" "[I", Cond.fieldLink RX0 35 "BeltMarks$Belt" "excesses" "[I", Cond.methodLink RX0 119 yX0_countPlansDown]
def wsX0_tickOn_r2 : List Cond := [Cond.instanceMethod yX0_countPlansDown, Cond.selects RX0 yX0_countPlansDown yX0_countPlansDown, Cond.code yX0_countPlansDown cX0_countPlansDown 2 none, Cond.fieldLink RX0 62 "BeltMarks$Belt" "planCount" "I", Cond.fieldLink RX0 38 "BeltMarks$Belt" "plans" "[I", Cond.methodLink RX0 122 yX0_takeReports, Cond.instanceMethod yX0_takeReports, Cond.selects RX0 yX0_takeReports yX0_takeReports, Cond.code yX0_takeReports cX0_takeReports 3 none, Cond.methodLink RX0 141 yX0_addPlan, Cond.instanceMethod yX0_addPlan, Cond.selects RX0 yX0_addPlan yX0_addPlan, Cond.code yX0_addPlan cX0_addPlan 2 none, Cond.methodLink RX0 144 yX0_guessedWay, Cond.instanceMethod yX0_guessedWay, Cond.selects RX0 yX0_guessedWay yX0_guessedWay, Cond.code yX0_guessedWay cX0_guessedWay 3 (some .int), Cond.methodLink RX0 125 yX0_doPlans, Cond.instanceMethod yX0_doPlans, Cond.selects RX0 yX0_doPlans yX0_doPlans, Cond.code yX0_doPlans cX0_doPlans 3 none, Cond.methodLink RX0 147 yX0_useLabel, Cond.instanceMethod yX0_useLabel, Cond.selects RX0 yX0_useLabel yX0_useLabel]
def wsX0_tickOn_r3 : List Cond := [Cond.code yX0_useLabel cX0_useLabel 2 none, Cond.methodLink RX0 150 yX1_liesUnder, Cond.instanceMethod yX1_liesUnder, Cond.selects RX1 yX1_liesUnder yX1_liesUnder, Cond.initialized RX1, Cond.code yX1_liesUnder cX1_liesUnder 2 (some .boolean), Cond.fieldLink RX1 11 "BeltMarks$Box" "front" "I", Cond.fieldLink RX1 15 "BeltMarks$Box" "length" "I", Cond.methodLink RX0 153 yX0_markBox, Cond.instanceMethod yX0_markBox, Cond.selects RX0 yX0_markBox yX0_markBox, Cond.code yX0_markBox cX0_markBox 2 none, Cond.fieldLink RX0 156 "BeltMarks$Box" "marked" "Z", Cond.fieldLink RX0 159 "BeltMarks$Box" "twice" "Z", Cond.fieldLink RX0 162 "BeltMarks$Box" "mark" "I", Cond.methodLink RX0 128 yX0_feed, Cond.instanceMethod yX0_feed, Cond.selects RX0 yX0_feed yX0_feed, Cond.code yX0_feed cX0_feed 1 none, Cond.methodLink RX0 165 Lib.Math.min.name, Cond.static Lib.Math.min.name, Cond.initialized "java/lang/Math", Cond.code Lib.Math.min.name Lib.Math.min.code 2 (some .int), Cond.methodLink RX0 131 yX0_letBoxesLeave]
def wsX0_tickOn_r4 : List Cond := [Cond.instanceMethod yX0_letBoxesLeave, Cond.selects RX0 yX0_letBoxesLeave yX0_letBoxesLeave, Cond.code yX0_letBoxesLeave cX0_letBoxesLeave 4 none, Cond.methodLink RX0 75 yX1_back, Cond.instanceMethod yX1_back, Cond.selects RX1 yX1_back yX1_back, Cond.code yX1_back cX1_back 1 (some .int), Cond.methodLink RX0 168 yX0_fate, Cond.instanceMethod yX0_fate, Cond.selects RX0 yX0_fate yX0_fate, Cond.code yX0_fate cX0_fate 3 (some .int), Cond.methodLink RX0 172 Lib.Math.abs.name, Cond.static Lib.Math.abs.name, Cond.code Lib.Math.abs.name Lib.Math.abs.code 1 (some .int)]
def wsX0_tickOn : List Cond := .code yX0_tickOn cX0_tickOn 3 none :: ((wsX0_tickOn_r1 ++ (wsX0_tickOn_r2 ++ (wsX0_tickOn_r3 ++ wsX0_tickOn_r4))) ++ wsX00 ++ wsX10)
def wsX0_letPass_r1 : List Cond := [Cond.fieldLink RX0 23 "BeltMarks$Belt" "tallies" "[I", Cond.methodLink RX0 102 yX0_howManyLeft, Cond.instanceMethod yX0_howManyLeft, Cond.selects RX0 yX0_howManyLeft yX0_howManyLeft, Cond.initialized RX0, Cond.code yX0_howManyLeft cX0_howManyLeft 1 (some .int), Cond.methodLink RX0 105 yX0_tickOn, Cond.instanceMethod yX0_tickOn, Cond.selects RX0 yX0_tickOn yX0_tickOn, Cond.code yX0_tickOn cX0_tickOn 3 none, Cond.methodLink RX0 113 yX0_moveOn, Cond.instanceMethod yX0_moveOn, Cond.selects RX0 yX0_moveOn yX0_moveOn, Cond.code yX0_moveOn cX0_moveOn 3 none, Cond.fieldLink RX0 20 "BeltMarks$Belt" "settings" "[I", Cond.fieldLink RX0 51 "BeltMarks$Belt" "boxCount" "I", Cond.fieldLink RX0 28 "BeltMarks$Belt" "boxes" "[LBeltMarks$Box;", Cond.fieldLink RX0 86 "BeltMarks$Box" "front" "I", Cond.fieldLink RX0 41 "BeltMarks$Belt" "ways" "[I", Cond.methodLink RX0 116 yX0_seeBoxes, Cond.instanceMethod yX0_seeBoxes, Cond.selects RX0 yX0_seeBoxes yX0_seeBoxes, Cond.code yX0_seeBoxes cX0_seeBoxes 3 none, Cond.fieldLink RX0 134 "BeltMarks$Box" "seen" "Z"]
def wsX0_letPass_r2 : List Cond := [Cond.methodLink RX0 138 yX0_addReport, Cond.instanceMethod yX0_addReport, Cond.selects RX0 yX0_addReport yX0_addReport, Cond.code yX0_addReport cX0_addReport 2 none, Cond.fieldLink RX0 59 "BeltMarks$Belt" "reportCount" "I", Cond.fieldLink RX0 32 "BeltMarks$Belt" "comes" "[I", Cond.fieldLink RX0 35 "BeltMarks$Belt" "excesses" "[I", Cond.methodLink RX0 119 yX0_countPlansDown, Cond.instanceMethod yX0_countPlansDown, Cond.selects RX0 yX0_countPlansDown yX0_countPlansDown, Cond.code yX0_countPlansDown cX0_countPlansDown 2 none, Cond.fieldLink RX0 62 "BeltMarks$Belt" "planCount" "I", Cond.fieldLink RX0 38 "BeltMarks$Belt" "plans" "[I", Cond.methodLink RX0 122 yX0_takeReports, Cond.instanceMethod yX0_takeReports, Cond.selects RX0 yX0_takeReports yX0_takeReports, Cond.code yX0_takeReports cX0_takeReports 3 none, Cond.methodLink RX0 141 yX0_addPlan, Cond.instanceMethod yX0_addPlan, Cond.selects RX0 yX0_addPlan yX0_addPlan, Cond.code yX0_addPlan cX0_addPlan 2 none, Cond.methodLink RX0 144 yX0_guessedWay, Cond.instanceMethod yX0_guessedWay, Cond.selects RX0 yX0_guessedWay yX0_guessedWay]
def wsX0_letPass_r3 : List Cond := [Cond.code yX0_guessedWay cX0_guessedWay 3 (some .int), Cond.methodLink RX0 125 yX0_doPlans, Cond.instanceMethod yX0_doPlans, Cond.selects RX0 yX0_doPlans yX0_doPlans, Cond.code yX0_doPlans cX0_doPlans 3 none, Cond.methodLink RX0 147 yX0_useLabel, Cond.instanceMethod yX0_useLabel, Cond.selects RX0 yX0_useLabel yX0_useLabel, Cond.code yX0_useLabel cX0_useLabel 2 none, Cond.methodLink RX0 150 yX1_liesUnder, Cond.instanceMethod yX1_liesUnder, Cond.selects RX1 yX1_liesUnder yX1_liesUnder, Cond.initialized RX1, Cond.code yX1_liesUnder cX1_liesUnder 2 (some .boolean), Cond.fieldLink RX1 11 "BeltMarks$Box" "front" "I", Cond.fieldLink RX1 15 "BeltMarks$Box" "length" "I", Cond.methodLink RX0 153 yX0_markBox, Cond.instanceMethod yX0_markBox, Cond.selects RX0 yX0_markBox yX0_markBox, Cond.code yX0_markBox cX0_markBox 2 none, Cond.fieldLink RX0 156 "BeltMarks$Box" "marked" "Z", Cond.fieldLink RX0 159 "BeltMarks$Box" "twice" "Z", Cond.fieldLink RX0 162 "BeltMarks$Box" "mark" "I", Cond.methodLink RX0 128 yX0_feed]
def wsX0_letPass_r4 : List Cond := [Cond.instanceMethod yX0_feed, Cond.selects RX0 yX0_feed yX0_feed, Cond.code yX0_feed cX0_feed 1 none, Cond.methodLink RX0 165 Lib.Math.min.name, Cond.static Lib.Math.min.name, Cond.initialized "java/lang/Math", Cond.code Lib.Math.min.name Lib.Math.min.code 2 (some .int), Cond.methodLink RX0 131 yX0_letBoxesLeave, Cond.instanceMethod yX0_letBoxesLeave, Cond.selects RX0 yX0_letBoxesLeave yX0_letBoxesLeave, Cond.code yX0_letBoxesLeave cX0_letBoxesLeave 4 none, Cond.methodLink RX0 75 yX1_back, Cond.instanceMethod yX1_back, Cond.selects RX1 yX1_back yX1_back, Cond.code yX1_back cX1_back 1 (some .int), Cond.methodLink RX0 168 yX0_fate, Cond.instanceMethod yX0_fate, Cond.selects RX0 yX0_fate yX0_fate, Cond.code yX0_fate cX0_fate 3 (some .int), Cond.methodLink RX0 172 Lib.Math.abs.name, Cond.static Lib.Math.abs.name, Cond.code Lib.Math.abs.name Lib.Math.abs.code 1 (some .int)]
def wsX0_letPass : List Cond := .code yX0_letPass cX0_letPass 3 (some .int) :: ((wsX0_letPass_r1 ++ (wsX0_letPass_r2 ++ (wsX0_letPass_r3 ++ wsX0_letPass_r4))) ++ wsX00 ++ wsX10)
def wsX1_tell : List Cond := .code yX1_tell cX1_tell 2 (some .int) :: ([.fieldLink RX1 11 "BeltMarks$Box" "front" "I", .fieldLink RX1 15 "BeltMarks$Box" "length" "I", .fieldLink RX1 18 "BeltMarks$Box" "seen" "Z", .fieldLink RX1 22 "BeltMarks$Box" "marked" "Z", .fieldLink RX1 25 "BeltMarks$Box" "mark" "I", .fieldLink RX1 28 "BeltMarks$Box" "twice" "Z", .fieldLink RX1 31 "BeltMarks$Box" "number" "I"] ++ wsX10)
def wsX0_aboutBox : List Cond := .code yX0_aboutBox cX0_aboutBox 3 (some .int) :: ([.fieldLink RX0 28 "BeltMarks$Belt" "boxes" "[LBeltMarks$Box;", .methodLink RX0 83 yX0_isBox, .instanceMethod yX0_isBox, .selects RX0 yX0_isBox yX0_isBox, .initialized RX0, .code yX0_isBox cX0_isBox 2 (some .boolean), .fieldLink RX0 51 "BeltMarks$Belt" "boxCount" "I", .methodLink RX0 109 yX1_tell, .instanceMethod yX1_tell, .selects RX1 yX1_tell yX1_tell, .initialized RX1, .code yX1_tell cX1_tell 2 (some .int), .fieldLink RX1 11 "BeltMarks$Box" "front" "I", .fieldLink RX1 15 "BeltMarks$Box" "length" "I", .fieldLink RX1 18 "BeltMarks$Box" "seen" "Z", .fieldLink RX1 22 "BeltMarks$Box" "marked" "Z", .fieldLink RX1 25 "BeltMarks$Box" "mark" "I", .fieldLink RX1 28 "BeltMarks$Box" "twice" "Z", .fieldLink RX1 31 "BeltMarks$Box" "number" "I"] ++ wsX00 ++ wsX10)
def wsX0_planAt : List Cond := .code yX0_planAt cX0_planAt 2 (some .int) :: ([.fieldLink RX0 62 "BeltMarks$Belt" "planCount" "I", .fieldLink RX0 38 "BeltMarks$Belt" "plans" "[I"] ++ wsX00)
def wsX0_aboutReport : List Cond := .code yX0_aboutReport cX0_aboutReport 3 (some .int) :: ([.fieldLink RX0 59 "BeltMarks$Belt" "reportCount" "I", .fieldLink RX0 32 "BeltMarks$Belt" "comes" "[I", .fieldLink RX0 23 "BeltMarks$Belt" "tallies" "[I", .fieldLink RX0 35 "BeltMarks$Belt" "excesses" "[I"] ++ wsX00)
def wsX0_number : List Cond := .code yX0_number cX0_number 3 (some .int) :: ([.fieldLink RX0 51 "BeltMarks$Belt" "boxCount" "I", .fieldLink RX0 59 "BeltMarks$Belt" "reportCount" "I", .fieldLink RX0 62 "BeltMarks$Belt" "planCount" "I", .fieldLink RX0 23 "BeltMarks$Belt" "tallies" "[I", .fieldLink RX0 20 "BeltMarks$Belt" "settings" "[I"] ++ wsX00)
def wsX2_init_r1 : List Cond := [Cond.methodLink RX2 3 objectInit, Cond.instanceMethod objectInit, Cond.code objectInit ⟨#[0xb1]⟩ 1 none, Cond.classLink RX2 9 RX0, Cond.fieldLink RX2 11 "BeltMarks$History" "states" "[LBeltMarks$Belt;", Cond.instantiable RX0 10, Cond.initialized RX0, Cond.methodLink RX2 15 yX0_init, Cond.instanceMethod yX0_init, Cond.code yX0_init cX0_init 2 none, Cond.methodLink RX0 5 objectInit, Cond.fieldLink RX0 11 "BeltMarks$Belt" "AT_FIRST" "[I", Cond.methodLink RX0 15 ⟨"[I", "clone", "()Ljava/lang/Object;"⟩, Cond.sameMethod "[I" "java/lang/Object" "clone" "()Ljava/lang/Object;", Cond.native ⟨"java/lang/Object", "clone", "()Ljava/lang/Object;"⟩, Cond.instanceMethod ⟨"java/lang/Object", "clone", "()Ljava/lang/Object;"⟩, Cond.selects "[I" ⟨"[I", "clone", "()Ljava/lang/Object;"⟩ ⟨"java/lang/Object", "clone", "()Ljava/lang/Object;"⟩, Cond.classLink RX0 16 "[I", Cond.fieldLink RX0 20 "BeltMarks$Belt" "settings" "[I", Cond.arrayClass .int, Cond.fieldLink RX0 23 "BeltMarks$Belt" "tallies" "[I", Cond.classLink RX0 26 RX1, Cond.fieldLink RX0 28 "BeltMarks$Belt" "boxes" "[LBeltMarks$Box;", Cond.fieldLink RX0 32 "BeltMarks$Belt" "comes" "[I"]
def wsX2_init_r2 : List Cond := [Cond.fieldLink RX0 35 "BeltMarks$Belt" "excesses" "[I", Cond.fieldLink RX0 38 "BeltMarks$Belt" "plans" "[I", Cond.fieldLink RX0 41 "BeltMarks$Belt" "ways" "[I", Cond.instantiable RX1 7, Cond.initialized RX1, Cond.instanceMethod yX1_init, Cond.code yX1_init cX1_init 1 none, Cond.methodLink RX1 3 objectInit]
def wsX2_init : List Cond := .code yX2_init cX2_init 2 none :: ((wsX2_init_r1 ++ wsX2_init_r2) ++ wsX20 ++ wsX00 ++ wsX10)
def wsJ9_floorMod_7cf53 : List Cond := .code yJ9_floorMod_7cf53 cJ9_floorMod_7cf53 3 (some .int) :: ([])
def wsX2_stateAt : List Cond := .code yX2_stateAt cX2_stateAt 2 (some (.object "BeltMarks$Belt")) :: ([.fieldLink RX2 11 "BeltMarks$History" "states" "[LBeltMarks$Belt;", .fieldLink RX2 16 "BeltMarks$History" "oldest" "I", .methodLink RX2 20 yJ9_floorMod_7cf53, .static yJ9_floorMod_7cf53, .initialized RJ9, .code yJ9_floorMod_7cf53 cJ9_floorMod_7cf53 3 (some .int)] ++ wsX20)
def wsX2_note_r1 : List Cond := [Cond.fieldLink RX2 26 "BeltMarks$History" "size" "I", Cond.methodLink RX2 29 yX2_stateAt, Cond.instanceMethod yX2_stateAt, Cond.selects RX2 yX2_stateAt yX2_stateAt, Cond.initialized RX2, Cond.code yX2_stateAt cX2_stateAt 2 (some (.object "BeltMarks$Belt")), Cond.fieldLink RX2 11 "BeltMarks$History" "states" "[LBeltMarks$Belt;", Cond.fieldLink RX2 16 "BeltMarks$History" "oldest" "I", Cond.methodLink RX2 20 yJ9_floorMod_7cf53, Cond.static yJ9_floorMod_7cf53, Cond.initialized RJ9, Cond.code yJ9_floorMod_7cf53 cJ9_floorMod_7cf53 3 (some .int), Cond.methodLink RX2 33 yX0_copyFrom, Cond.instanceMethod yX0_copyFrom, Cond.selects RX0 yX0_copyFrom yX0_copyFrom, Cond.initialized RX0, Cond.code yX0_copyFrom cX0_copyFrom 3 none, Cond.fieldLink RX0 20 "BeltMarks$Belt" "settings" "[I", Cond.methodLink RX0 45 arraycopyName, Cond.native arraycopyName, Cond.static arraycopyName, Cond.initialized "java/lang/System", Cond.fieldLink RX0 23 "BeltMarks$Belt" "tallies" "[I", Cond.fieldLink RX0 51 "BeltMarks$Belt" "boxCount" "I"]
def wsX2_note_r2 : List Cond := [Cond.fieldLink RX0 28 "BeltMarks$Belt" "boxes" "[LBeltMarks$Box;", Cond.fieldLink RX0 59 "BeltMarks$Belt" "reportCount" "I", Cond.fieldLink RX0 32 "BeltMarks$Belt" "comes" "[I", Cond.fieldLink RX0 35 "BeltMarks$Belt" "excesses" "[I", Cond.fieldLink RX0 62 "BeltMarks$Belt" "planCount" "I", Cond.fieldLink RX0 38 "BeltMarks$Belt" "plans" "[I", Cond.fieldLink RX0 41 "BeltMarks$Belt" "ways" "[I", Cond.methodLink RX0 55 yX1_copyFrom, Cond.instanceMethod yX1_copyFrom, Cond.selects RX1 yX1_copyFrom yX1_copyFrom, Cond.initialized RX1, Cond.code yX1_copyFrom cX1_copyFrom 2 none, Cond.fieldLink RX1 11 "BeltMarks$Box" "front" "I", Cond.fieldLink RX1 15 "BeltMarks$Box" "length" "I", Cond.fieldLink RX1 18 "BeltMarks$Box" "seen" "Z", Cond.fieldLink RX1 22 "BeltMarks$Box" "marked" "Z", Cond.fieldLink RX1 25 "BeltMarks$Box" "mark" "I", Cond.fieldLink RX1 28 "BeltMarks$Box" "twice" "Z", Cond.fieldLink RX1 31 "BeltMarks$Box" "number" "I"]
def wsX2_note : List Cond := .code yX2_note cX2_note 2 none :: ((wsX2_note_r1 ++ wsX2_note_r2) ++ wsX20 ++ wsX00 ++ wsX10)
def wsX2_keepNoted : List Cond := .code yX2_keepNoted cX2_keepNoted 1 none :: ([.fieldLink RX2 26 "BeltMarks$History" "size" "I", .fieldLink RX2 16 "BeltMarks$History" "oldest" "I", .methodLink RX2 20 yJ9_floorMod_7cf53, .static yJ9_floorMod_7cf53, .initialized RJ9, .code yJ9_floorMod_7cf53 cJ9_floorMod_7cf53 3 (some .int)] ++ wsX20)
def wsX2_takeBack_r1 : List Cond := [Cond.fieldLink RX2 26 "BeltMarks$History" "size" "I", Cond.methodLink RX2 29 yX2_stateAt, Cond.instanceMethod yX2_stateAt, Cond.selects RX2 yX2_stateAt yX2_stateAt, Cond.initialized RX2, Cond.code yX2_stateAt cX2_stateAt 2 (some (.object "BeltMarks$Belt")), Cond.fieldLink RX2 11 "BeltMarks$History" "states" "[LBeltMarks$Belt;", Cond.fieldLink RX2 16 "BeltMarks$History" "oldest" "I", Cond.methodLink RX2 20 yJ9_floorMod_7cf53, Cond.static yJ9_floorMod_7cf53, Cond.initialized RJ9, Cond.code yJ9_floorMod_7cf53 cJ9_floorMod_7cf53 3 (some .int), Cond.methodLink RX2 33 yX0_copyFrom, Cond.instanceMethod yX0_copyFrom, Cond.selects RX0 yX0_copyFrom yX0_copyFrom, Cond.initialized RX0, Cond.code yX0_copyFrom cX0_copyFrom 3 none, Cond.fieldLink RX0 20 "BeltMarks$Belt" "settings" "[I", Cond.methodLink RX0 45 arraycopyName, Cond.native arraycopyName, Cond.static arraycopyName, Cond.initialized "java/lang/System", Cond.fieldLink RX0 23 "BeltMarks$Belt" "tallies" "[I", Cond.fieldLink RX0 51 "BeltMarks$Belt" "boxCount" "I"]
def wsX2_takeBack_r2 : List Cond := [Cond.fieldLink RX0 28 "BeltMarks$Belt" "boxes" "[LBeltMarks$Box;", Cond.fieldLink RX0 59 "BeltMarks$Belt" "reportCount" "I", Cond.fieldLink RX0 32 "BeltMarks$Belt" "comes" "[I", Cond.fieldLink RX0 35 "BeltMarks$Belt" "excesses" "[I", Cond.fieldLink RX0 62 "BeltMarks$Belt" "planCount" "I", Cond.fieldLink RX0 38 "BeltMarks$Belt" "plans" "[I", Cond.fieldLink RX0 41 "BeltMarks$Belt" "ways" "[I", Cond.methodLink RX0 55 yX1_copyFrom, Cond.instanceMethod yX1_copyFrom, Cond.selects RX1 yX1_copyFrom yX1_copyFrom, Cond.initialized RX1, Cond.code yX1_copyFrom cX1_copyFrom 2 none, Cond.fieldLink RX1 11 "BeltMarks$Box" "front" "I", Cond.fieldLink RX1 15 "BeltMarks$Box" "length" "I", Cond.fieldLink RX1 18 "BeltMarks$Box" "seen" "Z", Cond.fieldLink RX1 22 "BeltMarks$Box" "marked" "Z", Cond.fieldLink RX1 25 "BeltMarks$Box" "mark" "I", Cond.fieldLink RX1 28 "BeltMarks$Box" "twice" "Z", Cond.fieldLink RX1 31 "BeltMarks$Box" "number" "I"]
def wsX2_takeBack : List Cond := .code yX2_takeBack cX2_takeBack 2 none :: ((wsX2_takeBack_r1 ++ wsX2_takeBack_r2) ++ wsX20 ++ wsX00 ++ wsX10)
def wsX3_init : List Cond := .code yX3_init cX3_init 1 none :: ([.methodLink RX3 3 objectInit, .instanceMethod objectInit, .code objectInit ⟨#[0xb1]⟩ 1 none, .arrayClass .char, .fieldLink RX3 11 "BeltMarks$Pad" "signs" "[C"] ++ wsX30)
def wsX4_init_r1 : List Cond := [Cond.methodLink RX4 1 objectInit, Cond.instanceMethod objectInit, Cond.code objectInit ⟨#[0xb1]⟩ 1 none, Cond.classLink RX4 7 RX0, Cond.instantiable RX0 10, Cond.initialized RX0, Cond.fieldLink RX4 10 "BeltMarks" "belt" "LBeltMarks$Belt;", Cond.fieldLink RX4 16 "BeltMarks" "trial" "LBeltMarks$Belt;", Cond.classLink RX4 19 RX2, Cond.instantiable RX2 3, Cond.initialized RX2, Cond.fieldLink RX4 22 "BeltMarks" "history" "LBeltMarks$History;", Cond.fieldLink RX4 26 "BeltMarks" "slots" "[LBeltMarks$Belt;", Cond.arrayClass .boolean, Cond.fieldLink RX4 30 "BeltMarks" "saved" "[Z", Cond.classLink RX4 34 RX3, Cond.instantiable RX3 2, Cond.initialized RX3, Cond.fieldLink RX4 37 "BeltMarks" "pad" "LBeltMarks$Pad;", Cond.methodLink RX4 9 yX0_init, Cond.instanceMethod yX0_init, Cond.code yX0_init cX0_init 2 none, Cond.methodLink RX0 5 objectInit, Cond.fieldLink RX0 11 "BeltMarks$Belt" "AT_FIRST" "[I"]
def wsX4_init_r2 : List Cond := [Cond.methodLink RX0 15 ⟨"[I", "clone", "()Ljava/lang/Object;"⟩, Cond.sameMethod "[I" "java/lang/Object" "clone" "()Ljava/lang/Object;", Cond.native ⟨"java/lang/Object", "clone", "()Ljava/lang/Object;"⟩, Cond.instanceMethod ⟨"java/lang/Object", "clone", "()Ljava/lang/Object;"⟩, Cond.selects "[I" ⟨"[I", "clone", "()Ljava/lang/Object;"⟩ ⟨"java/lang/Object", "clone", "()Ljava/lang/Object;"⟩, Cond.classLink RX0 16 "[I", Cond.fieldLink RX0 20 "BeltMarks$Belt" "settings" "[I", Cond.arrayClass .int, Cond.fieldLink RX0 23 "BeltMarks$Belt" "tallies" "[I", Cond.classLink RX0 26 RX1, Cond.fieldLink RX0 28 "BeltMarks$Belt" "boxes" "[LBeltMarks$Box;", Cond.fieldLink RX0 32 "BeltMarks$Belt" "comes" "[I", Cond.fieldLink RX0 35 "BeltMarks$Belt" "excesses" "[I", Cond.fieldLink RX0 38 "BeltMarks$Belt" "plans" "[I", Cond.fieldLink RX0 41 "BeltMarks$Belt" "ways" "[I", Cond.instantiable RX1 7, Cond.initialized RX1, Cond.instanceMethod yX1_init, Cond.code yX1_init cX1_init 1 none, Cond.methodLink RX1 3 objectInit, Cond.methodLink RX4 21 yX2_init, Cond.instanceMethod yX2_init, Cond.code yX2_init cX2_init 2 none, Cond.methodLink RX2 3 objectInit]
def wsX4_init_r3 : List Cond := [Cond.classLink RX2 9 RX0, Cond.fieldLink RX2 11 "BeltMarks$History" "states" "[LBeltMarks$Belt;", Cond.methodLink RX2 15 yX0_init, Cond.instanceMethod yX3_init, Cond.code yX3_init cX3_init 1 none, Cond.methodLink RX3 3 objectInit, Cond.arrayClass .char, Cond.fieldLink RX3 11 "BeltMarks$Pad" "signs" "[C"]
def wsX4_init : List Cond := .code yX4_init cX4_init 1 none :: ((wsX4_init_r1 ++ (wsX4_init_r2 ++ wsX4_init_r3)) ++ wsX00 ++ wsX40 ++ wsX20 ++ wsX30 ++ wsX10)
def wsX4_recorded : List Cond := .code yX4_recorded cX4_recorded 2 (some .int) :: ([.fieldLink RX4 22 "BeltMarks" "history" "LBeltMarks$History;", .methodLink RX4 62 yX2_keepNoted, .instanceMethod yX2_keepNoted, .selects RX2 yX2_keepNoted yX2_keepNoted, .initialized RX2, .code yX2_keepNoted cX2_keepNoted 1 none, .fieldLink RX2 26 "BeltMarks$History" "size" "I", .fieldLink RX2 16 "BeltMarks$History" "oldest" "I", .methodLink RX2 20 yJ9_floorMod_7cf53, .static yJ9_floorMod_7cf53, .initialized RJ9, .code yJ9_floorMod_7cf53 cJ9_floorMod_7cf53 3 (some .int)] ++ wsX40 ++ wsX20)
def wsX4_set_r1 : List Cond := [Cond.fieldLink RX4 22 "BeltMarks" "history" "LBeltMarks$History;", Cond.fieldLink RX4 10 "BeltMarks" "belt" "LBeltMarks$Belt;", Cond.methodLink RX4 41 yX2_note, Cond.instanceMethod yX2_note, Cond.selects RX2 yX2_note yX2_note, Cond.initialized RX2, Cond.code yX2_note cX2_note 2 none, Cond.fieldLink RX2 26 "BeltMarks$History" "size" "I", Cond.methodLink RX2 29 yX2_stateAt, Cond.instanceMethod yX2_stateAt, Cond.selects RX2 yX2_stateAt yX2_stateAt, Cond.code yX2_stateAt cX2_stateAt 2 (some (.object "BeltMarks$Belt")), Cond.fieldLink RX2 11 "BeltMarks$History" "states" "[LBeltMarks$Belt;", Cond.fieldLink RX2 16 "BeltMarks$History" "oldest" "I", Cond.methodLink RX2 20 yJ9_floorMod_7cf53, Cond.static yJ9_floorMod_7cf53, Cond.initialized RJ9, Cond.code yJ9_floorMod_7cf53 cJ9_floorMod_7cf53 3 (some .int), Cond.methodLink RX2 33 yX0_copyFrom, Cond.instanceMethod yX0_copyFrom, Cond.selects RX0 yX0_copyFrom yX0_copyFrom, Cond.initialized RX0, Cond.code yX0_copyFrom cX0_copyFrom 3 none, Cond.fieldLink RX0 20 "BeltMarks$Belt" "settings" "[I"]
def wsX4_set_r2 : List Cond := [Cond.methodLink RX0 45 arraycopyName, Cond.native arraycopyName, Cond.static arraycopyName, Cond.initialized "java/lang/System", Cond.fieldLink RX0 23 "BeltMarks$Belt" "tallies" "[I", Cond.fieldLink RX0 51 "BeltMarks$Belt" "boxCount" "I", Cond.fieldLink RX0 28 "BeltMarks$Belt" "boxes" "[LBeltMarks$Box;", Cond.fieldLink RX0 59 "BeltMarks$Belt" "reportCount" "I", Cond.fieldLink RX0 32 "BeltMarks$Belt" "comes" "[I", Cond.fieldLink RX0 35 "BeltMarks$Belt" "excesses" "[I", Cond.fieldLink RX0 62 "BeltMarks$Belt" "planCount" "I", Cond.fieldLink RX0 38 "BeltMarks$Belt" "plans" "[I", Cond.fieldLink RX0 41 "BeltMarks$Belt" "ways" "[I", Cond.methodLink RX0 55 yX1_copyFrom, Cond.instanceMethod yX1_copyFrom, Cond.selects RX1 yX1_copyFrom yX1_copyFrom, Cond.initialized RX1, Cond.code yX1_copyFrom cX1_copyFrom 2 none, Cond.fieldLink RX1 11 "BeltMarks$Box" "front" "I", Cond.fieldLink RX1 15 "BeltMarks$Box" "length" "I", Cond.fieldLink RX1 18 "BeltMarks$Box" "seen" "Z", Cond.fieldLink RX1 22 "BeltMarks$Box" "marked" "Z", Cond.fieldLink RX1 25 "BeltMarks$Box" "mark" "I", Cond.fieldLink RX1 28 "BeltMarks$Box" "twice" "Z"]
def wsX4_set_r3 : List Cond := [Cond.fieldLink RX1 31 "BeltMarks$Box" "number" "I", Cond.methodLink RX4 45 yX0_choose, Cond.instanceMethod yX0_choose, Cond.selects RX0 yX0_choose yX0_choose, Cond.code yX0_choose cX0_choose 4 (some .int), Cond.fieldLink RX0 65 "BeltMarks$Belt" "LOWEST" "[I", Cond.fieldLink RX0 68 "BeltMarks$Belt" "HIGHEST" "[I", Cond.methodLink RX4 49 yX4_recorded, Cond.instanceMethod yX4_recorded, Cond.selects RX4 yX4_recorded yX4_recorded, Cond.initialized RX4, Cond.code yX4_recorded cX4_recorded 2 (some .int), Cond.methodLink RX4 62 yX2_keepNoted, Cond.instanceMethod yX2_keepNoted, Cond.selects RX2 yX2_keepNoted yX2_keepNoted, Cond.code yX2_keepNoted cX2_keepNoted 1 none]
def wsX4_set : List Cond := .code yX4_set cX4_set 3 (some .int) :: ((wsX4_set_r1 ++ (wsX4_set_r2 ++ wsX4_set_r3)) ++ wsX40 ++ wsX20 ++ wsX00 ++ wsX10)
def wsX4_arrive_r1 : List Cond := [Cond.fieldLink RX4 22 "BeltMarks" "history" "LBeltMarks$History;", Cond.fieldLink RX4 10 "BeltMarks" "belt" "LBeltMarks$Belt;", Cond.methodLink RX4 41 yX2_note, Cond.instanceMethod yX2_note, Cond.selects RX2 yX2_note yX2_note, Cond.initialized RX2, Cond.code yX2_note cX2_note 2 none, Cond.fieldLink RX2 26 "BeltMarks$History" "size" "I", Cond.methodLink RX2 29 yX2_stateAt, Cond.instanceMethod yX2_stateAt, Cond.selects RX2 yX2_stateAt yX2_stateAt, Cond.code yX2_stateAt cX2_stateAt 2 (some (.object "BeltMarks$Belt")), Cond.fieldLink RX2 11 "BeltMarks$History" "states" "[LBeltMarks$Belt;", Cond.fieldLink RX2 16 "BeltMarks$History" "oldest" "I", Cond.methodLink RX2 20 yJ9_floorMod_7cf53, Cond.static yJ9_floorMod_7cf53, Cond.initialized RJ9, Cond.code yJ9_floorMod_7cf53 cJ9_floorMod_7cf53 3 (some .int), Cond.methodLink RX2 33 yX0_copyFrom, Cond.instanceMethod yX0_copyFrom, Cond.selects RX0 yX0_copyFrom yX0_copyFrom, Cond.initialized RX0, Cond.code yX0_copyFrom cX0_copyFrom 3 none, Cond.fieldLink RX0 20 "BeltMarks$Belt" "settings" "[I"]
def wsX4_arrive_r2 : List Cond := [Cond.methodLink RX0 45 arraycopyName, Cond.native arraycopyName, Cond.static arraycopyName, Cond.initialized "java/lang/System", Cond.fieldLink RX0 23 "BeltMarks$Belt" "tallies" "[I", Cond.fieldLink RX0 51 "BeltMarks$Belt" "boxCount" "I", Cond.fieldLink RX0 28 "BeltMarks$Belt" "boxes" "[LBeltMarks$Box;", Cond.fieldLink RX0 59 "BeltMarks$Belt" "reportCount" "I", Cond.fieldLink RX0 32 "BeltMarks$Belt" "comes" "[I", Cond.fieldLink RX0 35 "BeltMarks$Belt" "excesses" "[I", Cond.fieldLink RX0 62 "BeltMarks$Belt" "planCount" "I", Cond.fieldLink RX0 38 "BeltMarks$Belt" "plans" "[I", Cond.fieldLink RX0 41 "BeltMarks$Belt" "ways" "[I", Cond.methodLink RX0 55 yX1_copyFrom, Cond.instanceMethod yX1_copyFrom, Cond.selects RX1 yX1_copyFrom yX1_copyFrom, Cond.initialized RX1, Cond.code yX1_copyFrom cX1_copyFrom 2 none, Cond.fieldLink RX1 11 "BeltMarks$Box" "front" "I", Cond.fieldLink RX1 15 "BeltMarks$Box" "length" "I", Cond.fieldLink RX1 18 "BeltMarks$Box" "seen" "Z", Cond.fieldLink RX1 22 "BeltMarks$Box" "marked" "Z", Cond.fieldLink RX1 25 "BeltMarks$Box" "mark" "I", Cond.fieldLink RX1 28 "BeltMarks$Box" "twice" "Z"]
def wsX4_arrive_r3 : List Cond := [Cond.fieldLink RX1 31 "BeltMarks$Box" "number" "I", Cond.methodLink RX4 53 yX0_takeBox, Cond.instanceMethod yX0_takeBox, Cond.selects RX0 yX0_takeBox yX0_takeBox, Cond.code yX0_takeBox cX0_takeBox 2 (some .int), Cond.methodLink RX0 71 yX1_canHave, Cond.static yX1_canHave, Cond.code yX1_canHave cX1_canHave 1 (some .boolean), Cond.methodLink RX0 75 yX1_back, Cond.instanceMethod yX1_back, Cond.selects RX1 yX1_back yX1_back, Cond.code yX1_back cX1_back 1 (some .int), Cond.methodLink RX0 79 yX1_begin, Cond.instanceMethod yX1_begin, Cond.selects RX1 yX1_begin yX1_begin, Cond.code yX1_begin cX1_begin 3 none, Cond.methodLink RX4 49 yX4_recorded, Cond.instanceMethod yX4_recorded, Cond.selects RX4 yX4_recorded yX4_recorded, Cond.initialized RX4, Cond.code yX4_recorded cX4_recorded 2 (some .int), Cond.methodLink RX4 62 yX2_keepNoted, Cond.instanceMethod yX2_keepNoted, Cond.selects RX2 yX2_keepNoted yX2_keepNoted]
def wsX4_arrive_r4 : List Cond := [Cond.code yX2_keepNoted cX2_keepNoted 1 none]
def wsX4_arrive : List Cond := .code yX4_arrive cX4_arrive 2 (some .int) :: ((wsX4_arrive_r1 ++ (wsX4_arrive_r2 ++ (wsX4_arrive_r3 ++ wsX4_arrive_r4))) ++ wsX40 ++ wsX20 ++ wsX00 ++ wsX10)
def wsX4_turn_r1 : List Cond := [Cond.fieldLink RX4 22 "BeltMarks" "history" "LBeltMarks$History;", Cond.fieldLink RX4 10 "BeltMarks" "belt" "LBeltMarks$Belt;", Cond.methodLink RX4 41 yX2_note, Cond.instanceMethod yX2_note, Cond.selects RX2 yX2_note yX2_note, Cond.initialized RX2, Cond.code yX2_note cX2_note 2 none, Cond.fieldLink RX2 26 "BeltMarks$History" "size" "I", Cond.methodLink RX2 29 yX2_stateAt, Cond.instanceMethod yX2_stateAt, Cond.selects RX2 yX2_stateAt yX2_stateAt, Cond.code yX2_stateAt cX2_stateAt 2 (some (.object "BeltMarks$Belt")), Cond.fieldLink RX2 11 "BeltMarks$History" "states" "[LBeltMarks$Belt;", Cond.fieldLink RX2 16 "BeltMarks$History" "oldest" "I", Cond.methodLink RX2 20 yJ9_floorMod_7cf53, Cond.static yJ9_floorMod_7cf53, Cond.initialized RJ9, Cond.code yJ9_floorMod_7cf53 cJ9_floorMod_7cf53 3 (some .int), Cond.methodLink RX2 33 yX0_copyFrom, Cond.instanceMethod yX0_copyFrom, Cond.selects RX0 yX0_copyFrom yX0_copyFrom, Cond.initialized RX0, Cond.code yX0_copyFrom cX0_copyFrom 3 none, Cond.fieldLink RX0 20 "BeltMarks$Belt" "settings" "[I"]
def wsX4_turn_r2 : List Cond := [Cond.methodLink RX0 45 arraycopyName, Cond.native arraycopyName, Cond.static arraycopyName, Cond.initialized "java/lang/System", Cond.fieldLink RX0 23 "BeltMarks$Belt" "tallies" "[I", Cond.fieldLink RX0 51 "BeltMarks$Belt" "boxCount" "I", Cond.fieldLink RX0 28 "BeltMarks$Belt" "boxes" "[LBeltMarks$Box;", Cond.fieldLink RX0 59 "BeltMarks$Belt" "reportCount" "I", Cond.fieldLink RX0 32 "BeltMarks$Belt" "comes" "[I", Cond.fieldLink RX0 35 "BeltMarks$Belt" "excesses" "[I", Cond.fieldLink RX0 62 "BeltMarks$Belt" "planCount" "I", Cond.fieldLink RX0 38 "BeltMarks$Belt" "plans" "[I", Cond.fieldLink RX0 41 "BeltMarks$Belt" "ways" "[I", Cond.methodLink RX0 55 yX1_copyFrom, Cond.instanceMethod yX1_copyFrom, Cond.selects RX1 yX1_copyFrom yX1_copyFrom, Cond.initialized RX1, Cond.code yX1_copyFrom cX1_copyFrom 2 none, Cond.fieldLink RX1 11 "BeltMarks$Box" "front" "I", Cond.fieldLink RX1 15 "BeltMarks$Box" "length" "I", Cond.fieldLink RX1 18 "BeltMarks$Box" "seen" "Z", Cond.fieldLink RX1 22 "BeltMarks$Box" "marked" "Z", Cond.fieldLink RX1 25 "BeltMarks$Box" "mark" "I", Cond.fieldLink RX1 28 "BeltMarks$Box" "twice" "Z"]
def wsX4_turn_r3 : List Cond := [Cond.fieldLink RX1 31 "BeltMarks$Box" "number" "I", Cond.methodLink RX4 56 yX0_turnBox, Cond.instanceMethod yX0_turnBox, Cond.selects RX0 yX0_turnBox yX0_turnBox, Cond.code yX0_turnBox cX0_turnBox 5 (some .int), Cond.fieldLink RX0 86 "BeltMarks$Box" "front" "I", Cond.fieldLink RX0 89 "BeltMarks$Box" "length" "I", Cond.methodLink RX0 83 yX0_isBox, Cond.instanceMethod yX0_isBox, Cond.selects RX0 yX0_isBox yX0_isBox, Cond.code yX0_isBox cX0_isBox 2 (some .boolean), Cond.methodLink RX0 71 yX1_canHave, Cond.static yX1_canHave, Cond.code yX1_canHave cX1_canHave 1 (some .boolean), Cond.methodLink RX0 92 yJ9_floorDiv_7cf53, Cond.static yJ9_floorDiv_7cf53, Cond.code yJ9_floorDiv_7cf53 cJ9_floorDiv_7cf53 3 (some .int), Cond.methodLink RX0 98 yX0_hasRoom, Cond.instanceMethod yX0_hasRoom, Cond.selects RX0 yX0_hasRoom yX0_hasRoom, Cond.code yX0_hasRoom cX0_hasRoom 4 (some .boolean), Cond.methodLink RX0 75 yX1_back, Cond.instanceMethod yX1_back, Cond.selects RX1 yX1_back yX1_back]
def wsX4_turn_r4 : List Cond := [Cond.code yX1_back cX1_back 1 (some .int), Cond.methodLink RX4 49 yX4_recorded, Cond.instanceMethod yX4_recorded, Cond.selects RX4 yX4_recorded yX4_recorded, Cond.initialized RX4, Cond.code yX4_recorded cX4_recorded 2 (some .int), Cond.methodLink RX4 62 yX2_keepNoted, Cond.instanceMethod yX2_keepNoted, Cond.selects RX2 yX2_keepNoted yX2_keepNoted, Cond.code yX2_keepNoted cX2_keepNoted 1 none]
def wsX4_turn : List Cond := .code yX4_turn cX4_turn 3 (some .int) :: ((wsX4_turn_r1 ++ (wsX4_turn_r2 ++ (wsX4_turn_r3 ++ wsX4_turn_r4))) ++ wsX40 ++ wsX20 ++ wsX00 ++ wsX10)
def wsX4_pass_r1 : List Cond := [Cond.fieldLink RX4 22 "BeltMarks" "history" "LBeltMarks$History;", Cond.fieldLink RX4 10 "BeltMarks" "belt" "LBeltMarks$Belt;", Cond.methodLink RX4 41 yX2_note, Cond.instanceMethod yX2_note, Cond.selects RX2 yX2_note yX2_note, Cond.initialized RX2, Cond.code yX2_note cX2_note 2 none, Cond.fieldLink RX2 26 "BeltMarks$History" "size" "I", Cond.methodLink RX2 29 yX2_stateAt, Cond.instanceMethod yX2_stateAt, Cond.selects RX2 yX2_stateAt yX2_stateAt, Cond.code yX2_stateAt cX2_stateAt 2 (some (.object "BeltMarks$Belt")), Cond.fieldLink RX2 11 "BeltMarks$History" "states" "[LBeltMarks$Belt;", Cond.fieldLink RX2 16 "BeltMarks$History" "oldest" "I", Cond.methodLink RX2 20 yJ9_floorMod_7cf53, Cond.static yJ9_floorMod_7cf53, Cond.initialized RJ9, Cond.code yJ9_floorMod_7cf53 cJ9_floorMod_7cf53 3 (some .int), Cond.methodLink RX2 33 yX0_copyFrom, Cond.instanceMethod yX0_copyFrom, Cond.selects RX0 yX0_copyFrom yX0_copyFrom, Cond.initialized RX0, Cond.code yX0_copyFrom cX0_copyFrom 3 none, Cond.fieldLink RX0 20 "BeltMarks$Belt" "settings" "[I"]
def wsX4_pass_r2 : List Cond := [Cond.methodLink RX0 45 arraycopyName, Cond.native arraycopyName, Cond.static arraycopyName, Cond.initialized "java/lang/System", Cond.fieldLink RX0 23 "BeltMarks$Belt" "tallies" "[I", Cond.fieldLink RX0 51 "BeltMarks$Belt" "boxCount" "I", Cond.fieldLink RX0 28 "BeltMarks$Belt" "boxes" "[LBeltMarks$Box;", Cond.fieldLink RX0 59 "BeltMarks$Belt" "reportCount" "I", Cond.fieldLink RX0 32 "BeltMarks$Belt" "comes" "[I", Cond.fieldLink RX0 35 "BeltMarks$Belt" "excesses" "[I", Cond.fieldLink RX0 62 "BeltMarks$Belt" "planCount" "I", Cond.fieldLink RX0 38 "BeltMarks$Belt" "plans" "[I", Cond.fieldLink RX0 41 "BeltMarks$Belt" "ways" "[I", Cond.methodLink RX0 55 yX1_copyFrom, Cond.instanceMethod yX1_copyFrom, Cond.selects RX1 yX1_copyFrom yX1_copyFrom, Cond.initialized RX1, Cond.code yX1_copyFrom cX1_copyFrom 2 none, Cond.fieldLink RX1 11 "BeltMarks$Box" "front" "I", Cond.fieldLink RX1 15 "BeltMarks$Box" "length" "I", Cond.fieldLink RX1 18 "BeltMarks$Box" "seen" "Z", Cond.fieldLink RX1 22 "BeltMarks$Box" "marked" "Z", Cond.fieldLink RX1 25 "BeltMarks$Box" "mark" "I", Cond.fieldLink RX1 28 "BeltMarks$Box" "twice" "Z"]
def wsX4_pass_r3 : List Cond := [Cond.fieldLink RX1 31 "BeltMarks$Box" "number" "I", Cond.methodLink RX4 59 yX0_letPass, Cond.instanceMethod yX0_letPass, Cond.selects RX0 yX0_letPass yX0_letPass, Cond.code yX0_letPass cX0_letPass 3 (some .int), Cond.methodLink RX0 102 yX0_howManyLeft, Cond.instanceMethod yX0_howManyLeft, Cond.selects RX0 yX0_howManyLeft yX0_howManyLeft, Cond.code yX0_howManyLeft cX0_howManyLeft 1 (some .int), Cond.methodLink RX0 105 yX0_tickOn, Cond.instanceMethod yX0_tickOn, Cond.selects RX0 yX0_tickOn yX0_tickOn, Cond.code yX0_tickOn cX0_tickOn 3 none, Cond.methodLink RX0 113 yX0_moveOn, Cond.instanceMethod yX0_moveOn, Cond.selects RX0 yX0_moveOn yX0_moveOn, Cond.code yX0_moveOn cX0_moveOn 3 none, Cond.fieldLink RX0 86 "BeltMarks$Box" "front" "I", Cond.methodLink RX0 116 yX0_seeBoxes, Cond.instanceMethod yX0_seeBoxes, Cond.selects RX0 yX0_seeBoxes yX0_seeBoxes, Cond.code yX0_seeBoxes cX0_seeBoxes 3 none, Cond.fieldLink RX0 134 "BeltMarks$Box" "seen" "Z", Cond.methodLink RX0 138 yX0_addReport]
def wsX4_pass_r4 : List Cond := [Cond.instanceMethod yX0_addReport, Cond.selects RX0 yX0_addReport yX0_addReport, Cond.code yX0_addReport cX0_addReport 2 none, Cond.methodLink RX0 119 yX0_countPlansDown, Cond.instanceMethod yX0_countPlansDown, Cond.selects RX0 yX0_countPlansDown yX0_countPlansDown, Cond.code yX0_countPlansDown cX0_countPlansDown 2 none, Cond.methodLink RX0 122 yX0_takeReports, Cond.instanceMethod yX0_takeReports, Cond.selects RX0 yX0_takeReports yX0_takeReports, Cond.code yX0_takeReports cX0_takeReports 3 none, Cond.methodLink RX0 141 yX0_addPlan, Cond.instanceMethod yX0_addPlan, Cond.selects RX0 yX0_addPlan yX0_addPlan, Cond.code yX0_addPlan cX0_addPlan 2 none, Cond.methodLink RX0 144 yX0_guessedWay, Cond.instanceMethod yX0_guessedWay, Cond.selects RX0 yX0_guessedWay yX0_guessedWay, Cond.code yX0_guessedWay cX0_guessedWay 3 (some .int), Cond.methodLink RX0 125 yX0_doPlans, Cond.instanceMethod yX0_doPlans, Cond.selects RX0 yX0_doPlans yX0_doPlans, Cond.code yX0_doPlans cX0_doPlans 3 none, Cond.methodLink RX0 147 yX0_useLabel]
def wsX4_pass_r5 : List Cond := [Cond.instanceMethod yX0_useLabel, Cond.selects RX0 yX0_useLabel yX0_useLabel, Cond.code yX0_useLabel cX0_useLabel 2 none, Cond.methodLink RX0 150 yX1_liesUnder, Cond.instanceMethod yX1_liesUnder, Cond.selects RX1 yX1_liesUnder yX1_liesUnder, Cond.code yX1_liesUnder cX1_liesUnder 2 (some .boolean), Cond.methodLink RX0 153 yX0_markBox, Cond.instanceMethod yX0_markBox, Cond.selects RX0 yX0_markBox yX0_markBox, Cond.code yX0_markBox cX0_markBox 2 none, Cond.fieldLink RX0 156 "BeltMarks$Box" "marked" "Z", Cond.fieldLink RX0 159 "BeltMarks$Box" "twice" "Z", Cond.fieldLink RX0 162 "BeltMarks$Box" "mark" "I", Cond.methodLink RX0 128 yX0_feed, Cond.instanceMethod yX0_feed, Cond.selects RX0 yX0_feed yX0_feed, Cond.code yX0_feed cX0_feed 1 none, Cond.methodLink RX0 165 Lib.Math.min.name, Cond.static Lib.Math.min.name, Cond.initialized "java/lang/Math", Cond.code Lib.Math.min.name Lib.Math.min.code 2 (some .int), Cond.methodLink RX0 131 yX0_letBoxesLeave, Cond.instanceMethod yX0_letBoxesLeave]
def wsX4_pass_r6 : List Cond := [Cond.selects RX0 yX0_letBoxesLeave yX0_letBoxesLeave, Cond.code yX0_letBoxesLeave cX0_letBoxesLeave 4 none, Cond.methodLink RX0 75 yX1_back, Cond.instanceMethod yX1_back, Cond.selects RX1 yX1_back yX1_back, Cond.code yX1_back cX1_back 1 (some .int), Cond.methodLink RX0 168 yX0_fate, Cond.instanceMethod yX0_fate, Cond.selects RX0 yX0_fate yX0_fate, Cond.code yX0_fate cX0_fate 3 (some .int), Cond.methodLink RX0 172 Lib.Math.abs.name, Cond.static Lib.Math.abs.name, Cond.code Lib.Math.abs.name Lib.Math.abs.code 1 (some .int), Cond.methodLink RX4 49 yX4_recorded, Cond.instanceMethod yX4_recorded, Cond.selects RX4 yX4_recorded yX4_recorded, Cond.initialized RX4, Cond.code yX4_recorded cX4_recorded 2 (some .int), Cond.methodLink RX4 62 yX2_keepNoted, Cond.instanceMethod yX2_keepNoted, Cond.selects RX2 yX2_keepNoted yX2_keepNoted, Cond.code yX2_keepNoted cX2_keepNoted 1 none]
def wsX4_pass : List Cond := .code yX4_pass cX4_pass 2 (some .int) :: ((wsX4_pass_r1 ++ (wsX4_pass_r2 ++ (wsX4_pass_r3 ++ (wsX4_pass_r4 ++ (wsX4_pass_r5 ++ wsX4_pass_r6))))) ++ wsX40 ++ wsX20 ++ wsX00 ++ wsX10)
def wsX4_box : List Cond := .code yX4_box cX4_box 3 (some .int) :: ([.fieldLink RX4 10 "BeltMarks" "belt" "LBeltMarks$Belt;", .methodLink RX4 65 yX0_aboutBox, .instanceMethod yX0_aboutBox, .selects RX0 yX0_aboutBox yX0_aboutBox, .initialized RX0, .code yX0_aboutBox cX0_aboutBox 3 (some .int), .fieldLink RX0 28 "BeltMarks$Belt" "boxes" "[LBeltMarks$Box;", .methodLink RX0 83 yX0_isBox, .instanceMethod yX0_isBox, .selects RX0 yX0_isBox yX0_isBox, .code yX0_isBox cX0_isBox 2 (some .boolean), .fieldLink RX0 51 "BeltMarks$Belt" "boxCount" "I", .methodLink RX0 109 yX1_tell, .instanceMethod yX1_tell, .selects RX1 yX1_tell yX1_tell, .initialized RX1, .code yX1_tell cX1_tell 2 (some .int), .fieldLink RX1 11 "BeltMarks$Box" "front" "I", .fieldLink RX1 15 "BeltMarks$Box" "length" "I", .fieldLink RX1 18 "BeltMarks$Box" "seen" "Z", .fieldLink RX1 22 "BeltMarks$Box" "marked" "Z", .fieldLink RX1 25 "BeltMarks$Box" "mark" "I", .fieldLink RX1 28 "BeltMarks$Box" "twice" "Z", .fieldLink RX1 31 "BeltMarks$Box" "number" "I"] ++ wsX40 ++ wsX00 ++ wsX10)
def wsX4_plan : List Cond := .code yX4_plan cX4_plan 2 (some .int) :: ([.fieldLink RX4 10 "BeltMarks" "belt" "LBeltMarks$Belt;", .methodLink RX4 68 yX0_planAt, .instanceMethod yX0_planAt, .selects RX0 yX0_planAt yX0_planAt, .initialized RX0, .code yX0_planAt cX0_planAt 2 (some .int), .fieldLink RX0 62 "BeltMarks$Belt" "planCount" "I", .fieldLink RX0 38 "BeltMarks$Belt" "plans" "[I"] ++ wsX40 ++ wsX00)
def wsX4_report : List Cond := .code yX4_report cX4_report 3 (some .int) :: ([.fieldLink RX4 10 "BeltMarks" "belt" "LBeltMarks$Belt;", .methodLink RX4 71 yX0_aboutReport, .instanceMethod yX0_aboutReport, .selects RX0 yX0_aboutReport yX0_aboutReport, .initialized RX0, .code yX0_aboutReport cX0_aboutReport 3 (some .int), .fieldLink RX0 59 "BeltMarks$Belt" "reportCount" "I", .fieldLink RX0 32 "BeltMarks$Belt" "comes" "[I", .fieldLink RX0 23 "BeltMarks$Belt" "tallies" "[I", .fieldLink RX0 35 "BeltMarks$Belt" "excesses" "[I"] ++ wsX40 ++ wsX00)
def wsX4_count : List Cond := .code yX4_count cX4_count 2 (some .int) :: ([.fieldLink RX4 37 "BeltMarks" "pad" "LBeltMarks$Pad;", .fieldLink RX4 74 "BeltMarks$Pad" "length" "I", .fieldLink RX4 22 "BeltMarks" "history" "LBeltMarks$History;", .fieldLink RX4 78 "BeltMarks$History" "size" "I", .fieldLink RX4 10 "BeltMarks" "belt" "LBeltMarks$Belt;", .methodLink RX4 81 yX0_number, .instanceMethod yX0_number, .selects RX0 yX0_number yX0_number, .initialized RX0, .code yX0_number cX0_number 3 (some .int), .fieldLink RX0 51 "BeltMarks$Belt" "boxCount" "I", .fieldLink RX0 59 "BeltMarks$Belt" "reportCount" "I", .fieldLink RX0 62 "BeltMarks$Belt" "planCount" "I", .fieldLink RX0 23 "BeltMarks$Belt" "tallies" "[I", .fieldLink RX0 20 "BeltMarks$Belt" "settings" "[I"] ++ wsX40 ++ wsX30 ++ wsX20 ++ wsX00)
def wsX4_canTry : List Cond := .code yX4_canTry cX4_canTry 1 (some .boolean) :: ([])
def wsX4_ifPass_r1 : List Cond := [Cond.fieldLink RX4 88 "BeltMarks" "FORESEEN" "[I", Cond.fieldLink RX4 16 "BeltMarks" "trial" "LBeltMarks$Belt;", Cond.fieldLink RX4 10 "BeltMarks" "belt" "LBeltMarks$Belt;", Cond.methodLink RX4 84 yX4_canTry, Cond.static yX4_canTry, Cond.initialized RX4, Cond.code yX4_canTry cX4_canTry 1 (some .boolean), Cond.methodLink RX4 92 yX0_copyFrom, Cond.instanceMethod yX0_copyFrom, Cond.selects RX0 yX0_copyFrom yX0_copyFrom, Cond.initialized RX0, Cond.code yX0_copyFrom cX0_copyFrom 3 none, Cond.fieldLink RX0 20 "BeltMarks$Belt" "settings" "[I", Cond.methodLink RX0 45 arraycopyName, Cond.native arraycopyName, Cond.static arraycopyName, Cond.initialized "java/lang/System", Cond.fieldLink RX0 23 "BeltMarks$Belt" "tallies" "[I", Cond.fieldLink RX0 51 "BeltMarks$Belt" "boxCount" "I", Cond.fieldLink RX0 28 "BeltMarks$Belt" "boxes" "[LBeltMarks$Box;", Cond.fieldLink RX0 59 "BeltMarks$Belt" "reportCount" "I", Cond.fieldLink RX0 32 "BeltMarks$Belt" "comes" "[I", Cond.fieldLink RX0 35 "BeltMarks$Belt" "excesses" "[I", Cond.fieldLink RX0 62 "BeltMarks$Belt" "planCount" "I"]
def wsX4_ifPass_r2 : List Cond := [Cond.fieldLink RX0 38 "BeltMarks$Belt" "plans" "[I", Cond.fieldLink RX0 41 "BeltMarks$Belt" "ways" "[I", Cond.methodLink RX0 55 yX1_copyFrom, Cond.instanceMethod yX1_copyFrom, Cond.selects RX1 yX1_copyFrom yX1_copyFrom, Cond.initialized RX1, Cond.code yX1_copyFrom cX1_copyFrom 2 none, Cond.fieldLink RX1 11 "BeltMarks$Box" "front" "I", Cond.fieldLink RX1 15 "BeltMarks$Box" "length" "I", Cond.fieldLink RX1 18 "BeltMarks$Box" "seen" "Z", Cond.fieldLink RX1 22 "BeltMarks$Box" "marked" "Z", Cond.fieldLink RX1 25 "BeltMarks$Box" "mark" "I", Cond.fieldLink RX1 28 "BeltMarks$Box" "twice" "Z", Cond.fieldLink RX1 31 "BeltMarks$Box" "number" "I", Cond.methodLink RX4 95 yX0_tickOn, Cond.instanceMethod yX0_tickOn, Cond.selects RX0 yX0_tickOn yX0_tickOn, Cond.code yX0_tickOn cX0_tickOn 3 none, Cond.methodLink RX0 113 yX0_moveOn, Cond.instanceMethod yX0_moveOn, Cond.selects RX0 yX0_moveOn yX0_moveOn, Cond.code yX0_moveOn cX0_moveOn 3 none, Cond.fieldLink RX0 86 "BeltMarks$Box" "front" "I", Cond.methodLink RX0 116 yX0_seeBoxes]
def wsX4_ifPass_r3 : List Cond := [Cond.instanceMethod yX0_seeBoxes, Cond.selects RX0 yX0_seeBoxes yX0_seeBoxes, Cond.code yX0_seeBoxes cX0_seeBoxes 3 none, Cond.fieldLink RX0 134 "BeltMarks$Box" "seen" "Z", Cond.methodLink RX0 138 yX0_addReport, Cond.instanceMethod yX0_addReport, Cond.selects RX0 yX0_addReport yX0_addReport, Cond.code yX0_addReport cX0_addReport 2 none, Cond.methodLink RX0 119 yX0_countPlansDown, Cond.instanceMethod yX0_countPlansDown, Cond.selects RX0 yX0_countPlansDown yX0_countPlansDown, Cond.code yX0_countPlansDown cX0_countPlansDown 2 none, Cond.methodLink RX0 122 yX0_takeReports, Cond.instanceMethod yX0_takeReports, Cond.selects RX0 yX0_takeReports yX0_takeReports, Cond.code yX0_takeReports cX0_takeReports 3 none, Cond.methodLink RX0 141 yX0_addPlan, Cond.instanceMethod yX0_addPlan, Cond.selects RX0 yX0_addPlan yX0_addPlan, Cond.code yX0_addPlan cX0_addPlan 2 none, Cond.methodLink RX0 144 yX0_guessedWay, Cond.instanceMethod yX0_guessedWay, Cond.selects RX0 yX0_guessedWay yX0_guessedWay, Cond.code yX0_guessedWay cX0_guessedWay 3 (some .int)]
def wsX4_ifPass_r4 : List Cond := [Cond.methodLink RX0 125 yX0_doPlans, Cond.instanceMethod yX0_doPlans, Cond.selects RX0 yX0_doPlans yX0_doPlans, Cond.code yX0_doPlans cX0_doPlans 3 none, Cond.methodLink RX0 147 yX0_useLabel, Cond.instanceMethod yX0_useLabel, Cond.selects RX0 yX0_useLabel yX0_useLabel, Cond.code yX0_useLabel cX0_useLabel 2 none, Cond.methodLink RX0 150 yX1_liesUnder, Cond.instanceMethod yX1_liesUnder, Cond.selects RX1 yX1_liesUnder yX1_liesUnder, Cond.code yX1_liesUnder cX1_liesUnder 2 (some .boolean), Cond.methodLink RX0 153 yX0_markBox, Cond.instanceMethod yX0_markBox, Cond.selects RX0 yX0_markBox yX0_markBox, Cond.code yX0_markBox cX0_markBox 2 none, Cond.fieldLink RX0 156 "BeltMarks$Box" "marked" "Z", Cond.fieldLink RX0 159 "BeltMarks$Box" "twice" "Z", Cond.fieldLink RX0 162 "BeltMarks$Box" "mark" "I", Cond.methodLink RX0 128 yX0_feed, Cond.instanceMethod yX0_feed, Cond.selects RX0 yX0_feed yX0_feed, Cond.code yX0_feed cX0_feed 1 none, Cond.methodLink RX0 165 Lib.Math.min.name]
def wsX4_ifPass_r5 : List Cond := [Cond.static Lib.Math.min.name, Cond.initialized "java/lang/Math", Cond.code Lib.Math.min.name Lib.Math.min.code 2 (some .int), Cond.methodLink RX0 131 yX0_letBoxesLeave, Cond.instanceMethod yX0_letBoxesLeave, Cond.selects RX0 yX0_letBoxesLeave yX0_letBoxesLeave, Cond.code yX0_letBoxesLeave cX0_letBoxesLeave 4 none, Cond.methodLink RX0 75 yX1_back, Cond.instanceMethod yX1_back, Cond.selects RX1 yX1_back yX1_back, Cond.code yX1_back cX1_back 1 (some .int), Cond.methodLink RX0 168 yX0_fate, Cond.instanceMethod yX0_fate, Cond.selects RX0 yX0_fate yX0_fate, Cond.code yX0_fate cX0_fate 3 (some .int), Cond.methodLink RX0 172 Lib.Math.abs.name, Cond.static Lib.Math.abs.name, Cond.code Lib.Math.abs.name Lib.Math.abs.code 1 (some .int), Cond.methodLink RX4 81 yX0_number, Cond.instanceMethod yX0_number, Cond.selects RX0 yX0_number yX0_number, Cond.code yX0_number cX0_number 3 (some .int)]
def wsX4_ifPass : List Cond := .code yX4_ifPass cX4_ifPass 3 (some .int) :: ((wsX4_ifPass_r1 ++ (wsX4_ifPass_r2 ++ (wsX4_ifPass_r3 ++ (wsX4_ifPass_r4 ++ wsX4_ifPass_r5)))) ++ wsX40 ++ wsX00 ++ wsX10)
def wsX4_goodWithGuess_r1 : List Cond := [Cond.fieldLink RX4 16 "BeltMarks" "trial" "LBeltMarks$Belt;", Cond.fieldLink RX4 10 "BeltMarks" "belt" "LBeltMarks$Belt;", Cond.fieldLink RX4 106 "BeltMarks$Belt" "settings" "[I", Cond.methodLink RX4 92 yX0_copyFrom, Cond.instanceMethod yX0_copyFrom, Cond.selects RX0 yX0_copyFrom yX0_copyFrom, Cond.initialized RX0, Cond.code yX0_copyFrom cX0_copyFrom 3 none, Cond.fieldLink RX0 20 "BeltMarks$Belt" "settings" "[I", Cond.methodLink RX0 45 arraycopyName, Cond.native arraycopyName, Cond.static arraycopyName, Cond.initialized "java/lang/System", Cond.fieldLink RX0 23 "BeltMarks$Belt" "tallies" "[I", Cond.fieldLink RX0 51 "BeltMarks$Belt" "boxCount" "I", Cond.fieldLink RX0 28 "BeltMarks$Belt" "boxes" "[LBeltMarks$Box;", Cond.fieldLink RX0 59 "BeltMarks$Belt" "reportCount" "I", Cond.fieldLink RX0 32 "BeltMarks$Belt" "comes" "[I", Cond.fieldLink RX0 35 "BeltMarks$Belt" "excesses" "[I", Cond.fieldLink RX0 62 "BeltMarks$Belt" "planCount" "I", Cond.fieldLink RX0 38 "BeltMarks$Belt" "plans" "[I", Cond.fieldLink RX0 41 "BeltMarks$Belt" "ways" "[I", Cond.methodLink RX0 55 yX1_copyFrom, Cond.instanceMethod yX1_copyFrom]
def wsX4_goodWithGuess_r2 : List Cond := [Cond.selects RX1 yX1_copyFrom yX1_copyFrom, Cond.initialized RX1, Cond.code yX1_copyFrom cX1_copyFrom 2 none, Cond.fieldLink RX1 11 "BeltMarks$Box" "front" "I", Cond.fieldLink RX1 15 "BeltMarks$Box" "length" "I", Cond.fieldLink RX1 18 "BeltMarks$Box" "seen" "Z", Cond.fieldLink RX1 22 "BeltMarks$Box" "marked" "Z", Cond.fieldLink RX1 25 "BeltMarks$Box" "mark" "I", Cond.fieldLink RX1 28 "BeltMarks$Box" "twice" "Z", Cond.fieldLink RX1 31 "BeltMarks$Box" "number" "I", Cond.methodLink RX4 95 yX0_tickOn, Cond.instanceMethod yX0_tickOn, Cond.selects RX0 yX0_tickOn yX0_tickOn, Cond.code yX0_tickOn cX0_tickOn 3 none, Cond.methodLink RX0 113 yX0_moveOn, Cond.instanceMethod yX0_moveOn, Cond.selects RX0 yX0_moveOn yX0_moveOn, Cond.code yX0_moveOn cX0_moveOn 3 none, Cond.fieldLink RX0 86 "BeltMarks$Box" "front" "I", Cond.methodLink RX0 116 yX0_seeBoxes, Cond.instanceMethod yX0_seeBoxes, Cond.selects RX0 yX0_seeBoxes yX0_seeBoxes, Cond.code yX0_seeBoxes cX0_seeBoxes 3 none, Cond.fieldLink RX0 134 "BeltMarks$Box" "seen" "Z"]
def wsX4_goodWithGuess_r3 : List Cond := [Cond.methodLink RX0 138 yX0_addReport, Cond.instanceMethod yX0_addReport, Cond.selects RX0 yX0_addReport yX0_addReport, Cond.code yX0_addReport cX0_addReport 2 none, Cond.methodLink RX0 119 yX0_countPlansDown, Cond.instanceMethod yX0_countPlansDown, Cond.selects RX0 yX0_countPlansDown yX0_countPlansDown, Cond.code yX0_countPlansDown cX0_countPlansDown 2 none, Cond.methodLink RX0 122 yX0_takeReports, Cond.instanceMethod yX0_takeReports, Cond.selects RX0 yX0_takeReports yX0_takeReports, Cond.code yX0_takeReports cX0_takeReports 3 none, Cond.methodLink RX0 141 yX0_addPlan, Cond.instanceMethod yX0_addPlan, Cond.selects RX0 yX0_addPlan yX0_addPlan, Cond.code yX0_addPlan cX0_addPlan 2 none, Cond.methodLink RX0 144 yX0_guessedWay, Cond.instanceMethod yX0_guessedWay, Cond.selects RX0 yX0_guessedWay yX0_guessedWay, Cond.code yX0_guessedWay cX0_guessedWay 3 (some .int), Cond.methodLink RX0 125 yX0_doPlans, Cond.instanceMethod yX0_doPlans, Cond.selects RX0 yX0_doPlans yX0_doPlans, Cond.code yX0_doPlans cX0_doPlans 3 none]
def wsX4_goodWithGuess_r4 : List Cond := [Cond.methodLink RX0 147 yX0_useLabel, Cond.instanceMethod yX0_useLabel, Cond.selects RX0 yX0_useLabel yX0_useLabel, Cond.code yX0_useLabel cX0_useLabel 2 none, Cond.methodLink RX0 150 yX1_liesUnder, Cond.instanceMethod yX1_liesUnder, Cond.selects RX1 yX1_liesUnder yX1_liesUnder, Cond.code yX1_liesUnder cX1_liesUnder 2 (some .boolean), Cond.methodLink RX0 153 yX0_markBox, Cond.instanceMethod yX0_markBox, Cond.selects RX0 yX0_markBox yX0_markBox, Cond.code yX0_markBox cX0_markBox 2 none, Cond.fieldLink RX0 156 "BeltMarks$Box" "marked" "Z", Cond.fieldLink RX0 159 "BeltMarks$Box" "twice" "Z", Cond.fieldLink RX0 162 "BeltMarks$Box" "mark" "I", Cond.methodLink RX0 128 yX0_feed, Cond.instanceMethod yX0_feed, Cond.selects RX0 yX0_feed yX0_feed, Cond.code yX0_feed cX0_feed 1 none, Cond.methodLink RX0 165 Lib.Math.min.name, Cond.static Lib.Math.min.name, Cond.initialized "java/lang/Math", Cond.code Lib.Math.min.name Lib.Math.min.code 2 (some .int), Cond.methodLink RX0 131 yX0_letBoxesLeave]
def wsX4_goodWithGuess_r5 : List Cond := [Cond.instanceMethod yX0_letBoxesLeave, Cond.selects RX0 yX0_letBoxesLeave yX0_letBoxesLeave, Cond.code yX0_letBoxesLeave cX0_letBoxesLeave 4 none, Cond.methodLink RX0 75 yX1_back, Cond.instanceMethod yX1_back, Cond.selects RX1 yX1_back yX1_back, Cond.code yX1_back cX1_back 1 (some .int), Cond.methodLink RX0 168 yX0_fate, Cond.instanceMethod yX0_fate, Cond.selects RX0 yX0_fate yX0_fate, Cond.code yX0_fate cX0_fate 3 (some .int), Cond.methodLink RX0 172 Lib.Math.abs.name, Cond.static Lib.Math.abs.name, Cond.code Lib.Math.abs.name Lib.Math.abs.code 1 (some .int), Cond.methodLink RX4 81 yX0_number, Cond.instanceMethod yX0_number, Cond.selects RX0 yX0_number yX0_number, Cond.code yX0_number cX0_number 3 (some .int)]
def wsX4_goodWithGuess : List Cond := .code yX4_goodWithGuess cX4_goodWithGuess 3 (some .int) :: ((wsX4_goodWithGuess_r1 ++ (wsX4_goodWithGuess_r2 ++ (wsX4_goodWithGuess_r3 ++ (wsX4_goodWithGuess_r4 ++ wsX4_goodWithGuess_r5)))) ++ wsX40 ++ wsX00 ++ wsX10)
def wsX4_bestGuess_r1 : List Cond := [Cond.methodLink RX4 84 yX4_canTry, Cond.static yX4_canTry, Cond.initialized RX4, Cond.code yX4_canTry cX4_canTry 1 (some .boolean), Cond.methodLink RX4 99 yX4_goodWithGuess, Cond.instanceMethod yX4_goodWithGuess, Cond.selects RX4 yX4_goodWithGuess yX4_goodWithGuess, Cond.code yX4_goodWithGuess cX4_goodWithGuess 3 (some .int), Cond.fieldLink RX4 16 "BeltMarks" "trial" "LBeltMarks$Belt;", Cond.fieldLink RX4 10 "BeltMarks" "belt" "LBeltMarks$Belt;", Cond.fieldLink RX4 106 "BeltMarks$Belt" "settings" "[I", Cond.methodLink RX4 92 yX0_copyFrom, Cond.instanceMethod yX0_copyFrom, Cond.selects RX0 yX0_copyFrom yX0_copyFrom, Cond.initialized RX0, Cond.code yX0_copyFrom cX0_copyFrom 3 none, Cond.fieldLink RX0 20 "BeltMarks$Belt" "settings" "[I", Cond.methodLink RX0 45 arraycopyName, Cond.native arraycopyName, Cond.static arraycopyName, Cond.initialized "java/lang/System", Cond.fieldLink RX0 23 "BeltMarks$Belt" "tallies" "[I", Cond.fieldLink RX0 51 "BeltMarks$Belt" "boxCount" "I", Cond.fieldLink RX0 28 "BeltMarks$Belt" "boxes" "[LBeltMarks$Box;"]
def wsX4_bestGuess_r2 : List Cond := [Cond.fieldLink RX0 59 "BeltMarks$Belt" "reportCount" "I", Cond.fieldLink RX0 32 "BeltMarks$Belt" "comes" "[I", Cond.fieldLink RX0 35 "BeltMarks$Belt" "excesses" "[I", Cond.fieldLink RX0 62 "BeltMarks$Belt" "planCount" "I", Cond.fieldLink RX0 38 "BeltMarks$Belt" "plans" "[I", Cond.fieldLink RX0 41 "BeltMarks$Belt" "ways" "[I", Cond.methodLink RX0 55 yX1_copyFrom, Cond.instanceMethod yX1_copyFrom, Cond.selects RX1 yX1_copyFrom yX1_copyFrom, Cond.initialized RX1, Cond.code yX1_copyFrom cX1_copyFrom 2 none, Cond.fieldLink RX1 11 "BeltMarks$Box" "front" "I", Cond.fieldLink RX1 15 "BeltMarks$Box" "length" "I", Cond.fieldLink RX1 18 "BeltMarks$Box" "seen" "Z", Cond.fieldLink RX1 22 "BeltMarks$Box" "marked" "Z", Cond.fieldLink RX1 25 "BeltMarks$Box" "mark" "I", Cond.fieldLink RX1 28 "BeltMarks$Box" "twice" "Z", Cond.fieldLink RX1 31 "BeltMarks$Box" "number" "I", Cond.methodLink RX4 95 yX0_tickOn, Cond.instanceMethod yX0_tickOn, Cond.selects RX0 yX0_tickOn yX0_tickOn, Cond.code yX0_tickOn cX0_tickOn 3 none, Cond.methodLink RX0 113 yX0_moveOn, Cond.instanceMethod yX0_moveOn]
def wsX4_bestGuess_r3 : List Cond := [Cond.selects RX0 yX0_moveOn yX0_moveOn, Cond.code yX0_moveOn cX0_moveOn 3 none, Cond.fieldLink RX0 86 "BeltMarks$Box" "front" "I", Cond.methodLink RX0 116 yX0_seeBoxes, Cond.instanceMethod yX0_seeBoxes, Cond.selects RX0 yX0_seeBoxes yX0_seeBoxes, Cond.code yX0_seeBoxes cX0_seeBoxes 3 none, Cond.fieldLink RX0 134 "BeltMarks$Box" "seen" "Z", Cond.methodLink RX0 138 yX0_addReport, Cond.instanceMethod yX0_addReport, Cond.selects RX0 yX0_addReport yX0_addReport, Cond.code yX0_addReport cX0_addReport 2 none, Cond.methodLink RX0 119 yX0_countPlansDown, Cond.instanceMethod yX0_countPlansDown, Cond.selects RX0 yX0_countPlansDown yX0_countPlansDown, Cond.code yX0_countPlansDown cX0_countPlansDown 2 none, Cond.methodLink RX0 122 yX0_takeReports, Cond.instanceMethod yX0_takeReports, Cond.selects RX0 yX0_takeReports yX0_takeReports, Cond.code yX0_takeReports cX0_takeReports 3 none, Cond.methodLink RX0 141 yX0_addPlan, Cond.instanceMethod yX0_addPlan, Cond.selects RX0 yX0_addPlan yX0_addPlan, Cond.code yX0_addPlan cX0_addPlan 2 none]
def wsX4_bestGuess_r4 : List Cond := [Cond.methodLink RX0 144 yX0_guessedWay, Cond.instanceMethod yX0_guessedWay, Cond.selects RX0 yX0_guessedWay yX0_guessedWay, Cond.code yX0_guessedWay cX0_guessedWay 3 (some .int), Cond.methodLink RX0 125 yX0_doPlans, Cond.instanceMethod yX0_doPlans, Cond.selects RX0 yX0_doPlans yX0_doPlans, Cond.code yX0_doPlans cX0_doPlans 3 none, Cond.methodLink RX0 147 yX0_useLabel, Cond.instanceMethod yX0_useLabel, Cond.selects RX0 yX0_useLabel yX0_useLabel, Cond.code yX0_useLabel cX0_useLabel 2 none, Cond.methodLink RX0 150 yX1_liesUnder, Cond.instanceMethod yX1_liesUnder, Cond.selects RX1 yX1_liesUnder yX1_liesUnder, Cond.code yX1_liesUnder cX1_liesUnder 2 (some .boolean), Cond.methodLink RX0 153 yX0_markBox, Cond.instanceMethod yX0_markBox, Cond.selects RX0 yX0_markBox yX0_markBox, Cond.code yX0_markBox cX0_markBox 2 none, Cond.fieldLink RX0 156 "BeltMarks$Box" "marked" "Z", Cond.fieldLink RX0 159 "BeltMarks$Box" "twice" "Z", Cond.fieldLink RX0 162 "BeltMarks$Box" "mark" "I", Cond.methodLink RX0 128 yX0_feed]
def wsX4_bestGuess_r5 : List Cond := [Cond.instanceMethod yX0_feed, Cond.selects RX0 yX0_feed yX0_feed, Cond.code yX0_feed cX0_feed 1 none, Cond.methodLink RX0 165 Lib.Math.min.name, Cond.static Lib.Math.min.name, Cond.initialized "java/lang/Math", Cond.code Lib.Math.min.name Lib.Math.min.code 2 (some .int), Cond.methodLink RX0 131 yX0_letBoxesLeave, Cond.instanceMethod yX0_letBoxesLeave, Cond.selects RX0 yX0_letBoxesLeave yX0_letBoxesLeave, Cond.code yX0_letBoxesLeave cX0_letBoxesLeave 4 none, Cond.methodLink RX0 75 yX1_back, Cond.instanceMethod yX1_back, Cond.selects RX1 yX1_back yX1_back, Cond.code yX1_back cX1_back 1 (some .int), Cond.methodLink RX0 168 yX0_fate, Cond.instanceMethod yX0_fate, Cond.selects RX0 yX0_fate yX0_fate, Cond.code yX0_fate cX0_fate 3 (some .int), Cond.methodLink RX0 172 Lib.Math.abs.name, Cond.static Lib.Math.abs.name, Cond.code Lib.Math.abs.name Lib.Math.abs.code 1 (some .int), Cond.methodLink RX4 81 yX0_number, Cond.instanceMethod yX0_number]
def wsX4_bestGuess_r6 : List Cond := [Cond.selects RX0 yX0_number yX0_number, Cond.code yX0_number cX0_number 3 (some .int)]
def wsX4_bestGuess : List Cond := .code yX4_bestGuess cX4_bestGuess 7 (some .int) :: ((wsX4_bestGuess_r1 ++ (wsX4_bestGuess_r2 ++ (wsX4_bestGuess_r3 ++ (wsX4_bestGuess_r4 ++ (wsX4_bestGuess_r5 ++ wsX4_bestGuess_r6))))) ++ wsX40 ++ wsX00 ++ wsX10)
def wsX4_undo_r1 : List Cond := [Cond.fieldLink RX4 22 "BeltMarks" "history" "LBeltMarks$History;", Cond.fieldLink RX4 78 "BeltMarks$History" "size" "I", Cond.fieldLink RX4 10 "BeltMarks" "belt" "LBeltMarks$Belt;", Cond.methodLink RX4 136 yX2_takeBack, Cond.instanceMethod yX2_takeBack, Cond.selects RX2 yX2_takeBack yX2_takeBack, Cond.initialized RX2, Cond.code yX2_takeBack cX2_takeBack 2 none, Cond.fieldLink RX2 26 "BeltMarks$History" "size" "I", Cond.methodLink RX2 29 yX2_stateAt, Cond.instanceMethod yX2_stateAt, Cond.selects RX2 yX2_stateAt yX2_stateAt, Cond.code yX2_stateAt cX2_stateAt 2 (some (.object "BeltMarks$Belt")), Cond.fieldLink RX2 11 "BeltMarks$History" "states" "[LBeltMarks$Belt;", Cond.fieldLink RX2 16 "BeltMarks$History" "oldest" "I", Cond.methodLink RX2 20 yJ9_floorMod_7cf53, Cond.static yJ9_floorMod_7cf53, Cond.initialized RJ9, Cond.code yJ9_floorMod_7cf53 cJ9_floorMod_7cf53 3 (some .int), Cond.methodLink RX2 33 yX0_copyFrom, Cond.instanceMethod yX0_copyFrom, Cond.selects RX0 yX0_copyFrom yX0_copyFrom, Cond.initialized RX0, Cond.code yX0_copyFrom cX0_copyFrom 3 none]
def wsX4_undo_r2 : List Cond := [Cond.fieldLink RX0 20 "BeltMarks$Belt" "settings" "[I", Cond.methodLink RX0 45 arraycopyName, Cond.native arraycopyName, Cond.static arraycopyName, Cond.initialized "java/lang/System", Cond.fieldLink RX0 23 "BeltMarks$Belt" "tallies" "[I", Cond.fieldLink RX0 51 "BeltMarks$Belt" "boxCount" "I", Cond.fieldLink RX0 28 "BeltMarks$Belt" "boxes" "[LBeltMarks$Box;", Cond.fieldLink RX0 59 "BeltMarks$Belt" "reportCount" "I", Cond.fieldLink RX0 32 "BeltMarks$Belt" "comes" "[I", Cond.fieldLink RX0 35 "BeltMarks$Belt" "excesses" "[I", Cond.fieldLink RX0 62 "BeltMarks$Belt" "planCount" "I", Cond.fieldLink RX0 38 "BeltMarks$Belt" "plans" "[I", Cond.fieldLink RX0 41 "BeltMarks$Belt" "ways" "[I", Cond.methodLink RX0 55 yX1_copyFrom, Cond.instanceMethod yX1_copyFrom, Cond.selects RX1 yX1_copyFrom yX1_copyFrom, Cond.initialized RX1, Cond.code yX1_copyFrom cX1_copyFrom 2 none, Cond.fieldLink RX1 11 "BeltMarks$Box" "front" "I", Cond.fieldLink RX1 15 "BeltMarks$Box" "length" "I", Cond.fieldLink RX1 18 "BeltMarks$Box" "seen" "Z", Cond.fieldLink RX1 22 "BeltMarks$Box" "marked" "Z", Cond.fieldLink RX1 25 "BeltMarks$Box" "mark" "I"]
def wsX4_undo_r3 : List Cond := [Cond.fieldLink RX1 28 "BeltMarks$Box" "twice" "Z", Cond.fieldLink RX1 31 "BeltMarks$Box" "number" "I"]
def wsX4_undo : List Cond := .code yX4_undo cX4_undo 1 (some .int) :: ((wsX4_undo_r1 ++ (wsX4_undo_r2 ++ wsX4_undo_r3)) ++ wsX40 ++ wsX20 ++ wsX00 ++ wsX10)
def wsJ9_abs_0f7a4 : List Cond := .code yJ9_abs_0f7a4 cJ9_abs_0f7a4 1 (some .int) :: ([])
def wsJ9_min_7cf53 : List Cond := .code yJ9_min_7cf53 cJ9_min_7cf53 2 (some .int) :: ([])
def wsL_cell : List Cond := .code yL_cell cL_cell 2 (some .int) :: ([.constant RL 7 (556226971)])
def wsL_up : List Cond := .code yL_up cL_up 2 (some .int) :: ([.constant RL 8 (2147483647)])
def wsL_isStep_r1 : List Cond := [Cond.methodLink RL 9 yL_up, Cond.static yL_up, Cond.initialized RL, Cond.code yL_up cL_up 2 (some .int), Cond.constant RL 8 (2147483647), Cond.methodLink RL 15 yX4_arrive, Cond.instanceMethod yX4_arrive, Cond.selects RX4 yX4_arrive yX4_arrive, Cond.initialized RX4, Cond.code yX4_arrive cX4_arrive 2 (some .int), Cond.fieldLink RX4 22 "BeltMarks" "history" "LBeltMarks$History;", Cond.fieldLink RX4 10 "BeltMarks" "belt" "LBeltMarks$Belt;", Cond.methodLink RX4 41 yX2_note, Cond.instanceMethod yX2_note, Cond.selects RX2 yX2_note yX2_note, Cond.initialized RX2, Cond.code yX2_note cX2_note 2 none, Cond.fieldLink RX2 26 "BeltMarks$History" "size" "I", Cond.methodLink RX2 29 yX2_stateAt, Cond.instanceMethod yX2_stateAt, Cond.selects RX2 yX2_stateAt yX2_stateAt, Cond.code yX2_stateAt cX2_stateAt 2 (some (.object "BeltMarks$Belt")), Cond.fieldLink RX2 11 "BeltMarks$History" "states" "[LBeltMarks$Belt;", Cond.fieldLink RX2 16 "BeltMarks$History" "oldest" "I"]
def wsL_isStep_r2 : List Cond := [Cond.methodLink RX2 20 yJ9_floorMod_7cf53, Cond.static yJ9_floorMod_7cf53, Cond.initialized RJ9, Cond.code yJ9_floorMod_7cf53 cJ9_floorMod_7cf53 3 (some .int), Cond.methodLink RX2 33 yX0_copyFrom, Cond.instanceMethod yX0_copyFrom, Cond.selects RX0 yX0_copyFrom yX0_copyFrom, Cond.initialized RX0, Cond.code yX0_copyFrom cX0_copyFrom 3 none, Cond.fieldLink RX0 20 "BeltMarks$Belt" "settings" "[I", Cond.methodLink RX0 45 arraycopyName, Cond.native arraycopyName, Cond.static arraycopyName, Cond.initialized "java/lang/System", Cond.fieldLink RX0 23 "BeltMarks$Belt" "tallies" "[I", Cond.fieldLink RX0 51 "BeltMarks$Belt" "boxCount" "I", Cond.fieldLink RX0 28 "BeltMarks$Belt" "boxes" "[LBeltMarks$Box;", Cond.fieldLink RX0 59 "BeltMarks$Belt" "reportCount" "I", Cond.fieldLink RX0 32 "BeltMarks$Belt" "comes" "[I", Cond.fieldLink RX0 35 "BeltMarks$Belt" "excesses" "[I", Cond.fieldLink RX0 62 "BeltMarks$Belt" "planCount" "I", Cond.fieldLink RX0 38 "BeltMarks$Belt" "plans" "[I", Cond.fieldLink RX0 41 "BeltMarks$Belt" "ways" "[I", Cond.methodLink RX0 55 yX1_copyFrom]
def wsL_isStep_r3 : List Cond := [Cond.instanceMethod yX1_copyFrom, Cond.selects RX1 yX1_copyFrom yX1_copyFrom, Cond.initialized RX1, Cond.code yX1_copyFrom cX1_copyFrom 2 none, Cond.fieldLink RX1 11 "BeltMarks$Box" "front" "I", Cond.fieldLink RX1 15 "BeltMarks$Box" "length" "I", Cond.fieldLink RX1 18 "BeltMarks$Box" "seen" "Z", Cond.fieldLink RX1 22 "BeltMarks$Box" "marked" "Z", Cond.fieldLink RX1 25 "BeltMarks$Box" "mark" "I", Cond.fieldLink RX1 28 "BeltMarks$Box" "twice" "Z", Cond.fieldLink RX1 31 "BeltMarks$Box" "number" "I", Cond.methodLink RX4 53 yX0_takeBox, Cond.instanceMethod yX0_takeBox, Cond.selects RX0 yX0_takeBox yX0_takeBox, Cond.code yX0_takeBox cX0_takeBox 2 (some .int), Cond.methodLink RX0 71 yX1_canHave, Cond.static yX1_canHave, Cond.code yX1_canHave cX1_canHave 1 (some .boolean), Cond.methodLink RX0 75 yX1_back, Cond.instanceMethod yX1_back, Cond.selects RX1 yX1_back yX1_back, Cond.code yX1_back cX1_back 1 (some .int), Cond.methodLink RX0 79 yX1_begin, Cond.instanceMethod yX1_begin]
def wsL_isStep_r4 : List Cond := [Cond.selects RX1 yX1_begin yX1_begin, Cond.code yX1_begin cX1_begin 3 none, Cond.methodLink RX4 49 yX4_recorded, Cond.instanceMethod yX4_recorded, Cond.selects RX4 yX4_recorded yX4_recorded, Cond.code yX4_recorded cX4_recorded 2 (some .int), Cond.methodLink RX4 62 yX2_keepNoted, Cond.instanceMethod yX2_keepNoted, Cond.selects RX2 yX2_keepNoted yX2_keepNoted, Cond.code yX2_keepNoted cX2_keepNoted 1 none, Cond.methodLink RL 21 yX4_pass, Cond.instanceMethod yX4_pass, Cond.selects RX4 yX4_pass yX4_pass, Cond.code yX4_pass cX4_pass 2 (some .int), Cond.methodLink RX4 59 yX0_letPass, Cond.instanceMethod yX0_letPass, Cond.selects RX0 yX0_letPass yX0_letPass, Cond.code yX0_letPass cX0_letPass 3 (some .int), Cond.methodLink RX0 102 yX0_howManyLeft, Cond.instanceMethod yX0_howManyLeft, Cond.selects RX0 yX0_howManyLeft yX0_howManyLeft, Cond.code yX0_howManyLeft cX0_howManyLeft 1 (some .int), Cond.methodLink RX0 105 yX0_tickOn, Cond.instanceMethod yX0_tickOn]
def wsL_isStep_r5 : List Cond := [Cond.selects RX0 yX0_tickOn yX0_tickOn, Cond.code yX0_tickOn cX0_tickOn 3 none, Cond.methodLink RX0 113 yX0_moveOn, Cond.instanceMethod yX0_moveOn, Cond.selects RX0 yX0_moveOn yX0_moveOn, Cond.code yX0_moveOn cX0_moveOn 3 none, Cond.fieldLink RX0 86 "BeltMarks$Box" "front" "I", Cond.methodLink RX0 116 yX0_seeBoxes, Cond.instanceMethod yX0_seeBoxes, Cond.selects RX0 yX0_seeBoxes yX0_seeBoxes, Cond.code yX0_seeBoxes cX0_seeBoxes 3 none, Cond.fieldLink RX0 134 "BeltMarks$Box" "seen" "Z", Cond.methodLink RX0 138 yX0_addReport, Cond.instanceMethod yX0_addReport, Cond.selects RX0 yX0_addReport yX0_addReport, Cond.code yX0_addReport cX0_addReport 2 none, Cond.methodLink RX0 119 yX0_countPlansDown, Cond.instanceMethod yX0_countPlansDown, Cond.selects RX0 yX0_countPlansDown yX0_countPlansDown, Cond.code yX0_countPlansDown cX0_countPlansDown 2 none, Cond.methodLink RX0 122 yX0_takeReports, Cond.instanceMethod yX0_takeReports, Cond.selects RX0 yX0_takeReports yX0_takeReports, Cond.code yX0_takeReports cX0_takeReports 3 none]
def wsL_isStep_r6 : List Cond := [Cond.methodLink RX0 141 yX0_addPlan, Cond.instanceMethod yX0_addPlan, Cond.selects RX0 yX0_addPlan yX0_addPlan, Cond.code yX0_addPlan cX0_addPlan 2 none, Cond.methodLink RX0 144 yX0_guessedWay, Cond.instanceMethod yX0_guessedWay, Cond.selects RX0 yX0_guessedWay yX0_guessedWay, Cond.code yX0_guessedWay cX0_guessedWay 3 (some .int), Cond.methodLink RX0 125 yX0_doPlans, Cond.instanceMethod yX0_doPlans, Cond.selects RX0 yX0_doPlans yX0_doPlans, Cond.code yX0_doPlans cX0_doPlans 3 none, Cond.methodLink RX0 147 yX0_useLabel, Cond.instanceMethod yX0_useLabel, Cond.selects RX0 yX0_useLabel yX0_useLabel, Cond.code yX0_useLabel cX0_useLabel 2 none, Cond.methodLink RX0 150 yX1_liesUnder, Cond.instanceMethod yX1_liesUnder, Cond.selects RX1 yX1_liesUnder yX1_liesUnder, Cond.code yX1_liesUnder cX1_liesUnder 2 (some .boolean), Cond.methodLink RX0 153 yX0_markBox, Cond.instanceMethod yX0_markBox, Cond.selects RX0 yX0_markBox yX0_markBox, Cond.code yX0_markBox cX0_markBox 2 none]
def wsL_isStep_r7 : List Cond := [Cond.fieldLink RX0 156 "BeltMarks$Box" "marked" "Z", Cond.fieldLink RX0 159 "BeltMarks$Box" "twice" "Z", Cond.fieldLink RX0 162 "BeltMarks$Box" "mark" "I", Cond.methodLink RX0 128 yX0_feed, Cond.instanceMethod yX0_feed, Cond.selects RX0 yX0_feed yX0_feed, Cond.code yX0_feed cX0_feed 1 none, Cond.methodLink RX0 165 Lib.Math.min.name, Cond.static Lib.Math.min.name, Cond.initialized "java/lang/Math", Cond.code Lib.Math.min.name Lib.Math.min.code 2 (some .int), Cond.methodLink RX0 131 yX0_letBoxesLeave, Cond.instanceMethod yX0_letBoxesLeave, Cond.selects RX0 yX0_letBoxesLeave yX0_letBoxesLeave, Cond.code yX0_letBoxesLeave cX0_letBoxesLeave 4 none, Cond.methodLink RX0 168 yX0_fate, Cond.instanceMethod yX0_fate, Cond.selects RX0 yX0_fate yX0_fate, Cond.code yX0_fate cX0_fate 3 (some .int), Cond.methodLink RX0 172 Lib.Math.abs.name, Cond.static Lib.Math.abs.name, Cond.code Lib.Math.abs.name Lib.Math.abs.code 1 (some .int), Cond.methodLink RL 24 yX4_turn, Cond.instanceMethod yX4_turn]
def wsL_isStep_r8 : List Cond := [Cond.selects RX4 yX4_turn yX4_turn, Cond.code yX4_turn cX4_turn 3 (some .int), Cond.methodLink RX4 56 yX0_turnBox, Cond.instanceMethod yX0_turnBox, Cond.selects RX0 yX0_turnBox yX0_turnBox, Cond.code yX0_turnBox cX0_turnBox 5 (some .int), Cond.fieldLink RX0 89 "BeltMarks$Box" "length" "I", Cond.methodLink RX0 83 yX0_isBox, Cond.instanceMethod yX0_isBox, Cond.selects RX0 yX0_isBox yX0_isBox, Cond.code yX0_isBox cX0_isBox 2 (some .boolean), Cond.methodLink RX0 92 yJ9_floorDiv_7cf53, Cond.static yJ9_floorDiv_7cf53, Cond.code yJ9_floorDiv_7cf53 cJ9_floorDiv_7cf53 3 (some .int), Cond.methodLink RX0 98 yX0_hasRoom, Cond.instanceMethod yX0_hasRoom, Cond.selects RX0 yX0_hasRoom yX0_hasRoom, Cond.code yX0_hasRoom cX0_hasRoom 4 (some .boolean), Cond.methodLink RL 27 yX4_set, Cond.instanceMethod yX4_set, Cond.selects RX4 yX4_set yX4_set, Cond.code yX4_set cX4_set 3 (some .int), Cond.methodLink RX4 45 yX0_choose, Cond.instanceMethod yX0_choose]
def wsL_isStep_r9 : List Cond := [Cond.selects RX0 yX0_choose yX0_choose, Cond.code yX0_choose cX0_choose 4 (some .int), Cond.fieldLink RX0 65 "BeltMarks$Belt" "LOWEST" "[I", Cond.fieldLink RX0 68 "BeltMarks$Belt" "HIGHEST" "[I"]
def wsL_isStep : List Cond := .code yL_isStep cL_isStep 8 (some .boolean) :: ((wsL_isStep_r1 ++ (wsL_isStep_r2 ++ (wsL_isStep_r3 ++ (wsL_isStep_r4 ++ (wsL_isStep_r5 ++ (wsL_isStep_r6 ++ (wsL_isStep_r7 ++ (wsL_isStep_r8 ++ wsL_isStep_r9)))))))) ++ wsX40 ++ wsX20 ++ wsX00 ++ wsX10)
def wsL_isWell_r1 : List Cond := [Cond.methodLink RL 30 yX4_count, Cond.instanceMethod yX4_count, Cond.selects RX4 yX4_count yX4_count, Cond.initialized RX4, Cond.code yX4_count cX4_count 2 (some .int), Cond.fieldLink RX4 37 "BeltMarks" "pad" "LBeltMarks$Pad;", Cond.fieldLink RX4 74 "BeltMarks$Pad" "length" "I", Cond.fieldLink RX4 22 "BeltMarks" "history" "LBeltMarks$History;", Cond.fieldLink RX4 78 "BeltMarks$History" "size" "I", Cond.fieldLink RX4 10 "BeltMarks" "belt" "LBeltMarks$Belt;", Cond.methodLink RX4 81 yX0_number, Cond.instanceMethod yX0_number, Cond.selects RX0 yX0_number yX0_number, Cond.initialized RX0, Cond.code yX0_number cX0_number 3 (some .int), Cond.fieldLink RX0 51 "BeltMarks$Belt" "boxCount" "I", Cond.fieldLink RX0 59 "BeltMarks$Belt" "reportCount" "I", Cond.fieldLink RX0 62 "BeltMarks$Belt" "planCount" "I", Cond.fieldLink RX0 23 "BeltMarks$Belt" "tallies" "[I", Cond.fieldLink RX0 20 "BeltMarks$Belt" "settings" "[I", Cond.methodLink RL 33 yX4_box, Cond.instanceMethod yX4_box, Cond.selects RX4 yX4_box yX4_box, Cond.code yX4_box cX4_box 3 (some .int)]
def wsL_isWell_r2 : List Cond := [Cond.methodLink RX4 65 yX0_aboutBox, Cond.instanceMethod yX0_aboutBox, Cond.selects RX0 yX0_aboutBox yX0_aboutBox, Cond.code yX0_aboutBox cX0_aboutBox 3 (some .int), Cond.fieldLink RX0 28 "BeltMarks$Belt" "boxes" "[LBeltMarks$Box;", Cond.methodLink RX0 83 yX0_isBox, Cond.instanceMethod yX0_isBox, Cond.selects RX0 yX0_isBox yX0_isBox, Cond.code yX0_isBox cX0_isBox 2 (some .boolean), Cond.methodLink RX0 109 yX1_tell, Cond.instanceMethod yX1_tell, Cond.selects RX1 yX1_tell yX1_tell, Cond.initialized RX1, Cond.code yX1_tell cX1_tell 2 (some .int), Cond.fieldLink RX1 11 "BeltMarks$Box" "front" "I", Cond.fieldLink RX1 15 "BeltMarks$Box" "length" "I", Cond.fieldLink RX1 18 "BeltMarks$Box" "seen" "Z", Cond.fieldLink RX1 22 "BeltMarks$Box" "marked" "Z", Cond.fieldLink RX1 25 "BeltMarks$Box" "mark" "I", Cond.fieldLink RX1 28 "BeltMarks$Box" "twice" "Z", Cond.fieldLink RX1 31 "BeltMarks$Box" "number" "I", Cond.methodLink RL 36 yX4_plan, Cond.instanceMethod yX4_plan, Cond.selects RX4 yX4_plan yX4_plan]
def wsL_isWell_r3 : List Cond := [Cond.code yX4_plan cX4_plan 2 (some .int), Cond.methodLink RX4 68 yX0_planAt, Cond.instanceMethod yX0_planAt, Cond.selects RX0 yX0_planAt yX0_planAt, Cond.code yX0_planAt cX0_planAt 2 (some .int), Cond.fieldLink RX0 38 "BeltMarks$Belt" "plans" "[I", Cond.methodLink RL 39 yX4_report, Cond.instanceMethod yX4_report, Cond.selects RX4 yX4_report yX4_report, Cond.code yX4_report cX4_report 3 (some .int), Cond.methodLink RX4 71 yX0_aboutReport, Cond.instanceMethod yX0_aboutReport, Cond.selects RX0 yX0_aboutReport yX0_aboutReport, Cond.code yX0_aboutReport cX0_aboutReport 3 (some .int), Cond.fieldLink RX0 32 "BeltMarks$Belt" "comes" "[I", Cond.fieldLink RX0 35 "BeltMarks$Belt" "excesses" "[I"]
def wsL_isWell : List Cond := .code yL_isWell cL_isWell 10 (some .boolean) :: ((wsL_isWell_r1 ++ (wsL_isWell_r2 ++ wsL_isWell_r3)) ++ wsX40 ++ wsX30 ++ wsX20 ++ wsX00 ++ wsX10)
def wsL_isForeseen_r1 : List Cond := [Cond.methodLink RL 42 yX4_ifPass, Cond.instanceMethod yX4_ifPass, Cond.selects RX4 yX4_ifPass yX4_ifPass, Cond.initialized RX4, Cond.code yX4_ifPass cX4_ifPass 3 (some .int), Cond.fieldLink RX4 88 "BeltMarks" "FORESEEN" "[I", Cond.fieldLink RX4 16 "BeltMarks" "trial" "LBeltMarks$Belt;", Cond.fieldLink RX4 10 "BeltMarks" "belt" "LBeltMarks$Belt;", Cond.methodLink RX4 84 yX4_canTry, Cond.static yX4_canTry, Cond.code yX4_canTry cX4_canTry 1 (some .boolean), Cond.methodLink RX4 92 yX0_copyFrom, Cond.instanceMethod yX0_copyFrom, Cond.selects RX0 yX0_copyFrom yX0_copyFrom, Cond.initialized RX0, Cond.code yX0_copyFrom cX0_copyFrom 3 none, Cond.fieldLink RX0 20 "BeltMarks$Belt" "settings" "[I", Cond.methodLink RX0 45 arraycopyName, Cond.native arraycopyName, Cond.static arraycopyName, Cond.initialized "java/lang/System", Cond.fieldLink RX0 23 "BeltMarks$Belt" "tallies" "[I", Cond.fieldLink RX0 51 "BeltMarks$Belt" "boxCount" "I", Cond.fieldLink RX0 28 "BeltMarks$Belt" "boxes" "[LBeltMarks$Box;"]
def wsL_isForeseen_r2 : List Cond := [Cond.fieldLink RX0 59 "BeltMarks$Belt" "reportCount" "I", Cond.fieldLink RX0 32 "BeltMarks$Belt" "comes" "[I", Cond.fieldLink RX0 35 "BeltMarks$Belt" "excesses" "[I", Cond.fieldLink RX0 62 "BeltMarks$Belt" "planCount" "I", Cond.fieldLink RX0 38 "BeltMarks$Belt" "plans" "[I", Cond.fieldLink RX0 41 "BeltMarks$Belt" "ways" "[I", Cond.methodLink RX0 55 yX1_copyFrom, Cond.instanceMethod yX1_copyFrom, Cond.selects RX1 yX1_copyFrom yX1_copyFrom, Cond.initialized RX1, Cond.code yX1_copyFrom cX1_copyFrom 2 none, Cond.fieldLink RX1 11 "BeltMarks$Box" "front" "I", Cond.fieldLink RX1 15 "BeltMarks$Box" "length" "I", Cond.fieldLink RX1 18 "BeltMarks$Box" "seen" "Z", Cond.fieldLink RX1 22 "BeltMarks$Box" "marked" "Z", Cond.fieldLink RX1 25 "BeltMarks$Box" "mark" "I", Cond.fieldLink RX1 28 "BeltMarks$Box" "twice" "Z", Cond.fieldLink RX1 31 "BeltMarks$Box" "number" "I", Cond.methodLink RX4 95 yX0_tickOn, Cond.instanceMethod yX0_tickOn, Cond.selects RX0 yX0_tickOn yX0_tickOn, Cond.code yX0_tickOn cX0_tickOn 3 none, Cond.methodLink RX0 113 yX0_moveOn, Cond.instanceMethod yX0_moveOn]
def wsL_isForeseen_r3 : List Cond := [Cond.selects RX0 yX0_moveOn yX0_moveOn, Cond.code yX0_moveOn cX0_moveOn 3 none, Cond.fieldLink RX0 86 "BeltMarks$Box" "front" "I", Cond.methodLink RX0 116 yX0_seeBoxes, Cond.instanceMethod yX0_seeBoxes, Cond.selects RX0 yX0_seeBoxes yX0_seeBoxes, Cond.code yX0_seeBoxes cX0_seeBoxes 3 none, Cond.fieldLink RX0 134 "BeltMarks$Box" "seen" "Z", Cond.methodLink RX0 138 yX0_addReport, Cond.instanceMethod yX0_addReport, Cond.selects RX0 yX0_addReport yX0_addReport, Cond.code yX0_addReport cX0_addReport 2 none, Cond.methodLink RX0 119 yX0_countPlansDown, Cond.instanceMethod yX0_countPlansDown, Cond.selects RX0 yX0_countPlansDown yX0_countPlansDown, Cond.code yX0_countPlansDown cX0_countPlansDown 2 none, Cond.methodLink RX0 122 yX0_takeReports, Cond.instanceMethod yX0_takeReports, Cond.selects RX0 yX0_takeReports yX0_takeReports, Cond.code yX0_takeReports cX0_takeReports 3 none, Cond.methodLink RX0 141 yX0_addPlan, Cond.instanceMethod yX0_addPlan, Cond.selects RX0 yX0_addPlan yX0_addPlan, Cond.code yX0_addPlan cX0_addPlan 2 none]
def wsL_isForeseen_r4 : List Cond := [Cond.methodLink RX0 144 yX0_guessedWay, Cond.instanceMethod yX0_guessedWay, Cond.selects RX0 yX0_guessedWay yX0_guessedWay, Cond.code yX0_guessedWay cX0_guessedWay 3 (some .int), Cond.methodLink RX0 125 yX0_doPlans, Cond.instanceMethod yX0_doPlans, Cond.selects RX0 yX0_doPlans yX0_doPlans, Cond.code yX0_doPlans cX0_doPlans 3 none, Cond.methodLink RX0 147 yX0_useLabel, Cond.instanceMethod yX0_useLabel, Cond.selects RX0 yX0_useLabel yX0_useLabel, Cond.code yX0_useLabel cX0_useLabel 2 none, Cond.methodLink RX0 150 yX1_liesUnder, Cond.instanceMethod yX1_liesUnder, Cond.selects RX1 yX1_liesUnder yX1_liesUnder, Cond.code yX1_liesUnder cX1_liesUnder 2 (some .boolean), Cond.methodLink RX0 153 yX0_markBox, Cond.instanceMethod yX0_markBox, Cond.selects RX0 yX0_markBox yX0_markBox, Cond.code yX0_markBox cX0_markBox 2 none, Cond.fieldLink RX0 156 "BeltMarks$Box" "marked" "Z", Cond.fieldLink RX0 159 "BeltMarks$Box" "twice" "Z", Cond.fieldLink RX0 162 "BeltMarks$Box" "mark" "I", Cond.methodLink RX0 128 yX0_feed]
def wsL_isForeseen_r5 : List Cond := [Cond.instanceMethod yX0_feed, Cond.selects RX0 yX0_feed yX0_feed, Cond.code yX0_feed cX0_feed 1 none, Cond.methodLink RX0 165 Lib.Math.min.name, Cond.static Lib.Math.min.name, Cond.initialized "java/lang/Math", Cond.code Lib.Math.min.name Lib.Math.min.code 2 (some .int), Cond.methodLink RX0 131 yX0_letBoxesLeave, Cond.instanceMethod yX0_letBoxesLeave, Cond.selects RX0 yX0_letBoxesLeave yX0_letBoxesLeave, Cond.code yX0_letBoxesLeave cX0_letBoxesLeave 4 none, Cond.methodLink RX0 75 yX1_back, Cond.instanceMethod yX1_back, Cond.selects RX1 yX1_back yX1_back, Cond.code yX1_back cX1_back 1 (some .int), Cond.methodLink RX0 168 yX0_fate, Cond.instanceMethod yX0_fate, Cond.selects RX0 yX0_fate yX0_fate, Cond.code yX0_fate cX0_fate 3 (some .int), Cond.methodLink RX0 172 Lib.Math.abs.name, Cond.static Lib.Math.abs.name, Cond.code Lib.Math.abs.name Lib.Math.abs.code 1 (some .int), Cond.methodLink RX4 81 yX0_number, Cond.instanceMethod yX0_number]
def wsL_isForeseen_r6 : List Cond := [Cond.selects RX0 yX0_number yX0_number, Cond.code yX0_number cX0_number 3 (some .int), Cond.methodLink RL 45 yX4_bestGuess, Cond.instanceMethod yX4_bestGuess, Cond.selects RX4 yX4_bestGuess yX4_bestGuess, Cond.code yX4_bestGuess cX4_bestGuess 7 (some .int), Cond.methodLink RX4 99 yX4_goodWithGuess, Cond.instanceMethod yX4_goodWithGuess, Cond.selects RX4 yX4_goodWithGuess yX4_goodWithGuess, Cond.code yX4_goodWithGuess cX4_goodWithGuess 3 (some .int), Cond.fieldLink RX4 106 "BeltMarks$Belt" "settings" "[I", Cond.methodLink RL 21 yX4_pass, Cond.instanceMethod yX4_pass, Cond.selects RX4 yX4_pass yX4_pass, Cond.code yX4_pass cX4_pass 2 (some .int), Cond.fieldLink RX4 22 "BeltMarks" "history" "LBeltMarks$History;", Cond.methodLink RX4 41 yX2_note, Cond.instanceMethod yX2_note, Cond.selects RX2 yX2_note yX2_note, Cond.initialized RX2, Cond.code yX2_note cX2_note 2 none, Cond.fieldLink RX2 26 "BeltMarks$History" "size" "I", Cond.methodLink RX2 29 yX2_stateAt, Cond.instanceMethod yX2_stateAt]
def wsL_isForeseen_r7 : List Cond := [Cond.selects RX2 yX2_stateAt yX2_stateAt, Cond.code yX2_stateAt cX2_stateAt 2 (some (.object "BeltMarks$Belt")), Cond.fieldLink RX2 11 "BeltMarks$History" "states" "[LBeltMarks$Belt;", Cond.fieldLink RX2 16 "BeltMarks$History" "oldest" "I", Cond.methodLink RX2 20 yJ9_floorMod_7cf53, Cond.static yJ9_floorMod_7cf53, Cond.initialized RJ9, Cond.code yJ9_floorMod_7cf53 cJ9_floorMod_7cf53 3 (some .int), Cond.methodLink RX2 33 yX0_copyFrom, Cond.methodLink RX4 59 yX0_letPass, Cond.instanceMethod yX0_letPass, Cond.selects RX0 yX0_letPass yX0_letPass, Cond.code yX0_letPass cX0_letPass 3 (some .int), Cond.methodLink RX0 102 yX0_howManyLeft, Cond.instanceMethod yX0_howManyLeft, Cond.selects RX0 yX0_howManyLeft yX0_howManyLeft, Cond.code yX0_howManyLeft cX0_howManyLeft 1 (some .int), Cond.methodLink RX0 105 yX0_tickOn, Cond.methodLink RX4 49 yX4_recorded, Cond.instanceMethod yX4_recorded, Cond.selects RX4 yX4_recorded yX4_recorded, Cond.code yX4_recorded cX4_recorded 2 (some .int), Cond.methodLink RX4 62 yX2_keepNoted, Cond.instanceMethod yX2_keepNoted]
def wsL_isForeseen_r8 : List Cond := [Cond.selects RX2 yX2_keepNoted yX2_keepNoted, Cond.code yX2_keepNoted cX2_keepNoted 1 none, Cond.methodLink RL 48 yX4_undo, Cond.instanceMethod yX4_undo, Cond.selects RX4 yX4_undo yX4_undo, Cond.code yX4_undo cX4_undo 1 (some .int), Cond.fieldLink RX4 78 "BeltMarks$History" "size" "I", Cond.methodLink RX4 136 yX2_takeBack, Cond.instanceMethod yX2_takeBack, Cond.selects RX2 yX2_takeBack yX2_takeBack, Cond.code yX2_takeBack cX2_takeBack 2 none]
def wsL_isForeseen : List Cond := .code yL_isForeseen cL_isForeseen 9 (some .boolean) :: ((wsL_isForeseen_r1 ++ (wsL_isForeseen_r2 ++ (wsL_isForeseen_r3 ++ (wsL_isForeseen_r4 ++ (wsL_isForeseen_r5 ++ (wsL_isForeseen_r6 ++ (wsL_isForeseen_r7 ++ wsL_isForeseen_r8))))))) ++ wsX40 ++ wsX00 ++ wsX10 ++ wsX20)
def wsL_law_r1 : List Cond := [Cond.classLink RL 16 RX4, Cond.instantiable RX4 6, Cond.initialized RX4, Cond.methodLink RL 52 yX4_init, Cond.instanceMethod yX4_init, Cond.code yX4_init cX4_init 1 none, Cond.methodLink RX4 1 objectInit, Cond.instanceMethod objectInit, Cond.code objectInit ⟨#[0xb1]⟩ 1 none, Cond.classLink RX4 7 RX0, Cond.instantiable RX0 10, Cond.initialized RX0, Cond.fieldLink RX4 10 "BeltMarks" "belt" "LBeltMarks$Belt;", Cond.fieldLink RX4 16 "BeltMarks" "trial" "LBeltMarks$Belt;", Cond.classLink RX4 19 RX2, Cond.instantiable RX2 3, Cond.initialized RX2, Cond.fieldLink RX4 22 "BeltMarks" "history" "LBeltMarks$History;", Cond.fieldLink RX4 26 "BeltMarks" "slots" "[LBeltMarks$Belt;", Cond.arrayClass .boolean, Cond.fieldLink RX4 30 "BeltMarks" "saved" "[Z", Cond.classLink RX4 34 RX3, Cond.instantiable RX3 2, Cond.initialized RX3]
def wsL_law_r2 : List Cond := [Cond.fieldLink RX4 37 "BeltMarks" "pad" "LBeltMarks$Pad;", Cond.methodLink RX4 9 yX0_init, Cond.instanceMethod yX0_init, Cond.code yX0_init cX0_init 2 none, Cond.methodLink RX0 5 objectInit, Cond.fieldLink RX0 11 "BeltMarks$Belt" "AT_FIRST" "[I", Cond.methodLink RX0 15 ⟨"[I", "clone", "()Ljava/lang/Object;"⟩, Cond.sameMethod "[I" "java/lang/Object" "clone" "()Ljava/lang/Object;", Cond.native ⟨"java/lang/Object", "clone", "()Ljava/lang/Object;"⟩, Cond.instanceMethod ⟨"java/lang/Object", "clone", "()Ljava/lang/Object;"⟩, Cond.selects "[I" ⟨"[I", "clone", "()Ljava/lang/Object;"⟩ ⟨"java/lang/Object", "clone", "()Ljava/lang/Object;"⟩, Cond.classLink RX0 16 "[I", Cond.fieldLink RX0 20 "BeltMarks$Belt" "settings" "[I", Cond.arrayClass .int, Cond.fieldLink RX0 23 "BeltMarks$Belt" "tallies" "[I", Cond.classLink RX0 26 RX1, Cond.fieldLink RX0 28 "BeltMarks$Belt" "boxes" "[LBeltMarks$Box;", Cond.fieldLink RX0 32 "BeltMarks$Belt" "comes" "[I", Cond.fieldLink RX0 35 "BeltMarks$Belt" "excesses" "[I", Cond.fieldLink RX0 38 "BeltMarks$Belt" "plans" "[I", Cond.fieldLink RX0 41 "BeltMarks$Belt" "ways" "[I", Cond.instantiable RX1 7, Cond.initialized RX1, Cond.instanceMethod yX1_init]
def wsL_law_r3 : List Cond := [Cond.code yX1_init cX1_init 1 none, Cond.methodLink RX1 3 objectInit, Cond.methodLink RX4 21 yX2_init, Cond.instanceMethod yX2_init, Cond.code yX2_init cX2_init 2 none, Cond.methodLink RX2 3 objectInit, Cond.classLink RX2 9 RX0, Cond.fieldLink RX2 11 "BeltMarks$History" "states" "[LBeltMarks$Belt;", Cond.methodLink RX2 15 yX0_init, Cond.instanceMethod yX3_init, Cond.code yX3_init cX3_init 1 none, Cond.methodLink RX3 3 objectInit, Cond.arrayClass .char, Cond.fieldLink RX3 11 "BeltMarks$Pad" "signs" "[C", Cond.methodLink RL 53 yL_cell, Cond.static yL_cell, Cond.initialized RL, Cond.code yL_cell cL_cell 2 (some .int), Cond.constant RL 7 (556226971), Cond.methodLink RL 57 yL_isStep, Cond.static yL_isStep, Cond.code yL_isStep cL_isStep 8 (some .boolean), Cond.methodLink RL 9 yL_up, Cond.static yL_up]
def wsL_law_r4 : List Cond := [Cond.code yL_up cL_up 2 (some .int), Cond.constant RL 8 (2147483647), Cond.methodLink RL 15 yX4_arrive, Cond.instanceMethod yX4_arrive, Cond.selects RX4 yX4_arrive yX4_arrive, Cond.code yX4_arrive cX4_arrive 2 (some .int), Cond.methodLink RX4 41 yX2_note, Cond.instanceMethod yX2_note, Cond.selects RX2 yX2_note yX2_note, Cond.code yX2_note cX2_note 2 none, Cond.fieldLink RX2 26 "BeltMarks$History" "size" "I", Cond.methodLink RX2 29 yX2_stateAt, Cond.instanceMethod yX2_stateAt, Cond.selects RX2 yX2_stateAt yX2_stateAt, Cond.code yX2_stateAt cX2_stateAt 2 (some (.object "BeltMarks$Belt")), Cond.fieldLink RX2 16 "BeltMarks$History" "oldest" "I", Cond.methodLink RX2 20 yJ9_floorMod_7cf53, Cond.static yJ9_floorMod_7cf53, Cond.initialized RJ9, Cond.code yJ9_floorMod_7cf53 cJ9_floorMod_7cf53 3 (some .int), Cond.methodLink RX2 33 yX0_copyFrom, Cond.instanceMethod yX0_copyFrom, Cond.selects RX0 yX0_copyFrom yX0_copyFrom, Cond.code yX0_copyFrom cX0_copyFrom 3 none]
def wsL_law_r5 : List Cond := [Cond.methodLink RX0 45 arraycopyName, Cond.native arraycopyName, Cond.static arraycopyName, Cond.initialized "java/lang/System", Cond.fieldLink RX0 51 "BeltMarks$Belt" "boxCount" "I", Cond.fieldLink RX0 59 "BeltMarks$Belt" "reportCount" "I", Cond.fieldLink RX0 62 "BeltMarks$Belt" "planCount" "I", Cond.methodLink RX0 55 yX1_copyFrom, Cond.instanceMethod yX1_copyFrom, Cond.selects RX1 yX1_copyFrom yX1_copyFrom, Cond.code yX1_copyFrom cX1_copyFrom 2 none, Cond.fieldLink RX1 11 "BeltMarks$Box" "front" "I", Cond.fieldLink RX1 15 "BeltMarks$Box" "length" "I", Cond.fieldLink RX1 18 "BeltMarks$Box" "seen" "Z", Cond.fieldLink RX1 22 "BeltMarks$Box" "marked" "Z", Cond.fieldLink RX1 25 "BeltMarks$Box" "mark" "I", Cond.fieldLink RX1 28 "BeltMarks$Box" "twice" "Z", Cond.fieldLink RX1 31 "BeltMarks$Box" "number" "I", Cond.methodLink RX4 53 yX0_takeBox, Cond.instanceMethod yX0_takeBox, Cond.selects RX0 yX0_takeBox yX0_takeBox, Cond.code yX0_takeBox cX0_takeBox 2 (some .int), Cond.methodLink RX0 71 yX1_canHave, Cond.static yX1_canHave]
def wsL_law_r6 : List Cond := [Cond.code yX1_canHave cX1_canHave 1 (some .boolean), Cond.methodLink RX0 75 yX1_back, Cond.instanceMethod yX1_back, Cond.selects RX1 yX1_back yX1_back, Cond.code yX1_back cX1_back 1 (some .int), Cond.methodLink RX0 79 yX1_begin, Cond.instanceMethod yX1_begin, Cond.selects RX1 yX1_begin yX1_begin, Cond.code yX1_begin cX1_begin 3 none, Cond.methodLink RX4 49 yX4_recorded, Cond.instanceMethod yX4_recorded, Cond.selects RX4 yX4_recorded yX4_recorded, Cond.code yX4_recorded cX4_recorded 2 (some .int), Cond.methodLink RX4 62 yX2_keepNoted, Cond.instanceMethod yX2_keepNoted, Cond.selects RX2 yX2_keepNoted yX2_keepNoted, Cond.code yX2_keepNoted cX2_keepNoted 1 none, Cond.methodLink RL 21 yX4_pass, Cond.instanceMethod yX4_pass, Cond.selects RX4 yX4_pass yX4_pass, Cond.code yX4_pass cX4_pass 2 (some .int), Cond.methodLink RX4 59 yX0_letPass, Cond.instanceMethod yX0_letPass, Cond.selects RX0 yX0_letPass yX0_letPass]
def wsL_law_r7 : List Cond := [Cond.code yX0_letPass cX0_letPass 3 (some .int), Cond.methodLink RX0 102 yX0_howManyLeft, Cond.instanceMethod yX0_howManyLeft, Cond.selects RX0 yX0_howManyLeft yX0_howManyLeft, Cond.code yX0_howManyLeft cX0_howManyLeft 1 (some .int), Cond.methodLink RX0 105 yX0_tickOn, Cond.instanceMethod yX0_tickOn, Cond.selects RX0 yX0_tickOn yX0_tickOn, Cond.code yX0_tickOn cX0_tickOn 3 none, Cond.methodLink RX0 113 yX0_moveOn, Cond.instanceMethod yX0_moveOn, Cond.selects RX0 yX0_moveOn yX0_moveOn, Cond.code yX0_moveOn cX0_moveOn 3 none, Cond.fieldLink RX0 86 "BeltMarks$Box" "front" "I", Cond.methodLink RX0 116 yX0_seeBoxes, Cond.instanceMethod yX0_seeBoxes, Cond.selects RX0 yX0_seeBoxes yX0_seeBoxes, Cond.code yX0_seeBoxes cX0_seeBoxes 3 none, Cond.fieldLink RX0 134 "BeltMarks$Box" "seen" "Z", Cond.methodLink RX0 138 yX0_addReport, Cond.instanceMethod yX0_addReport, Cond.selects RX0 yX0_addReport yX0_addReport, Cond.code yX0_addReport cX0_addReport 2 none, Cond.methodLink RX0 119 yX0_countPlansDown]
def wsL_law_r8 : List Cond := [Cond.instanceMethod yX0_countPlansDown, Cond.selects RX0 yX0_countPlansDown yX0_countPlansDown, Cond.code yX0_countPlansDown cX0_countPlansDown 2 none, Cond.methodLink RX0 122 yX0_takeReports, Cond.instanceMethod yX0_takeReports, Cond.selects RX0 yX0_takeReports yX0_takeReports, Cond.code yX0_takeReports cX0_takeReports 3 none, Cond.methodLink RX0 141 yX0_addPlan, Cond.instanceMethod yX0_addPlan, Cond.selects RX0 yX0_addPlan yX0_addPlan, Cond.code yX0_addPlan cX0_addPlan 2 none, Cond.methodLink RX0 144 yX0_guessedWay, Cond.instanceMethod yX0_guessedWay, Cond.selects RX0 yX0_guessedWay yX0_guessedWay, Cond.code yX0_guessedWay cX0_guessedWay 3 (some .int), Cond.methodLink RX0 125 yX0_doPlans, Cond.instanceMethod yX0_doPlans, Cond.selects RX0 yX0_doPlans yX0_doPlans, Cond.code yX0_doPlans cX0_doPlans 3 none, Cond.methodLink RX0 147 yX0_useLabel, Cond.instanceMethod yX0_useLabel, Cond.selects RX0 yX0_useLabel yX0_useLabel, Cond.code yX0_useLabel cX0_useLabel 2 none, Cond.methodLink RX0 150 yX1_liesUnder]
def wsL_law_r9 : List Cond := [Cond.instanceMethod yX1_liesUnder, Cond.selects RX1 yX1_liesUnder yX1_liesUnder, Cond.code yX1_liesUnder cX1_liesUnder 2 (some .boolean), Cond.methodLink RX0 153 yX0_markBox, Cond.instanceMethod yX0_markBox, Cond.selects RX0 yX0_markBox yX0_markBox, Cond.code yX0_markBox cX0_markBox 2 none, Cond.fieldLink RX0 156 "BeltMarks$Box" "marked" "Z", Cond.fieldLink RX0 159 "BeltMarks$Box" "twice" "Z", Cond.fieldLink RX0 162 "BeltMarks$Box" "mark" "I", Cond.methodLink RX0 128 yX0_feed, Cond.instanceMethod yX0_feed, Cond.selects RX0 yX0_feed yX0_feed, Cond.code yX0_feed cX0_feed 1 none, Cond.methodLink RX0 165 Lib.Math.min.name, Cond.static Lib.Math.min.name, Cond.initialized "java/lang/Math", Cond.code Lib.Math.min.name Lib.Math.min.code 2 (some .int), Cond.methodLink RX0 131 yX0_letBoxesLeave, Cond.instanceMethod yX0_letBoxesLeave, Cond.selects RX0 yX0_letBoxesLeave yX0_letBoxesLeave, Cond.code yX0_letBoxesLeave cX0_letBoxesLeave 4 none, Cond.methodLink RX0 168 yX0_fate, Cond.instanceMethod yX0_fate]
def wsL_law_r10 : List Cond := [Cond.selects RX0 yX0_fate yX0_fate, Cond.code yX0_fate cX0_fate 3 (some .int), Cond.methodLink RX0 172 Lib.Math.abs.name, Cond.static Lib.Math.abs.name, Cond.code Lib.Math.abs.name Lib.Math.abs.code 1 (some .int), Cond.methodLink RL 24 yX4_turn, Cond.instanceMethod yX4_turn, Cond.selects RX4 yX4_turn yX4_turn, Cond.code yX4_turn cX4_turn 3 (some .int), Cond.methodLink RX4 56 yX0_turnBox, Cond.instanceMethod yX0_turnBox, Cond.selects RX0 yX0_turnBox yX0_turnBox, Cond.code yX0_turnBox cX0_turnBox 5 (some .int), Cond.fieldLink RX0 89 "BeltMarks$Box" "length" "I", Cond.methodLink RX0 83 yX0_isBox, Cond.instanceMethod yX0_isBox, Cond.selects RX0 yX0_isBox yX0_isBox, Cond.code yX0_isBox cX0_isBox 2 (some .boolean), Cond.methodLink RX0 92 yJ9_floorDiv_7cf53, Cond.static yJ9_floorDiv_7cf53, Cond.code yJ9_floorDiv_7cf53 cJ9_floorDiv_7cf53 3 (some .int), Cond.methodLink RX0 98 yX0_hasRoom, Cond.instanceMethod yX0_hasRoom, Cond.selects RX0 yX0_hasRoom yX0_hasRoom]
def wsL_law_r11 : List Cond := [Cond.code yX0_hasRoom cX0_hasRoom 4 (some .boolean), Cond.methodLink RL 27 yX4_set, Cond.instanceMethod yX4_set, Cond.selects RX4 yX4_set yX4_set, Cond.code yX4_set cX4_set 3 (some .int), Cond.methodLink RX4 45 yX0_choose, Cond.instanceMethod yX0_choose, Cond.selects RX0 yX0_choose yX0_choose, Cond.code yX0_choose cX0_choose 4 (some .int), Cond.fieldLink RX0 65 "BeltMarks$Belt" "LOWEST" "[I", Cond.fieldLink RX0 68 "BeltMarks$Belt" "HIGHEST" "[I", Cond.methodLink RL 61 yL_isWell, Cond.static yL_isWell, Cond.code yL_isWell cL_isWell 10 (some .boolean), Cond.methodLink RL 30 yX4_count, Cond.instanceMethod yX4_count, Cond.selects RX4 yX4_count yX4_count, Cond.code yX4_count cX4_count 2 (some .int), Cond.fieldLink RX4 74 "BeltMarks$Pad" "length" "I", Cond.fieldLink RX4 78 "BeltMarks$History" "size" "I", Cond.methodLink RX4 81 yX0_number, Cond.instanceMethod yX0_number, Cond.selects RX0 yX0_number yX0_number, Cond.code yX0_number cX0_number 3 (some .int)]
def wsL_law_r12 : List Cond := [Cond.methodLink RL 33 yX4_box, Cond.instanceMethod yX4_box, Cond.selects RX4 yX4_box yX4_box, Cond.code yX4_box cX4_box 3 (some .int), Cond.methodLink RX4 65 yX0_aboutBox, Cond.instanceMethod yX0_aboutBox, Cond.selects RX0 yX0_aboutBox yX0_aboutBox, Cond.code yX0_aboutBox cX0_aboutBox 3 (some .int), Cond.methodLink RX0 109 yX1_tell, Cond.instanceMethod yX1_tell, Cond.selects RX1 yX1_tell yX1_tell, Cond.code yX1_tell cX1_tell 2 (some .int), Cond.methodLink RL 36 yX4_plan, Cond.instanceMethod yX4_plan, Cond.selects RX4 yX4_plan yX4_plan, Cond.code yX4_plan cX4_plan 2 (some .int), Cond.methodLink RX4 68 yX0_planAt, Cond.instanceMethod yX0_planAt, Cond.selects RX0 yX0_planAt yX0_planAt, Cond.code yX0_planAt cX0_planAt 2 (some .int), Cond.methodLink RL 39 yX4_report, Cond.instanceMethod yX4_report, Cond.selects RX4 yX4_report yX4_report, Cond.code yX4_report cX4_report 3 (some .int)]
def wsL_law_r13 : List Cond := [Cond.methodLink RX4 71 yX0_aboutReport, Cond.instanceMethod yX0_aboutReport, Cond.selects RX0 yX0_aboutReport yX0_aboutReport, Cond.code yX0_aboutReport cX0_aboutReport 3 (some .int), Cond.methodLink RL 65 yL_isForeseen, Cond.static yL_isForeseen, Cond.code yL_isForeseen cL_isForeseen 9 (some .boolean), Cond.methodLink RL 42 yX4_ifPass, Cond.instanceMethod yX4_ifPass, Cond.selects RX4 yX4_ifPass yX4_ifPass, Cond.code yX4_ifPass cX4_ifPass 3 (some .int), Cond.fieldLink RX4 88 "BeltMarks" "FORESEEN" "[I", Cond.methodLink RX4 84 yX4_canTry, Cond.static yX4_canTry, Cond.code yX4_canTry cX4_canTry 1 (some .boolean), Cond.methodLink RX4 92 yX0_copyFrom, Cond.methodLink RX4 95 yX0_tickOn, Cond.methodLink RL 45 yX4_bestGuess, Cond.instanceMethod yX4_bestGuess, Cond.selects RX4 yX4_bestGuess yX4_bestGuess, Cond.code yX4_bestGuess cX4_bestGuess 7 (some .int), Cond.methodLink RX4 99 yX4_goodWithGuess, Cond.instanceMethod yX4_goodWithGuess, Cond.selects RX4 yX4_goodWithGuess yX4_goodWithGuess]
def wsL_law_r14 : List Cond := [Cond.code yX4_goodWithGuess cX4_goodWithGuess 3 (some .int), Cond.fieldLink RX4 106 "BeltMarks$Belt" "settings" "[I", Cond.methodLink RL 48 yX4_undo, Cond.instanceMethod yX4_undo, Cond.selects RX4 yX4_undo yX4_undo, Cond.code yX4_undo cX4_undo 1 (some .int), Cond.methodLink RX4 136 yX2_takeBack, Cond.instanceMethod yX2_takeBack, Cond.selects RX2 yX2_takeBack yX2_takeBack, Cond.code yX2_takeBack cX2_takeBack 2 none]
def wsL_law : List Cond := (wsL_law_r1 ++ (wsL_law_r2 ++ (wsL_law_r3 ++ (wsL_law_r4 ++ (wsL_law_r5 ++ (wsL_law_r6 ++ (wsL_law_r7 ++ (wsL_law_r8 ++ (wsL_law_r9 ++ (wsL_law_r10 ++ (wsL_law_r11 ++ (wsL_law_r12 ++ (wsL_law_r13 ++ wsL_law_r14))))))))))))) ++ wsX40 ++ wsX00 ++ wsX20 ++ wsX30 ++ wsX10 ++ ([] : List Cond)
set_option maxRecDepth 20000 in
theorem wsL_in_r1 : GoodIn lw_tbl wsL_law_r1 := goodIn_p wsL_law_r1 [31, 34] (by decide +kernel) (by decide +kernel)
set_option maxRecDepth 20000 in
theorem wsL_in_r2 : GoodIn lw_tbl wsL_law_r2 := goodIn_p wsL_law_r2 [39] (by decide +kernel) (by decide +kernel)
set_option maxRecDepth 20000 in
theorem wsL_in_r3 : GoodIn lw_tbl wsL_law_r3 := goodIn_p wsL_law_r3 [55, 122, 142, 174, 182] (by decide +kernel) (by decide +kernel)
set_option maxRecDepth 20000 in
theorem wsL_in_r4 : GoodIn lw_tbl wsL_law_r4 := goodIn_p wsL_law_r4 [178, 186, 190, 194, 197, 201] (by decide +kernel) (by decide +kernel)
set_option maxRecDepth 20000 in
theorem wsL_in_r5 : GoodIn lw_tbl wsL_law_r5 := goodIn_p wsL_law_r5 [208, 212] (by decide +kernel) (by decide +kernel)
set_option maxRecDepth 20000 in
theorem wsL_in_r6 : GoodIn lw_tbl wsL_law_r6 := goodIn_p wsL_law_r6 [215, 219, 223, 227, 231, 235] (by decide +kernel) (by decide +kernel)
set_option maxRecDepth 20000 in
theorem wsL_in_r7 : GoodIn lw_tbl wsL_law_r7 := goodIn_p wsL_law_r7 [239, 243, 247, 251, 255, 259] (by decide +kernel) (by decide +kernel)
set_option maxRecDepth 20000 in
theorem wsL_in_r8 : GoodIn lw_tbl wsL_law_r8 := goodIn_p wsL_law_r8 [263, 267, 271, 275, 279, 283] (by decide +kernel) (by decide +kernel)
set_option maxRecDepth 20000 in
theorem wsL_in_r9 : GoodIn lw_tbl wsL_law_r9 := goodIn_p wsL_law_r9 [287, 291, 295, 298, 302] (by decide +kernel) (by decide +kernel)
set_option maxRecDepth 20000 in
theorem wsL_in_r10 : GoodIn lw_tbl wsL_law_r10 := goodIn_p wsL_law_r10 [306, 309, 313, 317, 321, 324] (by decide +kernel) (by decide +kernel)
set_option maxRecDepth 20000 in
theorem wsL_in_r11 : GoodIn lw_tbl wsL_law_r11 := goodIn_p wsL_law_r11 [328, 332, 336, 343, 347, 351] (by decide +kernel) (by decide +kernel)
set_option maxRecDepth 20000 in
theorem wsL_in_r12 : GoodIn lw_tbl wsL_law_r12 := goodIn_p wsL_law_r12 [355, 359, 363, 367, 371, 375] (by decide +kernel) (by decide +kernel)
set_option maxRecDepth 20000 in
theorem wsL_in_r13 : GoodIn lw_tbl wsL_law_r13 := goodIn_p wsL_law_r13 [379, 382, 386, 389, 397] (by decide +kernel) (by decide +kernel)
set_option maxRecDepth 20000 in
theorem wsL_in_r14 : GoodIn lw_tbl wsL_law_r14 := goodIn_p wsL_law_r14 [401, 405, 409] (by decide +kernel) (by decide +kernel)
set_option maxRecDepth 20000 in
theorem wsL_in_X4 : ∀ w ∈ wsX40, w ∈ lw_tbl := by decide +kernel
set_option maxRecDepth 20000 in
theorem wsL_in_X0 : ∀ w ∈ wsX00, w ∈ lw_tbl := by decide +kernel
set_option maxRecDepth 20000 in
theorem wsL_in_X2 : ∀ w ∈ wsX20, w ∈ lw_tbl := by decide +kernel
set_option maxRecDepth 20000 in
theorem wsL_in_X3 : ∀ w ∈ wsX30, w ∈ lw_tbl := by decide +kernel
set_option maxRecDepth 20000 in
theorem wsL_in_X1 : ∀ w ∈ wsX10, w ∈ lw_tbl := by decide +kernel
theorem wsL_law_in : ∀ w ∈ wsL_law, w ∈ lw_tbl := by
  intro w h
  unfold wsL_law at h
  have h := (List.mem_append.mp h).elim id (fun q => absurd q List.not_mem_nil)
  rcases List.mem_append.mp h with h | h
  rotate_left
  · exact wsL_in_X1 w h
  rcases List.mem_append.mp h with h | h
  rotate_left
  · exact wsL_in_X3 w h
  rcases List.mem_append.mp h with h | h
  rotate_left
  · exact wsL_in_X2 w h
  rcases List.mem_append.mp h with h | h
  rotate_left
  · exact wsL_in_X0 w h
  rcases List.mem_append.mp h with h | h
  rotate_left
  · exact wsL_in_X4 w h
  rcases List.mem_append.mp h with h | h
  · exact (wsL_in_r1 w h).1
  rcases List.mem_append.mp h with h | h
  · exact (wsL_in_r2 w h).1
  rcases List.mem_append.mp h with h | h
  · exact (wsL_in_r3 w h).1
  rcases List.mem_append.mp h with h | h
  · exact (wsL_in_r4 w h).1
  rcases List.mem_append.mp h with h | h
  · exact (wsL_in_r5 w h).1
  rcases List.mem_append.mp h with h | h
  · exact (wsL_in_r6 w h).1
  rcases List.mem_append.mp h with h | h
  · exact (wsL_in_r7 w h).1
  rcases List.mem_append.mp h with h | h
  · exact (wsL_in_r8 w h).1
  rcases List.mem_append.mp h with h | h
  · exact (wsL_in_r9 w h).1
  rcases List.mem_append.mp h with h | h
  · exact (wsL_in_r10 w h).1
  rcases List.mem_append.mp h with h | h
  · exact (wsL_in_r11 w h).1
  rcases List.mem_append.mp h with h | h
  · exact (wsL_in_r12 w h).1
  rcases List.mem_append.mp h with h | h
  · exact (wsL_in_r13 w h).1
  exact (wsL_in_r14 w h).1
theorem inlX0 : ∀ w ∈ wsX00, w ∈ wsL_law := fun _ h => List.mem_append_left _ (List.mem_append_left _ (List.mem_append_left _ (List.mem_append_left _ (List.mem_append_right _ h))))
theorem inX0 : ∀ w ∈ wsX00, w ∈ lw_tbl := fun w h => wsL_law_in w (inlX0 w h)
theorem inlX1 : ∀ w ∈ wsX10, w ∈ wsL_law := fun _ h => List.mem_append_left _ (List.mem_append_right _ h)
theorem inX1 : ∀ w ∈ wsX10, w ∈ lw_tbl := fun w h => wsL_law_in w (inlX1 w h)
theorem inlX2 : ∀ w ∈ wsX20, w ∈ wsL_law := fun _ h => List.mem_append_left _ (List.mem_append_left _ (List.mem_append_left _ (List.mem_append_right _ h)))
theorem inX2 : ∀ w ∈ wsX20, w ∈ lw_tbl := fun w h => wsL_law_in w (inlX2 w h)
theorem inlX3 : ∀ w ∈ wsX30, w ∈ wsL_law := fun _ h => List.mem_append_left _ (List.mem_append_left _ (List.mem_append_right _ h))
theorem inX3 : ∀ w ∈ wsX30, w ∈ lw_tbl := fun w h => wsL_law_in w (inlX3 w h)
theorem inlX4 : ∀ w ∈ wsX40, w ∈ wsL_law := fun _ h => List.mem_append_left _ (List.mem_append_left _ (List.mem_append_left _ (List.mem_append_left _ (List.mem_append_left _ (List.mem_append_right _ h)))))
theorem inX4 : ∀ w ∈ wsX40, w ∈ lw_tbl := fun w h => wsL_law_in w (inlX4 w h)
theorem inX5 : ∀ w ∈ wsX50, w ∈ lw_tbl := by decide +kernel
theorem inJx8e188 : ∀ w ∈ wsJx8e1880, w ∈ lw_tbl := by decide +kernel
theorem inJ9 : ∀ w ∈ wsJ90, w ∈ lw_tbl := by decide +kernel
theorem inJ10 : ∀ w ∈ wsJ100, w ∈ lw_tbl := by decide +kernel
abbrev vwCl : List vw_C := [(RX0, TX0, 10), (RX1, TX1, 7), (RX2, TX2, 3), (RX3, TX3, 2), (RX4, TX4, 6)]
end
section
set_option maxRecDepth 20000 in
theorem ggX0_init_X1_init : GoodIn wsX0_init wsX1_init := goodIn_r _ [23, 24, 2, 3] (by decide +kernel) (by decide +kernel)
set_option maxRecDepth 20000 in
theorem gX0_init_X1_init_n44 : GoodIn wsX0_init (wsX1_init) := ggX0_init_X1_init
theorem dX0_init_0 : decode cX0_init 0 = .ok (.aload_n 0, 1) := by decide +kernel
theorem dX0_init_1 : decode cX0_init 1 = .ok (.invokespecial 5, 3) := by decide +kernel
theorem dX0_init_4 : decode cX0_init 4 = .ok (.aload_n 0, 1) := by decide +kernel
theorem dX0_init_5 : decode cX0_init 5 = .ok (.getstatic 11, 3) := by decide +kernel
theorem dX0_init_8 : decode cX0_init 8 = .ok (.invokevirtual 15, 3) := by decide +kernel
theorem dX0_init_11 : decode cX0_init 11 = .ok (.checkcast 16, 3) := by decide +kernel
theorem dX0_init_14 : decode cX0_init 14 = .ok (.putfield 20, 3) := by decide +kernel
theorem dX0_init_17 : decode cX0_init 17 = .ok (.aload_n 0, 1) := by decide +kernel
theorem dX0_init_18 : decode cX0_init 18 = .ok (.bipush 14, 2) := by decide +kernel
theorem dX0_init_20 : decode cX0_init 20 = .ok (.newarray .int, 2) := by decide +kernel
theorem dX0_init_22 : decode cX0_init 22 = .ok (.putfield 23, 3) := by decide +kernel
theorem dX0_init_25 : decode cX0_init 25 = .ok (.aload_n 0, 1) := by decide +kernel
theorem dX0_init_26 : decode cX0_init 26 = .ok (.bipush 8, 2) := by decide +kernel
theorem dX0_init_28 : decode cX0_init 28 = .ok (.anewarray 26, 3) := by decide +kernel
theorem dX0_init_31 : decode cX0_init 31 = .ok (.putfield 28, 3) := by decide +kernel
theorem dX0_init_34 : decode cX0_init 34 = .ok (.aload_n 0, 1) := by decide +kernel
theorem dX0_init_35 : decode cX0_init 35 = .ok (.bipush 32, 2) := by decide +kernel
theorem dX0_init_37 : decode cX0_init 37 = .ok (.newarray .int, 2) := by decide +kernel
theorem dX0_init_39 : decode cX0_init 39 = .ok (.putfield 32, 3) := by decide +kernel
theorem dX0_init_42 : decode cX0_init 42 = .ok (.aload_n 0, 1) := by decide +kernel
theorem dX0_init_43 : decode cX0_init 43 = .ok (.bipush 32, 2) := by decide +kernel
theorem dX0_init_45 : decode cX0_init 45 = .ok (.newarray .int, 2) := by decide +kernel
theorem dX0_init_47 : decode cX0_init 47 = .ok (.putfield 35, 3) := by decide +kernel
theorem dX0_init_50 : decode cX0_init 50 = .ok (.aload_n 0, 1) := by decide +kernel
theorem dX0_init_51 : decode cX0_init 51 = .ok (.bipush 32, 2) := by decide +kernel
theorem dX0_init_53 : decode cX0_init 53 = .ok (.newarray .int, 2) := by decide +kernel
theorem dX0_init_55 : decode cX0_init 55 = .ok (.putfield 38, 3) := by decide +kernel
theorem dX0_init_58 : decode cX0_init 58 = .ok (.aload_n 0, 1) := by decide +kernel
theorem dX0_init_59 : decode cX0_init 59 = .ok (.iconst 5, 1) := by decide +kernel
theorem dX0_init_60 : decode cX0_init 60 = .ok (.newarray .int, 2) := by decide +kernel
theorem dX0_init_62 : decode cX0_init 62 = .ok (.putfield 41, 3) := by decide +kernel
theorem dX0_init_65 : decode cX0_init 65 = .ok (.iconst 0, 1) := by decide +kernel
theorem dX0_init_66 : decode cX0_init 66 = .ok (.istore_n 1, 1) := by decide +kernel
theorem dX0_init_67 : decode cX0_init 67 = .ok (.iload_n 1, 1) := by decide +kernel
theorem dX0_init_68 : decode cX0_init 68 = .ok (.bipush 8, 2) := by decide +kernel
theorem dX0_init_70 : decode cX0_init 70 = .ok (.if_icmp .ge 22, 3) := by decide +kernel
theorem dX0_init_73 : decode cX0_init 73 = .ok (.aload_n 0, 1) := by decide +kernel
theorem dX0_init_74 : decode cX0_init 74 = .ok (.getfield 28, 3) := by decide +kernel
theorem dX0_init_77 : decode cX0_init 77 = .ok (.iload_n 1, 1) := by decide +kernel
theorem dX0_init_78 : decode cX0_init 78 = .ok (.new 26, 3) := by decide +kernel
theorem dX0_init_81 : decode cX0_init 81 = .ok (.dup, 1) := by decide +kernel
theorem dX0_init_82 : decode cX0_init 82 = .ok (.invokespecial 44, 3) := by decide +kernel
theorem dX0_init_85 : decode cX0_init 85 = .ok (.aastore, 1) := by decide +kernel
theorem dX0_init_86 : decode cX0_init 86 = .ok (.iinc 1 1, 3) := by decide +kernel
theorem dX0_init_89 : decode cX0_init 89 = .ok (.goto (-22), 3) := by decide +kernel
theorem dX0_init_92 : decode cX0_init 92 = .ok (.aload_n 0, 1) := by decide +kernel
theorem dX0_init_93 : decode cX0_init 93 = .ok (.getfield 23, 3) := by decide +kernel
theorem dX0_init_96 : decode cX0_init 96 = .ok (.bipush 10, 2) := by decide +kernel
theorem dX0_init_98 : decode cX0_init 98 = .ok (.bipush 20, 2) := by decide +kernel
theorem dX0_init_100 : decode cX0_init 100 = .ok (.iastore, 1) := by decide +kernel
theorem dX0_init_101 : decode cX0_init 101 = .ok (.return_, 1) := by decide +kernel
set_option maxRecDepth 20000 in
theorem ggX0_copyFrom_X1_copyFrom : GoodIn wsX0_copyFrom wsX1_copyFrom := goodIn_r _ [19, 20, 21, 22, 23, 24, 25, 26, 37, 38, 39, 40, 41, 42, 43] (by decide +kernel) (by decide +kernel)
set_option maxRecDepth 20000 in
theorem gX0_copyFrom_X1_copyFrom : GoodIn wsX0_copyFrom (wsV RX0 55 RX1 yX1_copyFrom wsX1_copyFrom) := goodIn_app (goodIn_of _ (by decide +kernel)) ggX0_copyFrom_X1_copyFrom
theorem dX0_copyFrom_0 : decode cX0_copyFrom 0 = .ok (.aload_n 1, 1) := by decide +kernel
theorem dX0_copyFrom_1 : decode cX0_copyFrom 1 = .ok (.getfield 20, 3) := by decide +kernel
theorem dX0_copyFrom_4 : decode cX0_copyFrom 4 = .ok (.iconst 0, 1) := by decide +kernel
theorem dX0_copyFrom_5 : decode cX0_copyFrom 5 = .ok (.aload_n 0, 1) := by decide +kernel
theorem dX0_copyFrom_6 : decode cX0_copyFrom 6 = .ok (.getfield 20, 3) := by decide +kernel
theorem dX0_copyFrom_9 : decode cX0_copyFrom 9 = .ok (.iconst 0, 1) := by decide +kernel
theorem dX0_copyFrom_10 : decode cX0_copyFrom 10 = .ok (.aload_n 0, 1) := by decide +kernel
theorem dX0_copyFrom_11 : decode cX0_copyFrom 11 = .ok (.getfield 20, 3) := by decide +kernel
theorem dX0_copyFrom_14 : decode cX0_copyFrom 14 = .ok (.arraylength, 1) := by decide +kernel
theorem dX0_copyFrom_15 : decode cX0_copyFrom 15 = .ok (.invokestatic 45, 3) := by decide +kernel
theorem dX0_copyFrom_18 : decode cX0_copyFrom 18 = .ok (.aload_n 1, 1) := by decide +kernel
theorem dX0_copyFrom_19 : decode cX0_copyFrom 19 = .ok (.getfield 23, 3) := by decide +kernel
theorem dX0_copyFrom_22 : decode cX0_copyFrom 22 = .ok (.iconst 0, 1) := by decide +kernel
theorem dX0_copyFrom_23 : decode cX0_copyFrom 23 = .ok (.aload_n 0, 1) := by decide +kernel
theorem dX0_copyFrom_24 : decode cX0_copyFrom 24 = .ok (.getfield 23, 3) := by decide +kernel
theorem dX0_copyFrom_27 : decode cX0_copyFrom 27 = .ok (.iconst 0, 1) := by decide +kernel
theorem dX0_copyFrom_28 : decode cX0_copyFrom 28 = .ok (.aload_n 0, 1) := by decide +kernel
theorem dX0_copyFrom_29 : decode cX0_copyFrom 29 = .ok (.getfield 23, 3) := by decide +kernel
theorem dX0_copyFrom_32 : decode cX0_copyFrom 32 = .ok (.arraylength, 1) := by decide +kernel
theorem dX0_copyFrom_33 : decode cX0_copyFrom 33 = .ok (.invokestatic 45, 3) := by decide +kernel
theorem dX0_copyFrom_36 : decode cX0_copyFrom 36 = .ok (.aload_n 0, 1) := by decide +kernel
theorem dX0_copyFrom_37 : decode cX0_copyFrom 37 = .ok (.aload_n 1, 1) := by decide +kernel
theorem dX0_copyFrom_38 : decode cX0_copyFrom 38 = .ok (.getfield 51, 3) := by decide +kernel
theorem dX0_copyFrom_41 : decode cX0_copyFrom 41 = .ok (.putfield 51, 3) := by decide +kernel
theorem dX0_copyFrom_44 : decode cX0_copyFrom 44 = .ok (.iconst 0, 1) := by decide +kernel
theorem dX0_copyFrom_45 : decode cX0_copyFrom 45 = .ok (.istore_n 2, 1) := by decide +kernel
theorem dX0_copyFrom_46 : decode cX0_copyFrom 46 = .ok (.iload_n 2, 1) := by decide +kernel
theorem dX0_copyFrom_47 : decode cX0_copyFrom 47 = .ok (.aload_n 0, 1) := by decide +kernel
theorem dX0_copyFrom_48 : decode cX0_copyFrom 48 = .ok (.getfield 51, 3) := by decide +kernel
theorem dX0_copyFrom_51 : decode cX0_copyFrom 51 = .ok (.if_icmp .ge 24, 3) := by decide +kernel
theorem dX0_copyFrom_54 : decode cX0_copyFrom 54 = .ok (.aload_n 0, 1) := by decide +kernel
theorem dX0_copyFrom_55 : decode cX0_copyFrom 55 = .ok (.getfield 28, 3) := by decide +kernel
theorem dX0_copyFrom_58 : decode cX0_copyFrom 58 = .ok (.iload_n 2, 1) := by decide +kernel
theorem dX0_copyFrom_59 : decode cX0_copyFrom 59 = .ok (.aaload, 1) := by decide +kernel
theorem dX0_copyFrom_60 : decode cX0_copyFrom 60 = .ok (.aload_n 1, 1) := by decide +kernel
theorem dX0_copyFrom_61 : decode cX0_copyFrom 61 = .ok (.getfield 28, 3) := by decide +kernel
theorem dX0_copyFrom_64 : decode cX0_copyFrom 64 = .ok (.iload_n 2, 1) := by decide +kernel
theorem dX0_copyFrom_65 : decode cX0_copyFrom 65 = .ok (.aaload, 1) := by decide +kernel
theorem dX0_copyFrom_66 : decode cX0_copyFrom 66 = .ok (.invokevirtual 55, 3) := by decide +kernel
theorem dX0_copyFrom_69 : decode cX0_copyFrom 69 = .ok (.iinc 2 1, 3) := by decide +kernel
theorem dX0_copyFrom_72 : decode cX0_copyFrom 72 = .ok (.goto (-26), 3) := by decide +kernel
theorem dX0_copyFrom_75 : decode cX0_copyFrom 75 = .ok (.aload_n 0, 1) := by decide +kernel
theorem dX0_copyFrom_76 : decode cX0_copyFrom 76 = .ok (.aload_n 1, 1) := by decide +kernel
theorem dX0_copyFrom_77 : decode cX0_copyFrom 77 = .ok (.getfield 59, 3) := by decide +kernel
theorem dX0_copyFrom_80 : decode cX0_copyFrom 80 = .ok (.putfield 59, 3) := by decide +kernel
theorem dX0_copyFrom_83 : decode cX0_copyFrom 83 = .ok (.aload_n 1, 1) := by decide +kernel
theorem dX0_copyFrom_84 : decode cX0_copyFrom 84 = .ok (.getfield 32, 3) := by decide +kernel
theorem dX0_copyFrom_87 : decode cX0_copyFrom 87 = .ok (.iconst 0, 1) := by decide +kernel
theorem dX0_copyFrom_88 : decode cX0_copyFrom 88 = .ok (.aload_n 0, 1) := by decide +kernel
theorem dX0_copyFrom_89 : decode cX0_copyFrom 89 = .ok (.getfield 32, 3) := by decide +kernel
theorem dX0_copyFrom_92 : decode cX0_copyFrom 92 = .ok (.iconst 0, 1) := by decide +kernel
theorem dX0_copyFrom_93 : decode cX0_copyFrom 93 = .ok (.aload_n 0, 1) := by decide +kernel
theorem dX0_copyFrom_94 : decode cX0_copyFrom 94 = .ok (.getfield 59, 3) := by decide +kernel
theorem dX0_copyFrom_97 : decode cX0_copyFrom 97 = .ok (.invokestatic 45, 3) := by decide +kernel
theorem dX0_copyFrom_100 : decode cX0_copyFrom 100 = .ok (.aload_n 1, 1) := by decide +kernel
theorem dX0_copyFrom_101 : decode cX0_copyFrom 101 = .ok (.getfield 35, 3) := by decide +kernel
theorem dX0_copyFrom_104 : decode cX0_copyFrom 104 = .ok (.iconst 0, 1) := by decide +kernel
theorem dX0_copyFrom_105 : decode cX0_copyFrom 105 = .ok (.aload_n 0, 1) := by decide +kernel
theorem dX0_copyFrom_106 : decode cX0_copyFrom 106 = .ok (.getfield 35, 3) := by decide +kernel
theorem dX0_copyFrom_109 : decode cX0_copyFrom 109 = .ok (.iconst 0, 1) := by decide +kernel
theorem dX0_copyFrom_110 : decode cX0_copyFrom 110 = .ok (.aload_n 0, 1) := by decide +kernel
theorem dX0_copyFrom_111 : decode cX0_copyFrom 111 = .ok (.getfield 59, 3) := by decide +kernel
theorem dX0_copyFrom_114 : decode cX0_copyFrom 114 = .ok (.invokestatic 45, 3) := by decide +kernel
theorem dX0_copyFrom_117 : decode cX0_copyFrom 117 = .ok (.aload_n 0, 1) := by decide +kernel
theorem dX0_copyFrom_118 : decode cX0_copyFrom 118 = .ok (.aload_n 1, 1) := by decide +kernel
theorem dX0_copyFrom_119 : decode cX0_copyFrom 119 = .ok (.getfield 62, 3) := by decide +kernel
theorem dX0_copyFrom_122 : decode cX0_copyFrom 122 = .ok (.putfield 62, 3) := by decide +kernel
theorem dX0_copyFrom_125 : decode cX0_copyFrom 125 = .ok (.aload_n 1, 1) := by decide +kernel
theorem dX0_copyFrom_126 : decode cX0_copyFrom 126 = .ok (.getfield 38, 3) := by decide +kernel
theorem dX0_copyFrom_129 : decode cX0_copyFrom 129 = .ok (.iconst 0, 1) := by decide +kernel
theorem dX0_copyFrom_130 : decode cX0_copyFrom 130 = .ok (.aload_n 0, 1) := by decide +kernel
theorem dX0_copyFrom_131 : decode cX0_copyFrom 131 = .ok (.getfield 38, 3) := by decide +kernel
theorem dX0_copyFrom_134 : decode cX0_copyFrom 134 = .ok (.iconst 0, 1) := by decide +kernel
theorem dX0_copyFrom_135 : decode cX0_copyFrom 135 = .ok (.aload_n 0, 1) := by decide +kernel
theorem dX0_copyFrom_136 : decode cX0_copyFrom 136 = .ok (.getfield 62, 3) := by decide +kernel
theorem dX0_copyFrom_139 : decode cX0_copyFrom 139 = .ok (.invokestatic 45, 3) := by decide +kernel
theorem dX0_copyFrom_142 : decode cX0_copyFrom 142 = .ok (.aload_n 1, 1) := by decide +kernel
theorem dX0_copyFrom_143 : decode cX0_copyFrom 143 = .ok (.getfield 41, 3) := by decide +kernel
theorem dX0_copyFrom_146 : decode cX0_copyFrom 146 = .ok (.iconst 0, 1) := by decide +kernel
theorem dX0_copyFrom_147 : decode cX0_copyFrom 147 = .ok (.aload_n 0, 1) := by decide +kernel
theorem dX0_copyFrom_148 : decode cX0_copyFrom 148 = .ok (.getfield 41, 3) := by decide +kernel
theorem dX0_copyFrom_151 : decode cX0_copyFrom 151 = .ok (.iconst 0, 1) := by decide +kernel
theorem dX0_copyFrom_152 : decode cX0_copyFrom 152 = .ok (.aload_n 0, 1) := by decide +kernel
theorem dX0_copyFrom_153 : decode cX0_copyFrom 153 = .ok (.getfield 41, 3) := by decide +kernel
theorem dX0_copyFrom_156 : decode cX0_copyFrom 156 = .ok (.arraylength, 1) := by decide +kernel
theorem dX0_copyFrom_157 : decode cX0_copyFrom 157 = .ok (.invokestatic 45, 3) := by decide +kernel
theorem dX0_copyFrom_160 : decode cX0_copyFrom 160 = .ok (.return_, 1) := by decide +kernel
theorem dX0_choose_0 : decode cX0_choose 0 = .ok (.iload_n 1, 1) := by decide +kernel
theorem dX0_choose_1 : decode cX0_choose 1 = .ok (.ifCond .lt 12, 3) := by decide +kernel
theorem dX0_choose_4 : decode cX0_choose 4 = .ok (.iload_n 1, 1) := by decide +kernel
theorem dX0_choose_5 : decode cX0_choose 5 = .ok (.aload_n 0, 1) := by decide +kernel
theorem dX0_choose_6 : decode cX0_choose 6 = .ok (.getfield 20, 3) := by decide +kernel
theorem dX0_choose_9 : decode cX0_choose 9 = .ok (.arraylength, 1) := by decide +kernel
theorem dX0_choose_10 : decode cX0_choose 10 = .ok (.if_icmp .lt 6, 3) := by decide +kernel
theorem dX0_choose_13 : decode cX0_choose 13 = .ok (.bipush (-2), 2) := by decide +kernel
theorem dX0_choose_15 : decode cX0_choose 15 = .ok (.ireturn, 1) := by decide +kernel
theorem dX0_choose_16 : decode cX0_choose 16 = .ok (.iload_n 2, 1) := by decide +kernel
theorem dX0_choose_17 : decode cX0_choose 17 = .ok (.getstatic 65, 3) := by decide +kernel
theorem dX0_choose_20 : decode cX0_choose 20 = .ok (.iload_n 1, 1) := by decide +kernel
theorem dX0_choose_21 : decode cX0_choose 21 = .ok (.iaload, 1) := by decide +kernel
theorem dX0_choose_22 : decode cX0_choose 22 = .ok (.if_icmp .lt 12, 3) := by decide +kernel
theorem dX0_choose_25 : decode cX0_choose 25 = .ok (.iload_n 2, 1) := by decide +kernel
theorem dX0_choose_26 : decode cX0_choose 26 = .ok (.getstatic 68, 3) := by decide +kernel
theorem dX0_choose_29 : decode cX0_choose 29 = .ok (.iload_n 1, 1) := by decide +kernel
theorem dX0_choose_30 : decode cX0_choose 30 = .ok (.iaload, 1) := by decide +kernel
theorem dX0_choose_31 : decode cX0_choose 31 = .ok (.if_icmp .le 6, 3) := by decide +kernel
theorem dX0_choose_34 : decode cX0_choose 34 = .ok (.bipush (-2), 2) := by decide +kernel
theorem dX0_choose_36 : decode cX0_choose 36 = .ok (.ireturn, 1) := by decide +kernel
theorem dX0_choose_37 : decode cX0_choose 37 = .ok (.aload_n 0, 1) := by decide +kernel
theorem dX0_choose_38 : decode cX0_choose 38 = .ok (.getfield 20, 3) := by decide +kernel
theorem dX0_choose_41 : decode cX0_choose 41 = .ok (.iload_n 1, 1) := by decide +kernel
theorem dX0_choose_42 : decode cX0_choose 42 = .ok (.iaload, 1) := by decide +kernel
theorem dX0_choose_43 : decode cX0_choose 43 = .ok (.istore_n 3, 1) := by decide +kernel
theorem dX0_choose_44 : decode cX0_choose 44 = .ok (.aload_n 0, 1) := by decide +kernel
theorem dX0_choose_45 : decode cX0_choose 45 = .ok (.getfield 20, 3) := by decide +kernel
theorem dX0_choose_48 : decode cX0_choose 48 = .ok (.iload_n 1, 1) := by decide +kernel
theorem dX0_choose_49 : decode cX0_choose 49 = .ok (.iload_n 2, 1) := by decide +kernel
theorem dX0_choose_50 : decode cX0_choose 50 = .ok (.iastore, 1) := by decide +kernel
theorem dX0_choose_51 : decode cX0_choose 51 = .ok (.iload_n 3, 1) := by decide +kernel
theorem dX0_choose_52 : decode cX0_choose 52 = .ok (.ireturn, 1) := by decide +kernel
set_option maxRecDepth 20000 in
theorem ggX0_takeBox_X1_canHave : GoodIn wsX0_takeBox wsX1_canHave := goodIn_r _ [7] (by decide +kernel) (by decide +kernel)
set_option maxRecDepth 20000 in
theorem gX0_takeBox_X1_canHave : GoodIn wsX0_takeBox (va_wsS RX0 71 yX1_canHave wsX1_canHave) := goodIn_app (goodIn_of _ (by decide +kernel)) ggX0_takeBox_X1_canHave
set_option maxRecDepth 20000 in
theorem ggX0_takeBox_X1_back : GoodIn wsX0_takeBox wsX1_back := goodIn_r _ [11, 12, 13, 33, 34, 35, 36, 37, 38, 39] (by decide +kernel) (by decide +kernel)
set_option maxRecDepth 20000 in
theorem gX0_takeBox_X1_back : GoodIn wsX0_takeBox (wsV RX0 75 RX1 yX1_back wsX1_back) := goodIn_app (goodIn_of _ (by decide +kernel)) ggX0_takeBox_X1_back
set_option maxRecDepth 20000 in
theorem ggX0_takeBox_X1_begin : GoodIn wsX0_takeBox wsX1_begin := goodIn_r _ [17, 12, 13, 18, 19, 20, 21, 22, 33, 34, 35, 36, 37, 38, 39] (by decide +kernel) (by decide +kernel)
set_option maxRecDepth 20000 in
theorem gX0_takeBox_X1_begin : GoodIn wsX0_takeBox (wsV RX0 79 RX1 yX1_begin wsX1_begin) := goodIn_app (goodIn_of _ (by decide +kernel)) ggX0_takeBox_X1_begin
theorem dX0_takeBox_0 : decode cX0_takeBox 0 = .ok (.iload_n 1, 1) := by decide +kernel
theorem dX0_takeBox_1 : decode cX0_takeBox 1 = .ok (.invokestatic 71, 3) := by decide +kernel
theorem dX0_takeBox_4 : decode cX0_takeBox 4 = .ok (.ifCond .ne 6, 3) := by decide +kernel
theorem dX0_takeBox_7 : decode cX0_takeBox 7 = .ok (.bipush (-2), 2) := by decide +kernel
theorem dX0_takeBox_9 : decode cX0_takeBox 9 = .ok (.ireturn, 1) := by decide +kernel
theorem dX0_takeBox_10 : decode cX0_takeBox 10 = .ok (.aload_n 0, 1) := by decide +kernel
theorem dX0_takeBox_11 : decode cX0_takeBox 11 = .ok (.getfield 51, 3) := by decide +kernel
theorem dX0_takeBox_14 : decode cX0_takeBox 14 = .ok (.bipush 8, 2) := by decide +kernel
theorem dX0_takeBox_16 : decode cX0_takeBox 16 = .ok (.if_icmp .lt 6, 3) := by decide +kernel
theorem dX0_takeBox_19 : decode cX0_takeBox 19 = .ok (.bipush (-4), 2) := by decide +kernel
theorem dX0_takeBox_21 : decode cX0_takeBox 21 = .ok (.ireturn, 1) := by decide +kernel
theorem dX0_takeBox_22 : decode cX0_takeBox 22 = .ok (.aload_n 0, 1) := by decide +kernel
theorem dX0_takeBox_23 : decode cX0_takeBox 23 = .ok (.getfield 51, 3) := by decide +kernel
theorem dX0_takeBox_26 : decode cX0_takeBox 26 = .ok (.ifCond .le 24, 3) := by decide +kernel
theorem dX0_takeBox_29 : decode cX0_takeBox 29 = .ok (.aload_n 0, 1) := by decide +kernel
theorem dX0_takeBox_30 : decode cX0_takeBox 30 = .ok (.getfield 28, 3) := by decide +kernel
theorem dX0_takeBox_33 : decode cX0_takeBox 33 = .ok (.aload_n 0, 1) := by decide +kernel
theorem dX0_takeBox_34 : decode cX0_takeBox 34 = .ok (.getfield 51, 3) := by decide +kernel
theorem dX0_takeBox_37 : decode cX0_takeBox 37 = .ok (.iconst 1, 1) := by decide +kernel
theorem dX0_takeBox_38 : decode cX0_takeBox 38 = .ok (.isub, 1) := by decide +kernel
theorem dX0_takeBox_39 : decode cX0_takeBox 39 = .ok (.aaload, 1) := by decide +kernel
theorem dX0_takeBox_40 : decode cX0_takeBox 40 = .ok (.invokevirtual 75, 3) := by decide +kernel
theorem dX0_takeBox_43 : decode cX0_takeBox 43 = .ok (.iconst 1, 1) := by decide +kernel
theorem dX0_takeBox_44 : decode cX0_takeBox 44 = .ok (.if_icmp .ge 6, 3) := by decide +kernel
theorem dX0_takeBox_47 : decode cX0_takeBox 47 = .ok (.bipush (-5), 2) := by decide +kernel
theorem dX0_takeBox_49 : decode cX0_takeBox 49 = .ok (.ireturn, 1) := by decide +kernel
theorem dX0_takeBox_50 : decode cX0_takeBox 50 = .ok (.aload_n 0, 1) := by decide +kernel
theorem dX0_takeBox_51 : decode cX0_takeBox 51 = .ok (.getfield 28, 3) := by decide +kernel
theorem dX0_takeBox_54 : decode cX0_takeBox 54 = .ok (.aload_n 0, 1) := by decide +kernel
theorem dX0_takeBox_55 : decode cX0_takeBox 55 = .ok (.getfield 51, 3) := by decide +kernel
theorem dX0_takeBox_58 : decode cX0_takeBox 58 = .ok (.aaload, 1) := by decide +kernel
theorem dX0_takeBox_59 : decode cX0_takeBox 59 = .ok (.iload_n 1, 1) := by decide +kernel
theorem dX0_takeBox_60 : decode cX0_takeBox 60 = .ok (.aload_n 0, 1) := by decide +kernel
theorem dX0_takeBox_61 : decode cX0_takeBox 61 = .ok (.getfield 23, 3) := by decide +kernel
theorem dX0_takeBox_64 : decode cX0_takeBox 64 = .ok (.iconst 2, 1) := by decide +kernel
theorem dX0_takeBox_65 : decode cX0_takeBox 65 = .ok (.iaload, 1) := by decide +kernel
theorem dX0_takeBox_66 : decode cX0_takeBox 66 = .ok (.invokevirtual 79, 3) := by decide +kernel
theorem dX0_takeBox_69 : decode cX0_takeBox 69 = .ok (.aload_n 0, 1) := by decide +kernel
theorem dX0_takeBox_70 : decode cX0_takeBox 70 = .ok (.getfield 23, 3) := by decide +kernel
theorem dX0_takeBox_73 : decode cX0_takeBox 73 = .ok (.iconst 2, 1) := by decide +kernel
theorem dX0_takeBox_74 : decode cX0_takeBox 74 = .ok (.dup2, 1) := by decide +kernel
theorem dX0_takeBox_75 : decode cX0_takeBox 75 = .ok (.iaload, 1) := by decide +kernel
theorem dX0_takeBox_76 : decode cX0_takeBox 76 = .ok (.iconst 1, 1) := by decide +kernel
theorem dX0_takeBox_77 : decode cX0_takeBox 77 = .ok (.iadd, 1) := by decide +kernel
theorem dX0_takeBox_78 : decode cX0_takeBox 78 = .ok (.iastore, 1) := by decide +kernel
theorem dX0_takeBox_79 : decode cX0_takeBox 79 = .ok (.aload_n 0, 1) := by decide +kernel
theorem dX0_takeBox_80 : decode cX0_takeBox 80 = .ok (.dup, 1) := by decide +kernel
theorem dX0_takeBox_81 : decode cX0_takeBox 81 = .ok (.getfield 51, 3) := by decide +kernel
theorem dX0_takeBox_84 : decode cX0_takeBox 84 = .ok (.iconst 1, 1) := by decide +kernel
theorem dX0_takeBox_85 : decode cX0_takeBox 85 = .ok (.iadd, 1) := by decide +kernel
theorem dX0_takeBox_86 : decode cX0_takeBox 86 = .ok (.putfield 51, 3) := by decide +kernel
theorem dX0_takeBox_89 : decode cX0_takeBox 89 = .ok (.aload_n 0, 1) := by decide +kernel
theorem dX0_takeBox_90 : decode cX0_takeBox 90 = .ok (.getfield 51, 3) := by decide +kernel
theorem dX0_takeBox_93 : decode cX0_takeBox 93 = .ok (.iconst 1, 1) := by decide +kernel
theorem dX0_takeBox_94 : decode cX0_takeBox 94 = .ok (.isub, 1) := by decide +kernel
theorem dX0_takeBox_95 : decode cX0_takeBox 95 = .ok (.ireturn, 1) := by decide +kernel
set_option maxRecDepth 20000 in
theorem ggX0_turnBox_X0_isBox : GoodIn wsX0_turnBox wsX0_isBox := goodIn_r _ [8, 9, 28, 29, 30, 31, 32, 33, 34, 35, 36, 37] (by decide +kernel) (by decide +kernel)
set_option maxRecDepth 20000 in
theorem gX0_turnBox_X0_isBox : GoodIn wsX0_turnBox (wsV RX0 83 RX0 yX0_isBox wsX0_isBox) := goodIn_app (goodIn_of _ (by decide +kernel)) ggX0_turnBox_X0_isBox
set_option maxRecDepth 20000 in
theorem ggX0_turnBox_X1_canHave : GoodIn wsX0_turnBox wsX1_canHave := goodIn_r _ [13] (by decide +kernel) (by decide +kernel)
set_option maxRecDepth 20000 in
theorem gX0_turnBox_X1_canHave : GoodIn wsX0_turnBox (va_wsS RX0 71 yX1_canHave wsX1_canHave) := goodIn_app (goodIn_of _ (by decide +kernel)) ggX0_turnBox_X1_canHave
set_option maxRecDepth 20000 in
theorem ggX0_turnBox_J9_floorDiv_7cf53 : GoodIn wsX0_turnBox wsJ9_floorDiv_7cf53 := goodIn_r _ [17] (by decide +kernel) (by decide +kernel)
set_option maxRecDepth 20000 in
theorem gX0_turnBox_J9_floorDiv_7cf53 : GoodIn wsX0_turnBox (va_wsS RX0 92 yJ9_floorDiv_7cf53 wsJ9_floorDiv_7cf53) := goodIn_app (goodIn_of _ (by decide +kernel)) ggX0_turnBox_J9_floorDiv_7cf53
set_option maxRecDepth 20000 in
theorem ggX0_turnBox_X0_hasRoom : GoodIn wsX0_turnBox wsX0_hasRoom := goodIn_r _ [21, 1, 9, 2, 22, 23, 24, 12, 25, 26, 27, 28, 29, 30, 31, 32, 33, 34, 35, 36, 37, 38, 39, 40, 41, 42, 43, 44] (by decide +kernel) (by decide +kernel)
set_option maxRecDepth 20000 in
theorem gX0_turnBox_X0_hasRoom : GoodIn wsX0_turnBox (wsV RX0 98 RX0 yX0_hasRoom wsX0_hasRoom) := goodIn_app (goodIn_of _ (by decide +kernel)) ggX0_turnBox_X0_hasRoom
theorem dX0_turnBox_0 : decode cX0_turnBox 0 = .ok (.aload_n 0, 1) := by decide +kernel
theorem dX0_turnBox_1 : decode cX0_turnBox 1 = .ok (.iload_n 1, 1) := by decide +kernel
theorem dX0_turnBox_2 : decode cX0_turnBox 2 = .ok (.invokevirtual 83, 3) := by decide +kernel
theorem dX0_turnBox_5 : decode cX0_turnBox 5 = .ok (.ifCond .ne 5, 3) := by decide +kernel
theorem dX0_turnBox_8 : decode cX0_turnBox 8 = .ok (.iconst (-1), 1) := by decide +kernel
theorem dX0_turnBox_9 : decode cX0_turnBox 9 = .ok (.ireturn, 1) := by decide +kernel
theorem dX0_turnBox_10 : decode cX0_turnBox 10 = .ok (.iload_n 2, 1) := by decide +kernel
theorem dX0_turnBox_11 : decode cX0_turnBox 11 = .ok (.invokestatic 71, 3) := by decide +kernel
theorem dX0_turnBox_14 : decode cX0_turnBox 14 = .ok (.ifCond .ne 6, 3) := by decide +kernel
theorem dX0_turnBox_17 : decode cX0_turnBox 17 = .ok (.bipush (-2), 2) := by decide +kernel
theorem dX0_turnBox_19 : decode cX0_turnBox 19 = .ok (.ireturn, 1) := by decide +kernel
theorem dX0_turnBox_20 : decode cX0_turnBox 20 = .ok (.aload_n 0, 1) := by decide +kernel
theorem dX0_turnBox_21 : decode cX0_turnBox 21 = .ok (.getfield 28, 3) := by decide +kernel
theorem dX0_turnBox_24 : decode cX0_turnBox 24 = .ok (.iload_n 1, 1) := by decide +kernel
theorem dX0_turnBox_25 : decode cX0_turnBox 25 = .ok (.aaload, 1) := by decide +kernel
theorem dX0_turnBox_26 : decode cX0_turnBox 26 = .ok (.astore_n 3, 1) := by decide +kernel
theorem dX0_turnBox_27 : decode cX0_turnBox 27 = .ok (.aload_n 3, 1) := by decide +kernel
theorem dX0_turnBox_28 : decode cX0_turnBox 28 = .ok (.getfield 86, 3) := by decide +kernel
theorem dX0_turnBox_31 : decode cX0_turnBox 31 = .ok (.iload_n 2, 1) := by decide +kernel
theorem dX0_turnBox_32 : decode cX0_turnBox 32 = .ok (.aload_n 3, 1) := by decide +kernel
theorem dX0_turnBox_33 : decode cX0_turnBox 33 = .ok (.getfield 89, 3) := by decide +kernel
theorem dX0_turnBox_36 : decode cX0_turnBox 36 = .ok (.isub, 1) := by decide +kernel
theorem dX0_turnBox_37 : decode cX0_turnBox 37 = .ok (.iconst 2, 1) := by decide +kernel
theorem dX0_turnBox_38 : decode cX0_turnBox 38 = .ok (.invokestatic 92, 3) := by decide +kernel
theorem dX0_turnBox_41 : decode cX0_turnBox 41 = .ok (.iadd, 1) := by decide +kernel
theorem dX0_turnBox_42 : decode cX0_turnBox 42 = .ok (.istore 4, 2) := by decide +kernel
theorem dX0_turnBox_44 : decode cX0_turnBox 44 = .ok (.aload_n 0, 1) := by decide +kernel
theorem dX0_turnBox_45 : decode cX0_turnBox 45 = .ok (.iload_n 1, 1) := by decide +kernel
theorem dX0_turnBox_46 : decode cX0_turnBox 46 = .ok (.iload 4, 2) := by decide +kernel
theorem dX0_turnBox_48 : decode cX0_turnBox 48 = .ok (.iload 4, 2) := by decide +kernel
theorem dX0_turnBox_50 : decode cX0_turnBox 50 = .ok (.iload_n 2, 1) := by decide +kernel
theorem dX0_turnBox_51 : decode cX0_turnBox 51 = .ok (.isub, 1) := by decide +kernel
theorem dX0_turnBox_52 : decode cX0_turnBox 52 = .ok (.invokevirtual 98, 3) := by decide +kernel
theorem dX0_turnBox_55 : decode cX0_turnBox 55 = .ok (.ifCond .ne 6, 3) := by decide +kernel
theorem dX0_turnBox_58 : decode cX0_turnBox 58 = .ok (.bipush (-5), 2) := by decide +kernel
theorem dX0_turnBox_60 : decode cX0_turnBox 60 = .ok (.ireturn, 1) := by decide +kernel
theorem dX0_turnBox_61 : decode cX0_turnBox 61 = .ok (.aload_n 3, 1) := by decide +kernel
theorem dX0_turnBox_62 : decode cX0_turnBox 62 = .ok (.iload 4, 2) := by decide +kernel
theorem dX0_turnBox_64 : decode cX0_turnBox 64 = .ok (.putfield 86, 3) := by decide +kernel
theorem dX0_turnBox_67 : decode cX0_turnBox 67 = .ok (.aload_n 3, 1) := by decide +kernel
theorem dX0_turnBox_68 : decode cX0_turnBox 68 = .ok (.iload_n 2, 1) := by decide +kernel
theorem dX0_turnBox_69 : decode cX0_turnBox 69 = .ok (.putfield 89, 3) := by decide +kernel
theorem dX0_turnBox_72 : decode cX0_turnBox 72 = .ok (.iload 4, 2) := by decide +kernel
theorem dX0_turnBox_74 : decode cX0_turnBox 74 = .ok (.sipush 1000, 3) := by decide +kernel
theorem dX0_turnBox_77 : decode cX0_turnBox 77 = .ok (.iadd, 1) := by decide +kernel
theorem dX0_turnBox_78 : decode cX0_turnBox 78 = .ok (.ireturn, 1) := by decide +kernel
set_option maxRecDepth 20000 in
theorem ggX0_hasRoom_X1_back : GoodIn wsX0_hasRoom wsX1_back := goodIn_r _ [8, 9, 10, 21, 22, 23, 24, 25, 26, 27] (by decide +kernel) (by decide +kernel)
set_option maxRecDepth 20000 in
theorem gX0_hasRoom_X1_back : GoodIn wsX0_hasRoom (wsV RX0 75 RX1 yX1_back wsX1_back) := goodIn_app (goodIn_of _ (by decide +kernel)) ggX0_hasRoom_X1_back
theorem dX0_hasRoom_0 : decode cX0_hasRoom 0 = .ok (.iload_n 1, 1) := by decide +kernel
theorem dX0_hasRoom_1 : decode cX0_hasRoom 1 = .ok (.ifCond .le 22, 3) := by decide +kernel
theorem dX0_hasRoom_4 : decode cX0_hasRoom 4 = .ok (.aload_n 0, 1) := by decide +kernel
theorem dX0_hasRoom_5 : decode cX0_hasRoom 5 = .ok (.getfield 28, 3) := by decide +kernel
theorem dX0_hasRoom_8 : decode cX0_hasRoom 8 = .ok (.iload_n 1, 1) := by decide +kernel
theorem dX0_hasRoom_9 : decode cX0_hasRoom 9 = .ok (.iconst 1, 1) := by decide +kernel
theorem dX0_hasRoom_10 : decode cX0_hasRoom 10 = .ok (.isub, 1) := by decide +kernel
theorem dX0_hasRoom_11 : decode cX0_hasRoom 11 = .ok (.aaload, 1) := by decide +kernel
theorem dX0_hasRoom_12 : decode cX0_hasRoom 12 = .ok (.invokevirtual 75, 3) := by decide +kernel
theorem dX0_hasRoom_15 : decode cX0_hasRoom 15 = .ok (.iload_n 2, 1) := by decide +kernel
theorem dX0_hasRoom_16 : decode cX0_hasRoom 16 = .ok (.isub, 1) := by decide +kernel
theorem dX0_hasRoom_17 : decode cX0_hasRoom 17 = .ok (.iconst 1, 1) := by decide +kernel
theorem dX0_hasRoom_18 : decode cX0_hasRoom 18 = .ok (.if_icmp .ge 5, 3) := by decide +kernel
theorem dX0_hasRoom_21 : decode cX0_hasRoom 21 = .ok (.iconst 0, 1) := by decide +kernel
theorem dX0_hasRoom_22 : decode cX0_hasRoom 22 = .ok (.ireturn, 1) := by decide +kernel
theorem dX0_hasRoom_23 : decode cX0_hasRoom 23 = .ok (.iload_n 1, 1) := by decide +kernel
theorem dX0_hasRoom_24 : decode cX0_hasRoom 24 = .ok (.iconst 1, 1) := by decide +kernel
theorem dX0_hasRoom_25 : decode cX0_hasRoom 25 = .ok (.iadd, 1) := by decide +kernel
theorem dX0_hasRoom_26 : decode cX0_hasRoom 26 = .ok (.aload_n 0, 1) := by decide +kernel
theorem dX0_hasRoom_27 : decode cX0_hasRoom 27 = .ok (.getfield 51, 3) := by decide +kernel
theorem dX0_hasRoom_30 : decode cX0_hasRoom 30 = .ok (.if_icmp .ge 20, 3) := by decide +kernel
theorem dX0_hasRoom_33 : decode cX0_hasRoom 33 = .ok (.iload_n 3, 1) := by decide +kernel
theorem dX0_hasRoom_34 : decode cX0_hasRoom 34 = .ok (.aload_n 0, 1) := by decide +kernel
theorem dX0_hasRoom_35 : decode cX0_hasRoom 35 = .ok (.getfield 28, 3) := by decide +kernel
theorem dX0_hasRoom_38 : decode cX0_hasRoom 38 = .ok (.iload_n 1, 1) := by decide +kernel
theorem dX0_hasRoom_39 : decode cX0_hasRoom 39 = .ok (.iconst 1, 1) := by decide +kernel
theorem dX0_hasRoom_40 : decode cX0_hasRoom 40 = .ok (.iadd, 1) := by decide +kernel
theorem dX0_hasRoom_41 : decode cX0_hasRoom 41 = .ok (.aaload, 1) := by decide +kernel
theorem dX0_hasRoom_42 : decode cX0_hasRoom 42 = .ok (.getfield 86, 3) := by decide +kernel
theorem dX0_hasRoom_45 : decode cX0_hasRoom 45 = .ok (.isub, 1) := by decide +kernel
theorem dX0_hasRoom_46 : decode cX0_hasRoom 46 = .ok (.iconst 1, 1) := by decide +kernel
theorem dX0_hasRoom_47 : decode cX0_hasRoom 47 = .ok (.if_icmp .lt 7, 3) := by decide +kernel
theorem dX0_hasRoom_50 : decode cX0_hasRoom 50 = .ok (.iconst 1, 1) := by decide +kernel
theorem dX0_hasRoom_51 : decode cX0_hasRoom 51 = .ok (.goto 4, 3) := by decide +kernel
theorem dX0_hasRoom_54 : decode cX0_hasRoom 54 = .ok (.iconst 0, 1) := by decide +kernel
theorem dX0_hasRoom_55 : decode cX0_hasRoom 55 = .ok (.ireturn, 1) := by decide +kernel
set_option maxRecDepth 20000 in
theorem ggX0_letPass_X0_howManyLeft : GoodIn wsX0_letPass wsX0_howManyLeft := goodIn_r _ [6, 1, 95, 96, 97, 98, 99, 100, 101, 102, 103, 104] (by decide +kernel) (by decide +kernel)
set_option maxRecDepth 20000 in
theorem gX0_letPass_X0_howManyLeft : GoodIn wsX0_letPass (wsV RX0 102 RX0 yX0_howManyLeft wsX0_howManyLeft) := goodIn_app (goodIn_of _ (by decide +kernel)) ggX0_letPass_X0_howManyLeft
set_option maxRecDepth 20000 in
theorem ggX0_letPass_X0_tickOn : GoodIn wsX0_letPass wsX0_tickOn := goodIn_r _ [10, 1, 11, 12, 13, 5, 14, 15, 16, 17, 18, 19, 20, 21, 22, 23, 24, 25, 26, 27, 28, 29, 30, 31, 32, 33, 34, 35, 36, 37, 38, 39, 40, 41, 42, 43, 44, 45, 46, 47, 48, 49, 50, 51, 52, 53, 54, 55, 56, 57, 58, 59, 60, 61, 62, 63, 64, 65, 66, 67, 68, 69, 70, 71, 72, 73, 74, 75, 76, 77, 78, 79, 80, 81, 82, 83, 84, 85, 86, 87, 88, 89, 90, 91, 92, 93, 94, 95, 96, 97, 98, 99, 100, 101, 102, 103, 104, 105, 106, 107, 108, 109, 110, 111] (by decide +kernel) (by decide +kernel)
set_option maxRecDepth 20000 in
theorem gX0_letPass_X0_tickOn : GoodIn wsX0_letPass (wsV RX0 105 RX0 yX0_tickOn wsX0_tickOn) := goodIn_app (goodIn_of _ (by decide +kernel)) ggX0_letPass_X0_tickOn
theorem dX0_letPass_0 : decode cX0_letPass 0 = .ok (.iload_n 1, 1) := by decide +kernel
theorem dX0_letPass_1 : decode cX0_letPass 1 = .ok (.iconst 1, 1) := by decide +kernel
theorem dX0_letPass_2 : decode cX0_letPass 2 = .ok (.if_icmp .lt 9, 3) := by decide +kernel
theorem dX0_letPass_5 : decode cX0_letPass 5 = .ok (.iload_n 1, 1) := by decide +kernel
theorem dX0_letPass_6 : decode cX0_letPass 6 = .ok (.bipush 99, 2) := by decide +kernel
theorem dX0_letPass_8 : decode cX0_letPass 8 = .ok (.if_icmp .le 6, 3) := by decide +kernel
theorem dX0_letPass_11 : decode cX0_letPass 11 = .ok (.bipush (-2), 2) := by decide +kernel
theorem dX0_letPass_13 : decode cX0_letPass 13 = .ok (.ireturn, 1) := by decide +kernel
theorem dX0_letPass_14 : decode cX0_letPass 14 = .ok (.aload_n 0, 1) := by decide +kernel
theorem dX0_letPass_15 : decode cX0_letPass 15 = .ok (.getfield 23, 3) := by decide +kernel
theorem dX0_letPass_18 : decode cX0_letPass 18 = .ok (.iconst 0, 1) := by decide +kernel
theorem dX0_letPass_19 : decode cX0_letPass 19 = .ok (.iaload, 1) := by decide +kernel
theorem dX0_letPass_20 : decode cX0_letPass 20 = .ok (.iload_n 1, 1) := by decide +kernel
theorem dX0_letPass_21 : decode cX0_letPass 21 = .ok (.iadd, 1) := by decide +kernel
theorem dX0_letPass_22 : decode cX0_letPass 22 = .ok (.sipush 20000, 3) := by decide +kernel
theorem dX0_letPass_25 : decode cX0_letPass 25 = .ok (.if_icmp .le 6, 3) := by decide +kernel
theorem dX0_letPass_28 : decode cX0_letPass 28 = .ok (.bipush (-4), 2) := by decide +kernel
theorem dX0_letPass_30 : decode cX0_letPass 30 = .ok (.ireturn, 1) := by decide +kernel
theorem dX0_letPass_31 : decode cX0_letPass 31 = .ok (.aload_n 0, 1) := by decide +kernel
theorem dX0_letPass_32 : decode cX0_letPass 32 = .ok (.invokevirtual 102, 3) := by decide +kernel
theorem dX0_letPass_35 : decode cX0_letPass 35 = .ok (.istore_n 2, 1) := by decide +kernel
theorem dX0_letPass_36 : decode cX0_letPass 36 = .ok (.aload_n 0, 1) := by decide +kernel
theorem dX0_letPass_37 : decode cX0_letPass 37 = .ok (.iload_n 1, 1) := by decide +kernel
theorem dX0_letPass_38 : decode cX0_letPass 38 = .ok (.invokevirtual 105, 3) := by decide +kernel
theorem dX0_letPass_41 : decode cX0_letPass 41 = .ok (.aload_n 0, 1) := by decide +kernel
theorem dX0_letPass_42 : decode cX0_letPass 42 = .ok (.invokevirtual 102, 3) := by decide +kernel
theorem dX0_letPass_45 : decode cX0_letPass 45 = .ok (.iload_n 2, 1) := by decide +kernel
theorem dX0_letPass_46 : decode cX0_letPass 46 = .ok (.isub, 1) := by decide +kernel
theorem dX0_letPass_47 : decode cX0_letPass 47 = .ok (.ireturn, 1) := by decide +kernel
theorem dX0_howManyLeft_0 : decode cX0_howManyLeft 0 = .ok (.aload_n 0, 1) := by decide +kernel
theorem dX0_howManyLeft_1 : decode cX0_howManyLeft 1 = .ok (.getfield 23, 3) := by decide +kernel
theorem dX0_howManyLeft_4 : decode cX0_howManyLeft 4 = .ok (.iconst 3, 1) := by decide +kernel
theorem dX0_howManyLeft_5 : decode cX0_howManyLeft 5 = .ok (.iaload, 1) := by decide +kernel
theorem dX0_howManyLeft_6 : decode cX0_howManyLeft 6 = .ok (.aload_n 0, 1) := by decide +kernel
theorem dX0_howManyLeft_7 : decode cX0_howManyLeft 7 = .ok (.getfield 23, 3) := by decide +kernel
theorem dX0_howManyLeft_10 : decode cX0_howManyLeft 10 = .ok (.iconst 4, 1) := by decide +kernel
theorem dX0_howManyLeft_11 : decode cX0_howManyLeft 11 = .ok (.iaload, 1) := by decide +kernel
theorem dX0_howManyLeft_12 : decode cX0_howManyLeft 12 = .ok (.iadd, 1) := by decide +kernel
theorem dX0_howManyLeft_13 : decode cX0_howManyLeft 13 = .ok (.aload_n 0, 1) := by decide +kernel
theorem dX0_howManyLeft_14 : decode cX0_howManyLeft 14 = .ok (.getfield 23, 3) := by decide +kernel
theorem dX0_howManyLeft_17 : decode cX0_howManyLeft 17 = .ok (.iconst 5, 1) := by decide +kernel
theorem dX0_howManyLeft_18 : decode cX0_howManyLeft 18 = .ok (.iaload, 1) := by decide +kernel
theorem dX0_howManyLeft_19 : decode cX0_howManyLeft 19 = .ok (.iadd, 1) := by decide +kernel
theorem dX0_howManyLeft_20 : decode cX0_howManyLeft 20 = .ok (.ireturn, 1) := by decide +kernel
theorem dX0_isBox_0 : decode cX0_isBox 0 = .ok (.iload_n 1, 1) := by decide +kernel
theorem dX0_isBox_1 : decode cX0_isBox 1 = .ok (.ifCond .lt 15, 3) := by decide +kernel
theorem dX0_isBox_4 : decode cX0_isBox 4 = .ok (.iload_n 1, 1) := by decide +kernel
theorem dX0_isBox_5 : decode cX0_isBox 5 = .ok (.aload_n 0, 1) := by decide +kernel
theorem dX0_isBox_6 : decode cX0_isBox 6 = .ok (.getfield 51, 3) := by decide +kernel
theorem dX0_isBox_9 : decode cX0_isBox 9 = .ok (.if_icmp .ge 7, 3) := by decide +kernel
theorem dX0_isBox_12 : decode cX0_isBox 12 = .ok (.iconst 1, 1) := by decide +kernel
theorem dX0_isBox_13 : decode cX0_isBox 13 = .ok (.goto 4, 3) := by decide +kernel
theorem dX0_isBox_16 : decode cX0_isBox 16 = .ok (.iconst 0, 1) := by decide +kernel
theorem dX0_isBox_17 : decode cX0_isBox 17 = .ok (.ireturn, 1) := by decide +kernel
set_option maxRecDepth 20000 in
theorem ggX0_aboutBox_X0_isBox : GoodIn wsX0_aboutBox wsX0_isBox := goodIn_r _ [6, 7, 20, 21, 22, 23, 24, 25, 26, 27, 28, 29] (by decide +kernel) (by decide +kernel)
set_option maxRecDepth 20000 in
theorem gX0_aboutBox_X0_isBox : GoodIn wsX0_aboutBox (wsV RX0 83 RX0 yX0_isBox wsX0_isBox) := goodIn_app (goodIn_of _ (by decide +kernel)) ggX0_aboutBox_X0_isBox
set_option maxRecDepth 20000 in
theorem ggX0_aboutBox_X1_tell : GoodIn wsX0_aboutBox wsX1_tell := goodIn_r _ [12, 13, 14, 15, 16, 17, 18, 19, 30, 31, 32, 33, 34, 35, 36] (by decide +kernel) (by decide +kernel)
set_option maxRecDepth 20000 in
theorem gX0_aboutBox_X1_tell : GoodIn wsX0_aboutBox (wsV RX0 109 RX1 yX1_tell wsX1_tell) := goodIn_app (goodIn_of _ (by decide +kernel)) ggX0_aboutBox_X1_tell
theorem dX0_aboutBox_0 : decode cX0_aboutBox 0 = .ok (.aload_n 0, 1) := by decide +kernel
theorem dX0_aboutBox_1 : decode cX0_aboutBox 1 = .ok (.iload_n 1, 1) := by decide +kernel
theorem dX0_aboutBox_2 : decode cX0_aboutBox 2 = .ok (.invokevirtual 83, 3) := by decide +kernel
theorem dX0_aboutBox_5 : decode cX0_aboutBox 5 = .ok (.ifCond .eq 16, 3) := by decide +kernel
theorem dX0_aboutBox_8 : decode cX0_aboutBox 8 = .ok (.aload_n 0, 1) := by decide +kernel
theorem dX0_aboutBox_9 : decode cX0_aboutBox 9 = .ok (.getfield 28, 3) := by decide +kernel
theorem dX0_aboutBox_12 : decode cX0_aboutBox 12 = .ok (.iload_n 1, 1) := by decide +kernel
theorem dX0_aboutBox_13 : decode cX0_aboutBox 13 = .ok (.aaload, 1) := by decide +kernel
theorem dX0_aboutBox_14 : decode cX0_aboutBox 14 = .ok (.iload_n 2, 1) := by decide +kernel
theorem dX0_aboutBox_15 : decode cX0_aboutBox 15 = .ok (.invokevirtual 109, 3) := by decide +kernel
theorem dX0_aboutBox_18 : decode cX0_aboutBox 18 = .ok (.goto 4, 3) := by decide +kernel
theorem dX0_aboutBox_21 : decode cX0_aboutBox 21 = .ok (.iconst (-1), 1) := by decide +kernel
theorem dX0_aboutBox_22 : decode cX0_aboutBox 22 = .ok (.ireturn, 1) := by decide +kernel
theorem dX0_planAt_0 : decode cX0_planAt 0 = .ok (.iload_n 1, 1) := by decide +kernel
theorem dX0_planAt_1 : decode cX0_planAt 1 = .ok (.ifCond .lt 24, 3) := by decide +kernel
theorem dX0_planAt_4 : decode cX0_planAt 4 = .ok (.iload_n 1, 1) := by decide +kernel
theorem dX0_planAt_5 : decode cX0_planAt 5 = .ok (.aload_n 0, 1) := by decide +kernel
theorem dX0_planAt_6 : decode cX0_planAt 6 = .ok (.getfield 62, 3) := by decide +kernel
theorem dX0_planAt_9 : decode cX0_planAt 9 = .ok (.if_icmp .ge 16, 3) := by decide +kernel
theorem dX0_planAt_12 : decode cX0_planAt 12 = .ok (.aload_n 0, 1) := by decide +kernel
theorem dX0_planAt_13 : decode cX0_planAt 13 = .ok (.getfield 38, 3) := by decide +kernel
theorem dX0_planAt_16 : decode cX0_planAt 16 = .ok (.iload_n 1, 1) := by decide +kernel
theorem dX0_planAt_17 : decode cX0_planAt 17 = .ok (.iaload, 1) := by decide +kernel
theorem dX0_planAt_18 : decode cX0_planAt 18 = .ok (.sipush 1000, 3) := by decide +kernel
theorem dX0_planAt_21 : decode cX0_planAt 21 = .ok (.iadd, 1) := by decide +kernel
theorem dX0_planAt_22 : decode cX0_planAt 22 = .ok (.goto 4, 3) := by decide +kernel
theorem dX0_planAt_25 : decode cX0_planAt 25 = .ok (.iconst (-1), 1) := by decide +kernel
theorem dX0_planAt_26 : decode cX0_planAt 26 = .ok (.ireturn, 1) := by decide +kernel
theorem dX0_aboutReport_0 : decode cX0_aboutReport 0 = .ok (.iload_n 1, 1) := by decide +kernel
theorem dX0_aboutReport_1 : decode cX0_aboutReport 1 = .ok (.ifCond .lt 11, 3) := by decide +kernel
theorem dX0_aboutReport_4 : decode cX0_aboutReport 4 = .ok (.iload_n 1, 1) := by decide +kernel
theorem dX0_aboutReport_5 : decode cX0_aboutReport 5 = .ok (.aload_n 0, 1) := by decide +kernel
theorem dX0_aboutReport_6 : decode cX0_aboutReport 6 = .ok (.getfield 59, 3) := by decide +kernel
theorem dX0_aboutReport_9 : decode cX0_aboutReport 9 = .ok (.if_icmp .lt 5, 3) := by decide +kernel
theorem dX0_aboutReport_12 : decode cX0_aboutReport 12 = .ok (.iconst (-1), 1) := by decide +kernel
theorem dX0_aboutReport_13 : decode cX0_aboutReport 13 = .ok (.ireturn, 1) := by decide +kernel
theorem dX0_aboutReport_14 : decode cX0_aboutReport 14 = .ok (.iload_n 2, 1) := by decide +kernel
theorem dX0_aboutReport_15 : decode cX0_aboutReport 15 = .ok (.ifCond .ne 19, 3) := by decide +kernel
theorem dX0_aboutReport_18 : decode cX0_aboutReport 18 = .ok (.aload_n 0, 1) := by decide +kernel
theorem dX0_aboutReport_19 : decode cX0_aboutReport 19 = .ok (.getfield 32, 3) := by decide +kernel
theorem dX0_aboutReport_22 : decode cX0_aboutReport 22 = .ok (.iload_n 1, 1) := by decide +kernel
theorem dX0_aboutReport_23 : decode cX0_aboutReport 23 = .ok (.iaload, 1) := by decide +kernel
theorem dX0_aboutReport_24 : decode cX0_aboutReport 24 = .ok (.aload_n 0, 1) := by decide +kernel
theorem dX0_aboutReport_25 : decode cX0_aboutReport 25 = .ok (.getfield 23, 3) := by decide +kernel
theorem dX0_aboutReport_28 : decode cX0_aboutReport 28 = .ok (.iconst 0, 1) := by decide +kernel
theorem dX0_aboutReport_29 : decode cX0_aboutReport 29 = .ok (.iaload, 1) := by decide +kernel
theorem dX0_aboutReport_30 : decode cX0_aboutReport 30 = .ok (.isub, 1) := by decide +kernel
theorem dX0_aboutReport_31 : decode cX0_aboutReport 31 = .ok (.iconst 1, 1) := by decide +kernel
theorem dX0_aboutReport_32 : decode cX0_aboutReport 32 = .ok (.iadd, 1) := by decide +kernel
theorem dX0_aboutReport_33 : decode cX0_aboutReport 33 = .ok (.ireturn, 1) := by decide +kernel
theorem dX0_aboutReport_34 : decode cX0_aboutReport 34 = .ok (.iload_n 2, 1) := by decide +kernel
theorem dX0_aboutReport_35 : decode cX0_aboutReport 35 = .ok (.iconst 1, 1) := by decide +kernel
theorem dX0_aboutReport_36 : decode cX0_aboutReport 36 = .ok (.if_icmp .ne 12, 3) := by decide +kernel
theorem dX0_aboutReport_39 : decode cX0_aboutReport 39 = .ok (.aload_n 0, 1) := by decide +kernel
theorem dX0_aboutReport_40 : decode cX0_aboutReport 40 = .ok (.getfield 35, 3) := by decide +kernel
theorem dX0_aboutReport_43 : decode cX0_aboutReport 43 = .ok (.iload_n 1, 1) := by decide +kernel
theorem dX0_aboutReport_44 : decode cX0_aboutReport 44 = .ok (.iaload, 1) := by decide +kernel
theorem dX0_aboutReport_45 : decode cX0_aboutReport 45 = .ok (.goto 5, 3) := by decide +kernel
theorem dX0_aboutReport_48 : decode cX0_aboutReport 48 = .ok (.bipush (-2), 2) := by decide +kernel
theorem dX0_aboutReport_50 : decode cX0_aboutReport 50 = .ok (.ireturn, 1) := by decide +kernel
theorem dX0_number_0 : decode cX0_number 0 = .ok (.iload_n 1, 1) := by decide +kernel
theorem dX0_number_1 : decode cX0_number 1 = .ok (.lookupswitch 50 #[(1, 35), (11, 40), (12, 45)], 35) := by decide +kernel
theorem dX0_number_36 : decode cX0_number 36 = .ok (.aload_n 0, 1) := by decide +kernel
theorem dX0_number_37 : decode cX0_number 37 = .ok (.getfield 51, 3) := by decide +kernel
theorem dX0_number_40 : decode cX0_number 40 = .ok (.ireturn, 1) := by decide +kernel
theorem dX0_number_41 : decode cX0_number 41 = .ok (.aload_n 0, 1) := by decide +kernel
theorem dX0_number_42 : decode cX0_number 42 = .ok (.getfield 59, 3) := by decide +kernel
theorem dX0_number_45 : decode cX0_number 45 = .ok (.ireturn, 1) := by decide +kernel
theorem dX0_number_46 : decode cX0_number 46 = .ok (.aload_n 0, 1) := by decide +kernel
theorem dX0_number_47 : decode cX0_number 47 = .ok (.getfield 62, 3) := by decide +kernel
theorem dX0_number_50 : decode cX0_number 50 = .ok (.ireturn, 1) := by decide +kernel
theorem dX0_number_51 : decode cX0_number 51 = .ok (.iload_n 1, 1) := by decide +kernel
theorem dX0_number_52 : decode cX0_number 52 = .ok (.ifCond .lt 19, 3) := by decide +kernel
theorem dX0_number_55 : decode cX0_number 55 = .ok (.iload_n 1, 1) := by decide +kernel
theorem dX0_number_56 : decode cX0_number 56 = .ok (.aload_n 0, 1) := by decide +kernel
theorem dX0_number_57 : decode cX0_number 57 = .ok (.getfield 23, 3) := by decide +kernel
theorem dX0_number_60 : decode cX0_number 60 = .ok (.arraylength, 1) := by decide +kernel
theorem dX0_number_61 : decode cX0_number 61 = .ok (.if_icmp .ge 10, 3) := by decide +kernel
theorem dX0_number_64 : decode cX0_number 64 = .ok (.aload_n 0, 1) := by decide +kernel
theorem dX0_number_65 : decode cX0_number 65 = .ok (.getfield 23, 3) := by decide +kernel
theorem dX0_number_68 : decode cX0_number 68 = .ok (.iload_n 1, 1) := by decide +kernel
theorem dX0_number_69 : decode cX0_number 69 = .ok (.iaload, 1) := by decide +kernel
theorem dX0_number_70 : decode cX0_number 70 = .ok (.ireturn, 1) := by decide +kernel
theorem dX0_number_71 : decode cX0_number 71 = .ok (.iload_n 1, 1) := by decide +kernel
theorem dX0_number_72 : decode cX0_number 72 = .ok (.bipush 14, 2) := by decide +kernel
theorem dX0_number_74 : decode cX0_number 74 = .ok (.isub, 1) := by decide +kernel
theorem dX0_number_75 : decode cX0_number 75 = .ok (.istore_n 2, 1) := by decide +kernel
theorem dX0_number_76 : decode cX0_number 76 = .ok (.iload_n 2, 1) := by decide +kernel
theorem dX0_number_77 : decode cX0_number 77 = .ok (.ifCond .lt 21, 3) := by decide +kernel
theorem dX0_number_80 : decode cX0_number 80 = .ok (.iload_n 2, 1) := by decide +kernel
theorem dX0_number_81 : decode cX0_number 81 = .ok (.aload_n 0, 1) := by decide +kernel
theorem dX0_number_82 : decode cX0_number 82 = .ok (.getfield 20, 3) := by decide +kernel
theorem dX0_number_85 : decode cX0_number 85 = .ok (.arraylength, 1) := by decide +kernel
theorem dX0_number_86 : decode cX0_number 86 = .ok (.if_icmp .ge 12, 3) := by decide +kernel
theorem dX0_number_89 : decode cX0_number 89 = .ok (.aload_n 0, 1) := by decide +kernel
theorem dX0_number_90 : decode cX0_number 90 = .ok (.getfield 20, 3) := by decide +kernel
theorem dX0_number_93 : decode cX0_number 93 = .ok (.iload_n 2, 1) := by decide +kernel
theorem dX0_number_94 : decode cX0_number 94 = .ok (.iaload, 1) := by decide +kernel
theorem dX0_number_95 : decode cX0_number 95 = .ok (.goto 5, 3) := by decide +kernel
theorem dX0_number_98 : decode cX0_number 98 = .ok (.bipush (-2), 2) := by decide +kernel
theorem dX0_number_100 : decode cX0_number 100 = .ok (.ireturn, 1) := by decide +kernel
set_option maxRecDepth 20000 in
theorem ggX0_tickOn_X0_moveOn : GoodIn wsX0_tickOn wsX0_moveOn := goodIn_r _ [6, 7, 8, 9, 10, 1, 11, 87, 88, 89, 90, 91, 92, 93, 94, 95, 96, 97, 98, 99, 100, 101, 102, 103] (by decide +kernel) (by decide +kernel)
set_option maxRecDepth 20000 in
theorem gX0_tickOn_X0_moveOn : GoodIn wsX0_tickOn (wsV RX0 113 RX0 yX0_moveOn wsX0_moveOn) := goodIn_app (goodIn_of _ (by decide +kernel)) ggX0_tickOn_X0_moveOn
set_option maxRecDepth 20000 in
theorem ggX0_tickOn_X0_seeBoxes : GoodIn wsX0_tickOn wsX0_seeBoxes := goodIn_r _ [15, 8, 9, 16, 10, 17, 18, 19, 5, 20, 21, 22, 1, 7, 23, 87, 88, 89, 90, 91, 92, 93, 94, 95, 96, 97, 98, 99, 100, 101, 102, 103] (by decide +kernel) (by decide +kernel)
set_option maxRecDepth 20000 in
theorem gX0_tickOn_X0_seeBoxes : GoodIn wsX0_tickOn (wsV RX0 116 RX0 yX0_seeBoxes wsX0_seeBoxes) := goodIn_app (goodIn_of _ (by decide +kernel)) ggX0_tickOn_X0_seeBoxes
set_option maxRecDepth 20000 in
theorem ggX0_tickOn_X0_countPlansDown : GoodIn wsX0_tickOn wsX0_countPlansDown := goodIn_r _ [27, 28, 29, 7, 87, 88, 89, 90, 91, 92, 93, 94, 95, 96] (by decide +kernel) (by decide +kernel)
set_option maxRecDepth 20000 in
theorem gX0_tickOn_X0_countPlansDown : GoodIn wsX0_tickOn (wsV RX0 119 RX0 yX0_countPlansDown wsX0_countPlansDown) := goodIn_app (goodIn_of _ (by decide +kernel)) ggX0_tickOn_X0_countPlansDown
set_option maxRecDepth 20000 in
theorem ggX0_tickOn_X0_takeReports : GoodIn wsX0_tickOn wsX0_takeReports := goodIn_r _ [33, 21, 22, 1, 23, 34, 35, 36, 5, 37, 28, 29, 7, 38, 39, 40, 41, 11, 87, 88, 89, 90, 91, 92, 93, 94, 95, 96] (by decide +kernel) (by decide +kernel)
set_option maxRecDepth 20000 in
theorem gX0_tickOn_X0_takeReports : GoodIn wsX0_tickOn (wsV RX0 122 RX0 yX0_takeReports wsX0_takeReports) := goodIn_app (goodIn_of _ (by decide +kernel)) ggX0_tickOn_X0_takeReports
set_option maxRecDepth 20000 in
theorem ggX0_tickOn_X0_doPlans : GoodIn wsX0_tickOn wsX0_doPlans := goodIn_r _ [45, 28, 29, 46, 47, 48, 5, 49, 1, 7, 8, 9, 50, 51, 52, 53, 54, 55, 56, 57, 58, 59, 60, 61, 62, 10, 63, 87, 88, 89, 90, 91, 92, 93, 94, 95, 96, 97, 98, 99, 100, 101, 102, 103] (by decide +kernel) (by decide +kernel)
set_option maxRecDepth 20000 in
theorem gX0_tickOn_X0_doPlans : GoodIn wsX0_tickOn (wsV RX0 125 RX0 yX0_doPlans wsX0_doPlans) := goodIn_app (goodIn_of _ (by decide +kernel)) ggX0_tickOn_X0_doPlans
set_option maxRecDepth 20000 in
theorem ggX0_tickOn_X0_feed : GoodIn wsX0_tickOn wsX0_feed := goodIn_r _ [67, 1, 7, 68, 69, 70, 71, 87, 88, 89, 90, 91, 92, 93, 94, 95, 96] (by decide +kernel) (by decide +kernel)
set_option maxRecDepth 20000 in
theorem gX0_tickOn_X0_feed : GoodIn wsX0_tickOn (wsV RX0 128 RX0 yX0_feed wsX0_feed) := goodIn_app (goodIn_of _ (by decide +kernel)) ggX0_tickOn_X0_feed
set_option maxRecDepth 20000 in
theorem ggX0_tickOn_X0_letBoxesLeave : GoodIn wsX0_tickOn wsX0_letBoxesLeave := goodIn_r _ [75, 8, 9, 1, 76, 77, 78, 53, 79, 55, 56, 80, 81, 82, 5, 83, 61, 63, 7, 84, 85, 70, 86, 62, 87, 88, 89, 90, 91, 92, 93, 94, 95, 96, 97, 98, 99, 100, 101, 102, 103] (by decide +kernel) (by decide +kernel)
set_option maxRecDepth 20000 in
theorem gX0_tickOn_X0_letBoxesLeave : GoodIn wsX0_tickOn (wsV RX0 131 RX0 yX0_letBoxesLeave wsX0_letBoxesLeave) := goodIn_app (goodIn_of _ (by decide +kernel)) ggX0_tickOn_X0_letBoxesLeave
theorem dX0_tickOn_0 : decode cX0_tickOn 0 = .ok (.iconst 0, 1) := by decide +kernel
theorem dX0_tickOn_1 : decode cX0_tickOn 1 = .ok (.istore_n 2, 1) := by decide +kernel
theorem dX0_tickOn_2 : decode cX0_tickOn 2 = .ok (.iload_n 2, 1) := by decide +kernel
theorem dX0_tickOn_3 : decode cX0_tickOn 3 = .ok (.iload_n 1, 1) := by decide +kernel
theorem dX0_tickOn_4 : decode cX0_tickOn 4 = .ok (.if_icmp .ge 47, 3) := by decide +kernel
theorem dX0_tickOn_7 : decode cX0_tickOn 7 = .ok (.aload_n 0, 1) := by decide +kernel
theorem dX0_tickOn_8 : decode cX0_tickOn 8 = .ok (.invokevirtual 113, 3) := by decide +kernel
theorem dX0_tickOn_11 : decode cX0_tickOn 11 = .ok (.aload_n 0, 1) := by decide +kernel
theorem dX0_tickOn_12 : decode cX0_tickOn 12 = .ok (.invokevirtual 116, 3) := by decide +kernel
theorem dX0_tickOn_15 : decode cX0_tickOn 15 = .ok (.aload_n 0, 1) := by decide +kernel
theorem dX0_tickOn_16 : decode cX0_tickOn 16 = .ok (.invokevirtual 119, 3) := by decide +kernel
theorem dX0_tickOn_19 : decode cX0_tickOn 19 = .ok (.aload_n 0, 1) := by decide +kernel
theorem dX0_tickOn_20 : decode cX0_tickOn 20 = .ok (.invokevirtual 122, 3) := by decide +kernel
theorem dX0_tickOn_23 : decode cX0_tickOn 23 = .ok (.aload_n 0, 1) := by decide +kernel
theorem dX0_tickOn_24 : decode cX0_tickOn 24 = .ok (.invokevirtual 125, 3) := by decide +kernel
theorem dX0_tickOn_27 : decode cX0_tickOn 27 = .ok (.aload_n 0, 1) := by decide +kernel
theorem dX0_tickOn_28 : decode cX0_tickOn 28 = .ok (.invokevirtual 128, 3) := by decide +kernel
theorem dX0_tickOn_31 : decode cX0_tickOn 31 = .ok (.aload_n 0, 1) := by decide +kernel
theorem dX0_tickOn_32 : decode cX0_tickOn 32 = .ok (.invokevirtual 131, 3) := by decide +kernel
theorem dX0_tickOn_35 : decode cX0_tickOn 35 = .ok (.aload_n 0, 1) := by decide +kernel
theorem dX0_tickOn_36 : decode cX0_tickOn 36 = .ok (.getfield 23, 3) := by decide +kernel
theorem dX0_tickOn_39 : decode cX0_tickOn 39 = .ok (.iconst 0, 1) := by decide +kernel
theorem dX0_tickOn_40 : decode cX0_tickOn 40 = .ok (.dup2, 1) := by decide +kernel
theorem dX0_tickOn_41 : decode cX0_tickOn 41 = .ok (.iaload, 1) := by decide +kernel
theorem dX0_tickOn_42 : decode cX0_tickOn 42 = .ok (.iconst 1, 1) := by decide +kernel
theorem dX0_tickOn_43 : decode cX0_tickOn 43 = .ok (.iadd, 1) := by decide +kernel
theorem dX0_tickOn_44 : decode cX0_tickOn 44 = .ok (.iastore, 1) := by decide +kernel
theorem dX0_tickOn_45 : decode cX0_tickOn 45 = .ok (.iinc 2 1, 3) := by decide +kernel
theorem dX0_tickOn_48 : decode cX0_tickOn 48 = .ok (.goto (-46), 3) := by decide +kernel
theorem dX0_tickOn_51 : decode cX0_tickOn 51 = .ok (.return_, 1) := by decide +kernel
theorem dX0_moveOn_0 : decode cX0_moveOn 0 = .ok (.aload_n 0, 1) := by decide +kernel
theorem dX0_moveOn_1 : decode cX0_moveOn 1 = .ok (.getfield 20, 3) := by decide +kernel
theorem dX0_moveOn_4 : decode cX0_moveOn 4 = .ok (.iconst 0, 1) := by decide +kernel
theorem dX0_moveOn_5 : decode cX0_moveOn 5 = .ok (.iaload, 1) := by decide +kernel
theorem dX0_moveOn_6 : decode cX0_moveOn 6 = .ok (.istore_n 1, 1) := by decide +kernel
theorem dX0_moveOn_7 : decode cX0_moveOn 7 = .ok (.iconst 0, 1) := by decide +kernel
theorem dX0_moveOn_8 : decode cX0_moveOn 8 = .ok (.istore_n 2, 1) := by decide +kernel
theorem dX0_moveOn_9 : decode cX0_moveOn 9 = .ok (.iload_n 2, 1) := by decide +kernel
theorem dX0_moveOn_10 : decode cX0_moveOn 10 = .ok (.aload_n 0, 1) := by decide +kernel
theorem dX0_moveOn_11 : decode cX0_moveOn 11 = .ok (.getfield 51, 3) := by decide +kernel
theorem dX0_moveOn_14 : decode cX0_moveOn 14 = .ok (.if_icmp .ge 24, 3) := by decide +kernel
theorem dX0_moveOn_17 : decode cX0_moveOn 17 = .ok (.aload_n 0, 1) := by decide +kernel
theorem dX0_moveOn_18 : decode cX0_moveOn 18 = .ok (.getfield 28, 3) := by decide +kernel
theorem dX0_moveOn_21 : decode cX0_moveOn 21 = .ok (.iload_n 2, 1) := by decide +kernel
theorem dX0_moveOn_22 : decode cX0_moveOn 22 = .ok (.aaload, 1) := by decide +kernel
theorem dX0_moveOn_23 : decode cX0_moveOn 23 = .ok (.dup, 1) := by decide +kernel
theorem dX0_moveOn_24 : decode cX0_moveOn 24 = .ok (.getfield 86, 3) := by decide +kernel
theorem dX0_moveOn_27 : decode cX0_moveOn 27 = .ok (.iload_n 1, 1) := by decide +kernel
theorem dX0_moveOn_28 : decode cX0_moveOn 28 = .ok (.iadd, 1) := by decide +kernel
theorem dX0_moveOn_29 : decode cX0_moveOn 29 = .ok (.putfield 86, 3) := by decide +kernel
theorem dX0_moveOn_32 : decode cX0_moveOn 32 = .ok (.iinc 2 1, 3) := by decide +kernel
theorem dX0_moveOn_35 : decode cX0_moveOn 35 = .ok (.goto (-26), 3) := by decide +kernel
theorem dX0_moveOn_38 : decode cX0_moveOn 38 = .ok (.aload_n 0, 1) := by decide +kernel
theorem dX0_moveOn_39 : decode cX0_moveOn 39 = .ok (.getfield 23, 3) := by decide +kernel
theorem dX0_moveOn_42 : decode cX0_moveOn 42 = .ok (.bipush 13, 2) := by decide +kernel
theorem dX0_moveOn_44 : decode cX0_moveOn 44 = .ok (.dup2, 1) := by decide +kernel
theorem dX0_moveOn_45 : decode cX0_moveOn 45 = .ok (.iaload, 1) := by decide +kernel
theorem dX0_moveOn_46 : decode cX0_moveOn 46 = .ok (.iload_n 1, 1) := by decide +kernel
theorem dX0_moveOn_47 : decode cX0_moveOn 47 = .ok (.iadd, 1) := by decide +kernel
theorem dX0_moveOn_48 : decode cX0_moveOn 48 = .ok (.iastore, 1) := by decide +kernel
theorem dX0_moveOn_49 : decode cX0_moveOn 49 = .ok (.aload_n 0, 1) := by decide +kernel
theorem dX0_moveOn_50 : decode cX0_moveOn 50 = .ok (.getfield 41, 3) := by decide +kernel
theorem dX0_moveOn_53 : decode cX0_moveOn 53 = .ok (.arraylength, 1) := by decide +kernel
theorem dX0_moveOn_54 : decode cX0_moveOn 54 = .ok (.iconst 1, 1) := by decide +kernel
theorem dX0_moveOn_55 : decode cX0_moveOn 55 = .ok (.isub, 1) := by decide +kernel
theorem dX0_moveOn_56 : decode cX0_moveOn 56 = .ok (.istore_n 2, 1) := by decide +kernel
theorem dX0_moveOn_57 : decode cX0_moveOn 57 = .ok (.iload_n 2, 1) := by decide +kernel
theorem dX0_moveOn_58 : decode cX0_moveOn 58 = .ok (.ifCond .le 23, 3) := by decide +kernel
theorem dX0_moveOn_61 : decode cX0_moveOn 61 = .ok (.aload_n 0, 1) := by decide +kernel
theorem dX0_moveOn_62 : decode cX0_moveOn 62 = .ok (.getfield 41, 3) := by decide +kernel
theorem dX0_moveOn_65 : decode cX0_moveOn 65 = .ok (.iload_n 2, 1) := by decide +kernel
theorem dX0_moveOn_66 : decode cX0_moveOn 66 = .ok (.aload_n 0, 1) := by decide +kernel
theorem dX0_moveOn_67 : decode cX0_moveOn 67 = .ok (.getfield 41, 3) := by decide +kernel
theorem dX0_moveOn_70 : decode cX0_moveOn 70 = .ok (.iload_n 2, 1) := by decide +kernel
theorem dX0_moveOn_71 : decode cX0_moveOn 71 = .ok (.iconst 1, 1) := by decide +kernel
theorem dX0_moveOn_72 : decode cX0_moveOn 72 = .ok (.isub, 1) := by decide +kernel
theorem dX0_moveOn_73 : decode cX0_moveOn 73 = .ok (.iaload, 1) := by decide +kernel
theorem dX0_moveOn_74 : decode cX0_moveOn 74 = .ok (.iastore, 1) := by decide +kernel
theorem dX0_moveOn_75 : decode cX0_moveOn 75 = .ok (.iinc 2 (-1), 3) := by decide +kernel
theorem dX0_moveOn_78 : decode cX0_moveOn 78 = .ok (.goto (-21), 3) := by decide +kernel
theorem dX0_moveOn_81 : decode cX0_moveOn 81 = .ok (.aload_n 0, 1) := by decide +kernel
theorem dX0_moveOn_82 : decode cX0_moveOn 82 = .ok (.getfield 41, 3) := by decide +kernel
theorem dX0_moveOn_85 : decode cX0_moveOn 85 = .ok (.iconst 0, 1) := by decide +kernel
theorem dX0_moveOn_86 : decode cX0_moveOn 86 = .ok (.iload_n 1, 1) := by decide +kernel
theorem dX0_moveOn_87 : decode cX0_moveOn 87 = .ok (.iastore, 1) := by decide +kernel
theorem dX0_moveOn_88 : decode cX0_moveOn 88 = .ok (.return_, 1) := by decide +kernel
set_option maxRecDepth 20000 in
theorem ggX0_seeBoxes_X0_addReport : GoodIn wsX0_seeBoxes wsX0_addReport := goodIn_r _ [9, 10, 11, 12, 13, 14, 15, 16, 17, 18, 19, 20, 21, 22, 23, 24] (by decide +kernel) (by decide +kernel)
set_option maxRecDepth 20000 in
theorem gX0_seeBoxes_X0_addReport : GoodIn wsX0_seeBoxes (wsV RX0 138 RX0 yX0_addReport wsX0_addReport) := goodIn_app (goodIn_of _ (by decide +kernel)) ggX0_seeBoxes_X0_addReport
theorem dX0_seeBoxes_0 : decode cX0_seeBoxes 0 = .ok (.iconst 0, 1) := by decide +kernel
theorem dX0_seeBoxes_1 : decode cX0_seeBoxes 1 = .ok (.istore_n 1, 1) := by decide +kernel
theorem dX0_seeBoxes_2 : decode cX0_seeBoxes 2 = .ok (.iload_n 1, 1) := by decide +kernel
theorem dX0_seeBoxes_3 : decode cX0_seeBoxes 3 = .ok (.aload_n 0, 1) := by decide +kernel
theorem dX0_seeBoxes_4 : decode cX0_seeBoxes 4 = .ok (.getfield 51, 3) := by decide +kernel
theorem dX0_seeBoxes_7 : decode cX0_seeBoxes 7 = .ok (.if_icmp .ge 48, 3) := by decide +kernel
theorem dX0_seeBoxes_10 : decode cX0_seeBoxes 10 = .ok (.aload_n 0, 1) := by decide +kernel
theorem dX0_seeBoxes_11 : decode cX0_seeBoxes 11 = .ok (.getfield 28, 3) := by decide +kernel
theorem dX0_seeBoxes_14 : decode cX0_seeBoxes 14 = .ok (.iload_n 1, 1) := by decide +kernel
theorem dX0_seeBoxes_15 : decode cX0_seeBoxes 15 = .ok (.aaload, 1) := by decide +kernel
theorem dX0_seeBoxes_16 : decode cX0_seeBoxes 16 = .ok (.astore_n 2, 1) := by decide +kernel
theorem dX0_seeBoxes_17 : decode cX0_seeBoxes 17 = .ok (.aload_n 2, 1) := by decide +kernel
theorem dX0_seeBoxes_18 : decode cX0_seeBoxes 18 = .ok (.getfield 134, 3) := by decide +kernel
theorem dX0_seeBoxes_21 : decode cX0_seeBoxes 21 = .ok (.ifCond .ne 28, 3) := by decide +kernel
theorem dX0_seeBoxes_24 : decode cX0_seeBoxes 24 = .ok (.aload_n 2, 1) := by decide +kernel
theorem dX0_seeBoxes_25 : decode cX0_seeBoxes 25 = .ok (.getfield 86, 3) := by decide +kernel
theorem dX0_seeBoxes_28 : decode cX0_seeBoxes 28 = .ok (.bipush 20, 2) := by decide +kernel
theorem dX0_seeBoxes_30 : decode cX0_seeBoxes 30 = .ok (.if_icmp .lt 19, 3) := by decide +kernel
theorem dX0_seeBoxes_33 : decode cX0_seeBoxes 33 = .ok (.aload_n 2, 1) := by decide +kernel
theorem dX0_seeBoxes_34 : decode cX0_seeBoxes 34 = .ok (.iconst 1, 1) := by decide +kernel
theorem dX0_seeBoxes_35 : decode cX0_seeBoxes 35 = .ok (.putfield 134, 3) := by decide +kernel
theorem dX0_seeBoxes_38 : decode cX0_seeBoxes 38 = .ok (.aload_n 0, 1) := by decide +kernel
theorem dX0_seeBoxes_39 : decode cX0_seeBoxes 39 = .ok (.aload_n 2, 1) := by decide +kernel
theorem dX0_seeBoxes_40 : decode cX0_seeBoxes 40 = .ok (.getfield 86, 3) := by decide +kernel
theorem dX0_seeBoxes_43 : decode cX0_seeBoxes 43 = .ok (.bipush 20, 2) := by decide +kernel
theorem dX0_seeBoxes_45 : decode cX0_seeBoxes 45 = .ok (.isub, 1) := by decide +kernel
theorem dX0_seeBoxes_46 : decode cX0_seeBoxes 46 = .ok (.invokevirtual 138, 3) := by decide +kernel
theorem dX0_seeBoxes_49 : decode cX0_seeBoxes 49 = .ok (.iinc 1 1, 3) := by decide +kernel
theorem dX0_seeBoxes_52 : decode cX0_seeBoxes 52 = .ok (.goto (-50), 3) := by decide +kernel
theorem dX0_seeBoxes_55 : decode cX0_seeBoxes 55 = .ok (.return_, 1) := by decide +kernel
theorem dX0_addReport_0 : decode cX0_addReport 0 = .ok (.aload_n 0, 1) := by decide +kernel
theorem dX0_addReport_1 : decode cX0_addReport 1 = .ok (.getfield 59, 3) := by decide +kernel
theorem dX0_addReport_4 : decode cX0_addReport 4 = .ok (.bipush 32, 2) := by decide +kernel
theorem dX0_addReport_6 : decode cX0_addReport 6 = .ok (.if_icmp .ge 45, 3) := by decide +kernel
theorem dX0_addReport_9 : decode cX0_addReport 9 = .ok (.aload_n 0, 1) := by decide +kernel
theorem dX0_addReport_10 : decode cX0_addReport 10 = .ok (.getfield 32, 3) := by decide +kernel
theorem dX0_addReport_13 : decode cX0_addReport 13 = .ok (.aload_n 0, 1) := by decide +kernel
theorem dX0_addReport_14 : decode cX0_addReport 14 = .ok (.getfield 59, 3) := by decide +kernel
theorem dX0_addReport_17 : decode cX0_addReport 17 = .ok (.aload_n 0, 1) := by decide +kernel
theorem dX0_addReport_18 : decode cX0_addReport 18 = .ok (.getfield 23, 3) := by decide +kernel
theorem dX0_addReport_21 : decode cX0_addReport 21 = .ok (.iconst 0, 1) := by decide +kernel
theorem dX0_addReport_22 : decode cX0_addReport 22 = .ok (.iaload, 1) := by decide +kernel
theorem dX0_addReport_23 : decode cX0_addReport 23 = .ok (.aload_n 0, 1) := by decide +kernel
theorem dX0_addReport_24 : decode cX0_addReport 24 = .ok (.getfield 20, 3) := by decide +kernel
theorem dX0_addReport_27 : decode cX0_addReport 27 = .ok (.iconst 1, 1) := by decide +kernel
theorem dX0_addReport_28 : decode cX0_addReport 28 = .ok (.iaload, 1) := by decide +kernel
theorem dX0_addReport_29 : decode cX0_addReport 29 = .ok (.iadd, 1) := by decide +kernel
theorem dX0_addReport_30 : decode cX0_addReport 30 = .ok (.iastore, 1) := by decide +kernel
theorem dX0_addReport_31 : decode cX0_addReport 31 = .ok (.aload_n 0, 1) := by decide +kernel
theorem dX0_addReport_32 : decode cX0_addReport 32 = .ok (.getfield 35, 3) := by decide +kernel
theorem dX0_addReport_35 : decode cX0_addReport 35 = .ok (.aload_n 0, 1) := by decide +kernel
theorem dX0_addReport_36 : decode cX0_addReport 36 = .ok (.getfield 59, 3) := by decide +kernel
theorem dX0_addReport_39 : decode cX0_addReport 39 = .ok (.iload_n 1, 1) := by decide +kernel
theorem dX0_addReport_40 : decode cX0_addReport 40 = .ok (.iastore, 1) := by decide +kernel
theorem dX0_addReport_41 : decode cX0_addReport 41 = .ok (.aload_n 0, 1) := by decide +kernel
theorem dX0_addReport_42 : decode cX0_addReport 42 = .ok (.dup, 1) := by decide +kernel
theorem dX0_addReport_43 : decode cX0_addReport 43 = .ok (.getfield 59, 3) := by decide +kernel
theorem dX0_addReport_46 : decode cX0_addReport 46 = .ok (.iconst 1, 1) := by decide +kernel
theorem dX0_addReport_47 : decode cX0_addReport 47 = .ok (.iadd, 1) := by decide +kernel
theorem dX0_addReport_48 : decode cX0_addReport 48 = .ok (.putfield 59, 3) := by decide +kernel
theorem dX0_addReport_51 : decode cX0_addReport 51 = .ok (.return_, 1) := by decide +kernel
theorem dX0_countPlansDown_0 : decode cX0_countPlansDown 0 = .ok (.iconst 0, 1) := by decide +kernel
theorem dX0_countPlansDown_1 : decode cX0_countPlansDown 1 = .ok (.istore_n 1, 1) := by decide +kernel
theorem dX0_countPlansDown_2 : decode cX0_countPlansDown 2 = .ok (.iload_n 1, 1) := by decide +kernel
theorem dX0_countPlansDown_3 : decode cX0_countPlansDown 3 = .ok (.aload_n 0, 1) := by decide +kernel
theorem dX0_countPlansDown_4 : decode cX0_countPlansDown 4 = .ok (.getfield 62, 3) := by decide +kernel
theorem dX0_countPlansDown_7 : decode cX0_countPlansDown 7 = .ok (.if_icmp .ge 24, 3) := by decide +kernel
theorem dX0_countPlansDown_10 : decode cX0_countPlansDown 10 = .ok (.aload_n 0, 1) := by decide +kernel
theorem dX0_countPlansDown_11 : decode cX0_countPlansDown 11 = .ok (.getfield 38, 3) := by decide +kernel
theorem dX0_countPlansDown_14 : decode cX0_countPlansDown 14 = .ok (.iload_n 1, 1) := by decide +kernel
theorem dX0_countPlansDown_15 : decode cX0_countPlansDown 15 = .ok (.dup2, 1) := by decide +kernel
theorem dX0_countPlansDown_16 : decode cX0_countPlansDown 16 = .ok (.iaload, 1) := by decide +kernel
theorem dX0_countPlansDown_17 : decode cX0_countPlansDown 17 = .ok (.aload_n 0, 1) := by decide +kernel
theorem dX0_countPlansDown_18 : decode cX0_countPlansDown 18 = .ok (.getfield 20, 3) := by decide +kernel
theorem dX0_countPlansDown_21 : decode cX0_countPlansDown 21 = .ok (.iconst 0, 1) := by decide +kernel
theorem dX0_countPlansDown_22 : decode cX0_countPlansDown 22 = .ok (.iaload, 1) := by decide +kernel
theorem dX0_countPlansDown_23 : decode cX0_countPlansDown 23 = .ok (.isub, 1) := by decide +kernel
theorem dX0_countPlansDown_24 : decode cX0_countPlansDown 24 = .ok (.iastore, 1) := by decide +kernel
theorem dX0_countPlansDown_25 : decode cX0_countPlansDown 25 = .ok (.iinc 1 1, 3) := by decide +kernel
theorem dX0_countPlansDown_28 : decode cX0_countPlansDown 28 = .ok (.goto (-26), 3) := by decide +kernel
theorem dX0_countPlansDown_31 : decode cX0_countPlansDown 31 = .ok (.return_, 1) := by decide +kernel
set_option maxRecDepth 20000 in
theorem ggX0_takeReports_X0_addPlan : GoodIn wsX0_takeReports wsX0_addPlan := goodIn_r _ [9, 10, 11, 12, 13, 14, 15, 8, 16, 17, 18, 19, 20, 21, 22, 23, 24, 25, 26, 27] (by decide +kernel) (by decide +kernel)
set_option maxRecDepth 20000 in
theorem gX0_takeReports_X0_addPlan : GoodIn wsX0_takeReports (wsV RX0 141 RX0 yX0_addPlan wsX0_addPlan) := goodIn_app (goodIn_of _ (by decide +kernel)) ggX0_takeReports_X0_addPlan
theorem dX0_takeReports_0 : decode cX0_takeReports 0 = .ok (.iconst 0, 1) := by decide +kernel
theorem dX0_takeReports_1 : decode cX0_takeReports 1 = .ok (.istore_n 1, 1) := by decide +kernel
theorem dX0_takeReports_2 : decode cX0_takeReports 2 = .ok (.iconst 0, 1) := by decide +kernel
theorem dX0_takeReports_3 : decode cX0_takeReports 3 = .ok (.istore_n 2, 1) := by decide +kernel
theorem dX0_takeReports_4 : decode cX0_takeReports 4 = .ok (.iload_n 2, 1) := by decide +kernel
theorem dX0_takeReports_5 : decode cX0_takeReports 5 = .ok (.aload_n 0, 1) := by decide +kernel
theorem dX0_takeReports_6 : decode cX0_takeReports 6 = .ok (.getfield 59, 3) := by decide +kernel
theorem dX0_takeReports_9 : decode cX0_takeReports 9 = .ok (.if_icmp .ge 64, 3) := by decide +kernel
theorem dX0_takeReports_12 : decode cX0_takeReports 12 = .ok (.aload_n 0, 1) := by decide +kernel
theorem dX0_takeReports_13 : decode cX0_takeReports 13 = .ok (.getfield 32, 3) := by decide +kernel
theorem dX0_takeReports_16 : decode cX0_takeReports 16 = .ok (.iload_n 2, 1) := by decide +kernel
theorem dX0_takeReports_17 : decode cX0_takeReports 17 = .ok (.iaload, 1) := by decide +kernel
theorem dX0_takeReports_18 : decode cX0_takeReports 18 = .ok (.aload_n 0, 1) := by decide +kernel
theorem dX0_takeReports_19 : decode cX0_takeReports 19 = .ok (.getfield 23, 3) := by decide +kernel
theorem dX0_takeReports_22 : decode cX0_takeReports 22 = .ok (.iconst 0, 1) := by decide +kernel
theorem dX0_takeReports_23 : decode cX0_takeReports 23 = .ok (.iaload, 1) := by decide +kernel
theorem dX0_takeReports_24 : decode cX0_takeReports 24 = .ok (.if_icmp .gt 16, 3) := by decide +kernel
theorem dX0_takeReports_27 : decode cX0_takeReports 27 = .ok (.aload_n 0, 1) := by decide +kernel
theorem dX0_takeReports_28 : decode cX0_takeReports 28 = .ok (.aload_n 0, 1) := by decide +kernel
theorem dX0_takeReports_29 : decode cX0_takeReports 29 = .ok (.getfield 35, 3) := by decide +kernel
theorem dX0_takeReports_32 : decode cX0_takeReports 32 = .ok (.iload_n 2, 1) := by decide +kernel
theorem dX0_takeReports_33 : decode cX0_takeReports 33 = .ok (.iaload, 1) := by decide +kernel
theorem dX0_takeReports_34 : decode cX0_takeReports 34 = .ok (.invokevirtual 141, 3) := by decide +kernel
theorem dX0_takeReports_37 : decode cX0_takeReports 37 = .ok (.goto 30, 3) := by decide +kernel
theorem dX0_takeReports_40 : decode cX0_takeReports 40 = .ok (.aload_n 0, 1) := by decide +kernel
theorem dX0_takeReports_41 : decode cX0_takeReports 41 = .ok (.getfield 32, 3) := by decide +kernel
theorem dX0_takeReports_44 : decode cX0_takeReports 44 = .ok (.iload_n 1, 1) := by decide +kernel
theorem dX0_takeReports_45 : decode cX0_takeReports 45 = .ok (.aload_n 0, 1) := by decide +kernel
theorem dX0_takeReports_46 : decode cX0_takeReports 46 = .ok (.getfield 32, 3) := by decide +kernel
theorem dX0_takeReports_49 : decode cX0_takeReports 49 = .ok (.iload_n 2, 1) := by decide +kernel
theorem dX0_takeReports_50 : decode cX0_takeReports 50 = .ok (.iaload, 1) := by decide +kernel
theorem dX0_takeReports_51 : decode cX0_takeReports 51 = .ok (.iastore, 1) := by decide +kernel
theorem dX0_takeReports_52 : decode cX0_takeReports 52 = .ok (.aload_n 0, 1) := by decide +kernel
theorem dX0_takeReports_53 : decode cX0_takeReports 53 = .ok (.getfield 35, 3) := by decide +kernel
theorem dX0_takeReports_56 : decode cX0_takeReports 56 = .ok (.iload_n 1, 1) := by decide +kernel
theorem dX0_takeReports_57 : decode cX0_takeReports 57 = .ok (.aload_n 0, 1) := by decide +kernel
theorem dX0_takeReports_58 : decode cX0_takeReports 58 = .ok (.getfield 35, 3) := by decide +kernel
theorem dX0_takeReports_61 : decode cX0_takeReports 61 = .ok (.iload_n 2, 1) := by decide +kernel
theorem dX0_takeReports_62 : decode cX0_takeReports 62 = .ok (.iaload, 1) := by decide +kernel
theorem dX0_takeReports_63 : decode cX0_takeReports 63 = .ok (.iastore, 1) := by decide +kernel
theorem dX0_takeReports_64 : decode cX0_takeReports 64 = .ok (.iinc 1 1, 3) := by decide +kernel
theorem dX0_takeReports_67 : decode cX0_takeReports 67 = .ok (.iinc 2 1, 3) := by decide +kernel
theorem dX0_takeReports_70 : decode cX0_takeReports 70 = .ok (.goto (-66), 3) := by decide +kernel
theorem dX0_takeReports_73 : decode cX0_takeReports 73 = .ok (.aload_n 0, 1) := by decide +kernel
theorem dX0_takeReports_74 : decode cX0_takeReports 74 = .ok (.iload_n 1, 1) := by decide +kernel
theorem dX0_takeReports_75 : decode cX0_takeReports 75 = .ok (.putfield 59, 3) := by decide +kernel
theorem dX0_takeReports_78 : decode cX0_takeReports 78 = .ok (.return_, 1) := by decide +kernel
set_option maxRecDepth 20000 in
theorem ggX0_addPlan_X0_guessedWay : GoodIn wsX0_addPlan wsX0_guessedWay := goodIn_r _ [8, 3, 9, 10, 11, 12, 13, 14, 15, 16, 17, 18, 19] (by decide +kernel) (by decide +kernel)
set_option maxRecDepth 20000 in
theorem gX0_addPlan_X0_guessedWay : GoodIn wsX0_addPlan (wsV RX0 144 RX0 yX0_guessedWay wsX0_guessedWay) := goodIn_app (goodIn_of _ (by decide +kernel)) ggX0_addPlan_X0_guessedWay
theorem dX0_addPlan_0 : decode cX0_addPlan 0 = .ok (.aload_n 0, 1) := by decide +kernel
theorem dX0_addPlan_1 : decode cX0_addPlan 1 = .ok (.getfield 62, 3) := by decide +kernel
theorem dX0_addPlan_4 : decode cX0_addPlan 4 = .ok (.bipush 32, 2) := by decide +kernel
theorem dX0_addPlan_6 : decode cX0_addPlan 6 = .ok (.if_icmp .ge 38, 3) := by decide +kernel
theorem dX0_addPlan_9 : decode cX0_addPlan 9 = .ok (.aload_n 0, 1) := by decide +kernel
theorem dX0_addPlan_10 : decode cX0_addPlan 10 = .ok (.getfield 38, 3) := by decide +kernel
theorem dX0_addPlan_13 : decode cX0_addPlan 13 = .ok (.aload_n 0, 1) := by decide +kernel
theorem dX0_addPlan_14 : decode cX0_addPlan 14 = .ok (.getfield 62, 3) := by decide +kernel
theorem dX0_addPlan_17 : decode cX0_addPlan 17 = .ok (.bipush 40, 2) := by decide +kernel
theorem dX0_addPlan_19 : decode cX0_addPlan 19 = .ok (.aload_n 0, 1) := by decide +kernel
theorem dX0_addPlan_20 : decode cX0_addPlan 20 = .ok (.getfield 20, 3) := by decide +kernel
theorem dX0_addPlan_23 : decode cX0_addPlan 23 = .ok (.iconst 3, 1) := by decide +kernel
theorem dX0_addPlan_24 : decode cX0_addPlan 24 = .ok (.iaload, 1) := by decide +kernel
theorem dX0_addPlan_25 : decode cX0_addPlan 25 = .ok (.iadd, 1) := by decide +kernel
theorem dX0_addPlan_26 : decode cX0_addPlan 26 = .ok (.iload_n 1, 1) := by decide +kernel
theorem dX0_addPlan_27 : decode cX0_addPlan 27 = .ok (.isub, 1) := by decide +kernel
theorem dX0_addPlan_28 : decode cX0_addPlan 28 = .ok (.aload_n 0, 1) := by decide +kernel
theorem dX0_addPlan_29 : decode cX0_addPlan 29 = .ok (.invokevirtual 144, 3) := by decide +kernel
theorem dX0_addPlan_32 : decode cX0_addPlan 32 = .ok (.isub, 1) := by decide +kernel
theorem dX0_addPlan_33 : decode cX0_addPlan 33 = .ok (.iastore, 1) := by decide +kernel
theorem dX0_addPlan_34 : decode cX0_addPlan 34 = .ok (.aload_n 0, 1) := by decide +kernel
theorem dX0_addPlan_35 : decode cX0_addPlan 35 = .ok (.dup, 1) := by decide +kernel
theorem dX0_addPlan_36 : decode cX0_addPlan 36 = .ok (.getfield 62, 3) := by decide +kernel
theorem dX0_addPlan_39 : decode cX0_addPlan 39 = .ok (.iconst 1, 1) := by decide +kernel
theorem dX0_addPlan_40 : decode cX0_addPlan 40 = .ok (.iadd, 1) := by decide +kernel
theorem dX0_addPlan_41 : decode cX0_addPlan 41 = .ok (.putfield 62, 3) := by decide +kernel
theorem dX0_addPlan_44 : decode cX0_addPlan 44 = .ok (.return_, 1) := by decide +kernel
theorem dX0_guessedWay_0 : decode cX0_guessedWay 0 = .ok (.iconst 0, 1) := by decide +kernel
theorem dX0_guessedWay_1 : decode cX0_guessedWay 1 = .ok (.istore_n 1, 1) := by decide +kernel
theorem dX0_guessedWay_2 : decode cX0_guessedWay 2 = .ok (.iconst 0, 1) := by decide +kernel
theorem dX0_guessedWay_3 : decode cX0_guessedWay 3 = .ok (.istore_n 2, 1) := by decide +kernel
theorem dX0_guessedWay_4 : decode cX0_guessedWay 4 = .ok (.iload_n 2, 1) := by decide +kernel
theorem dX0_guessedWay_5 : decode cX0_guessedWay 5 = .ok (.aload_n 0, 1) := by decide +kernel
theorem dX0_guessedWay_6 : decode cX0_guessedWay 6 = .ok (.getfield 20, 3) := by decide +kernel
theorem dX0_guessedWay_9 : decode cX0_guessedWay 9 = .ok (.iconst 2, 1) := by decide +kernel
theorem dX0_guessedWay_10 : decode cX0_guessedWay 10 = .ok (.iaload, 1) := by decide +kernel
theorem dX0_guessedWay_11 : decode cX0_guessedWay 11 = .ok (.if_icmp .ge 27, 3) := by decide +kernel
theorem dX0_guessedWay_14 : decode cX0_guessedWay 14 = .ok (.iload_n 2, 1) := by decide +kernel
theorem dX0_guessedWay_15 : decode cX0_guessedWay 15 = .ok (.aload_n 0, 1) := by decide +kernel
theorem dX0_guessedWay_16 : decode cX0_guessedWay 16 = .ok (.getfield 41, 3) := by decide +kernel
theorem dX0_guessedWay_19 : decode cX0_guessedWay 19 = .ok (.arraylength, 1) := by decide +kernel
theorem dX0_guessedWay_20 : decode cX0_guessedWay 20 = .ok (.if_icmp .ge 18, 3) := by decide +kernel
theorem dX0_guessedWay_23 : decode cX0_guessedWay 23 = .ok (.iload_n 1, 1) := by decide +kernel
theorem dX0_guessedWay_24 : decode cX0_guessedWay 24 = .ok (.aload_n 0, 1) := by decide +kernel
theorem dX0_guessedWay_25 : decode cX0_guessedWay 25 = .ok (.getfield 41, 3) := by decide +kernel
theorem dX0_guessedWay_28 : decode cX0_guessedWay 28 = .ok (.iload_n 2, 1) := by decide +kernel
theorem dX0_guessedWay_29 : decode cX0_guessedWay 29 = .ok (.iaload, 1) := by decide +kernel
theorem dX0_guessedWay_30 : decode cX0_guessedWay 30 = .ok (.iadd, 1) := by decide +kernel
theorem dX0_guessedWay_31 : decode cX0_guessedWay 31 = .ok (.istore_n 1, 1) := by decide +kernel
theorem dX0_guessedWay_32 : decode cX0_guessedWay 32 = .ok (.iinc 2 1, 3) := by decide +kernel
theorem dX0_guessedWay_35 : decode cX0_guessedWay 35 = .ok (.goto (-31), 3) := by decide +kernel
theorem dX0_guessedWay_38 : decode cX0_guessedWay 38 = .ok (.iload_n 1, 1) := by decide +kernel
theorem dX0_guessedWay_39 : decode cX0_guessedWay 39 = .ok (.ireturn, 1) := by decide +kernel
set_option maxRecDepth 20000 in
theorem ggX0_doPlans_X0_useLabel : GoodIn wsX0_doPlans wsX0_useLabel := goodIn_r _ [7, 8, 9, 10, 11, 12, 13, 14, 15, 16, 17, 18, 19, 20, 21, 6, 22, 23, 24, 25, 26, 27, 28, 29, 30, 31, 32, 33, 34, 35, 36, 37, 38, 39, 40, 41, 42, 43] (by decide +kernel) (by decide +kernel)
set_option maxRecDepth 20000 in
theorem gX0_doPlans_X0_useLabel : GoodIn wsX0_doPlans (wsV RX0 147 RX0 yX0_useLabel wsX0_useLabel) := goodIn_app (goodIn_of _ (by decide +kernel)) ggX0_doPlans_X0_useLabel
theorem dX0_doPlans_0 : decode cX0_doPlans 0 = .ok (.iconst 0, 1) := by decide +kernel
theorem dX0_doPlans_1 : decode cX0_doPlans 1 = .ok (.istore_n 1, 1) := by decide +kernel
theorem dX0_doPlans_2 : decode cX0_doPlans 2 = .ok (.iconst 0, 1) := by decide +kernel
theorem dX0_doPlans_3 : decode cX0_doPlans 3 = .ok (.istore_n 2, 1) := by decide +kernel
theorem dX0_doPlans_4 : decode cX0_doPlans 4 = .ok (.iload_n 2, 1) := by decide +kernel
theorem dX0_doPlans_5 : decode cX0_doPlans 5 = .ok (.aload_n 0, 1) := by decide +kernel
theorem dX0_doPlans_6 : decode cX0_doPlans 6 = .ok (.getfield 62, 3) := by decide +kernel
theorem dX0_doPlans_9 : decode cX0_doPlans 9 = .ok (.if_icmp .ge 40, 3) := by decide +kernel
theorem dX0_doPlans_12 : decode cX0_doPlans 12 = .ok (.aload_n 0, 1) := by decide +kernel
theorem dX0_doPlans_13 : decode cX0_doPlans 13 = .ok (.getfield 38, 3) := by decide +kernel
theorem dX0_doPlans_16 : decode cX0_doPlans 16 = .ok (.iload_n 2, 1) := by decide +kernel
theorem dX0_doPlans_17 : decode cX0_doPlans 17 = .ok (.iaload, 1) := by decide +kernel
theorem dX0_doPlans_18 : decode cX0_doPlans 18 = .ok (.ifCond .gt 10, 3) := by decide +kernel
theorem dX0_doPlans_21 : decode cX0_doPlans 21 = .ok (.aload_n 0, 1) := by decide +kernel
theorem dX0_doPlans_22 : decode cX0_doPlans 22 = .ok (.invokevirtual 147, 3) := by decide +kernel
theorem dX0_doPlans_25 : decode cX0_doPlans 25 = .ok (.goto 18, 3) := by decide +kernel
theorem dX0_doPlans_28 : decode cX0_doPlans 28 = .ok (.aload_n 0, 1) := by decide +kernel
theorem dX0_doPlans_29 : decode cX0_doPlans 29 = .ok (.getfield 38, 3) := by decide +kernel
theorem dX0_doPlans_32 : decode cX0_doPlans 32 = .ok (.iload_n 1, 1) := by decide +kernel
theorem dX0_doPlans_33 : decode cX0_doPlans 33 = .ok (.aload_n 0, 1) := by decide +kernel
theorem dX0_doPlans_34 : decode cX0_doPlans 34 = .ok (.getfield 38, 3) := by decide +kernel
theorem dX0_doPlans_37 : decode cX0_doPlans 37 = .ok (.iload_n 2, 1) := by decide +kernel
theorem dX0_doPlans_38 : decode cX0_doPlans 38 = .ok (.iaload, 1) := by decide +kernel
theorem dX0_doPlans_39 : decode cX0_doPlans 39 = .ok (.iastore, 1) := by decide +kernel
theorem dX0_doPlans_40 : decode cX0_doPlans 40 = .ok (.iinc 1 1, 3) := by decide +kernel
theorem dX0_doPlans_43 : decode cX0_doPlans 43 = .ok (.iinc 2 1, 3) := by decide +kernel
theorem dX0_doPlans_46 : decode cX0_doPlans 46 = .ok (.goto (-42), 3) := by decide +kernel
theorem dX0_doPlans_49 : decode cX0_doPlans 49 = .ok (.aload_n 0, 1) := by decide +kernel
theorem dX0_doPlans_50 : decode cX0_doPlans 50 = .ok (.iload_n 1, 1) := by decide +kernel
theorem dX0_doPlans_51 : decode cX0_doPlans 51 = .ok (.putfield 62, 3) := by decide +kernel
theorem dX0_doPlans_54 : decode cX0_doPlans 54 = .ok (.return_, 1) := by decide +kernel
set_option maxRecDepth 20000 in
theorem ggX0_useLabel_X1_liesUnder : GoodIn wsX0_useLabel wsX1_liesUnder := goodIn_r _ [9, 10, 11, 31, 32, 33, 34, 35, 36, 37] (by decide +kernel) (by decide +kernel)
set_option maxRecDepth 20000 in
theorem gX0_useLabel_X1_liesUnder : GoodIn wsX0_useLabel (wsV RX0 150 RX1 yX1_liesUnder wsX1_liesUnder) := goodIn_app (goodIn_of _ (by decide +kernel)) ggX0_useLabel_X1_liesUnder
set_option maxRecDepth 20000 in
theorem ggX0_useLabel_X0_markBox : GoodIn wsX0_useLabel wsX0_markBox := goodIn_r _ [16, 1, 17, 18, 19, 20, 21, 22, 23, 24, 25, 26, 27, 28, 29, 30, 31, 32, 33, 34, 35, 36, 37] (by decide +kernel) (by decide +kernel)
set_option maxRecDepth 20000 in
theorem gX0_useLabel_X0_markBox : GoodIn wsX0_useLabel (wsV RX0 153 RX0 yX0_markBox wsX0_markBox) := goodIn_app (goodIn_of _ (by decide +kernel)) ggX0_useLabel_X0_markBox
theorem dX0_useLabel_0 : decode cX0_useLabel 0 = .ok (.aload_n 0, 1) := by decide +kernel
theorem dX0_useLabel_1 : decode cX0_useLabel 1 = .ok (.getfield 23, 3) := by decide +kernel
theorem dX0_useLabel_4 : decode cX0_useLabel 4 = .ok (.bipush 10, 2) := by decide +kernel
theorem dX0_useLabel_6 : decode cX0_useLabel 6 = .ok (.iaload, 1) := by decide +kernel
theorem dX0_useLabel_7 : decode cX0_useLabel 7 = .ok (.aload_n 0, 1) := by decide +kernel
theorem dX0_useLabel_8 : decode cX0_useLabel 8 = .ok (.getfield 20, 3) := by decide +kernel
theorem dX0_useLabel_11 : decode cX0_useLabel 11 = .ok (.iconst 4, 1) := by decide +kernel
theorem dX0_useLabel_12 : decode cX0_useLabel 12 = .ok (.iaload, 1) := by decide +kernel
theorem dX0_useLabel_13 : decode cX0_useLabel 13 = .ok (.if_icmp .ge 15, 3) := by decide +kernel
theorem dX0_useLabel_16 : decode cX0_useLabel 16 = .ok (.aload_n 0, 1) := by decide +kernel
theorem dX0_useLabel_17 : decode cX0_useLabel 17 = .ok (.getfield 23, 3) := by decide +kernel
theorem dX0_useLabel_20 : decode cX0_useLabel 20 = .ok (.bipush 9, 2) := by decide +kernel
theorem dX0_useLabel_22 : decode cX0_useLabel 22 = .ok (.dup2, 1) := by decide +kernel
theorem dX0_useLabel_23 : decode cX0_useLabel 23 = .ok (.iaload, 1) := by decide +kernel
theorem dX0_useLabel_24 : decode cX0_useLabel 24 = .ok (.iconst 1, 1) := by decide +kernel
theorem dX0_useLabel_25 : decode cX0_useLabel 25 = .ok (.iadd, 1) := by decide +kernel
theorem dX0_useLabel_26 : decode cX0_useLabel 26 = .ok (.iastore, 1) := by decide +kernel
theorem dX0_useLabel_27 : decode cX0_useLabel 27 = .ok (.return_, 1) := by decide +kernel
theorem dX0_useLabel_28 : decode cX0_useLabel 28 = .ok (.aload_n 0, 1) := by decide +kernel
theorem dX0_useLabel_29 : decode cX0_useLabel 29 = .ok (.getfield 23, 3) := by decide +kernel
theorem dX0_useLabel_32 : decode cX0_useLabel 32 = .ok (.bipush 10, 2) := by decide +kernel
theorem dX0_useLabel_34 : decode cX0_useLabel 34 = .ok (.dup2, 1) := by decide +kernel
theorem dX0_useLabel_35 : decode cX0_useLabel 35 = .ok (.iaload, 1) := by decide +kernel
theorem dX0_useLabel_36 : decode cX0_useLabel 36 = .ok (.aload_n 0, 1) := by decide +kernel
theorem dX0_useLabel_37 : decode cX0_useLabel 37 = .ok (.getfield 20, 3) := by decide +kernel
theorem dX0_useLabel_40 : decode cX0_useLabel 40 = .ok (.iconst 4, 1) := by decide +kernel
theorem dX0_useLabel_41 : decode cX0_useLabel 41 = .ok (.iaload, 1) := by decide +kernel
theorem dX0_useLabel_42 : decode cX0_useLabel 42 = .ok (.isub, 1) := by decide +kernel
theorem dX0_useLabel_43 : decode cX0_useLabel 43 = .ok (.iastore, 1) := by decide +kernel
theorem dX0_useLabel_44 : decode cX0_useLabel 44 = .ok (.iconst 0, 1) := by decide +kernel
theorem dX0_useLabel_45 : decode cX0_useLabel 45 = .ok (.istore_n 1, 1) := by decide +kernel
theorem dX0_useLabel_46 : decode cX0_useLabel 46 = .ok (.iload_n 1, 1) := by decide +kernel
theorem dX0_useLabel_47 : decode cX0_useLabel 47 = .ok (.aload_n 0, 1) := by decide +kernel
theorem dX0_useLabel_48 : decode cX0_useLabel 48 = .ok (.getfield 51, 3) := by decide +kernel
theorem dX0_useLabel_51 : decode cX0_useLabel 51 = .ok (.if_icmp .ge 34, 3) := by decide +kernel
theorem dX0_useLabel_54 : decode cX0_useLabel 54 = .ok (.aload_n 0, 1) := by decide +kernel
theorem dX0_useLabel_55 : decode cX0_useLabel 55 = .ok (.getfield 28, 3) := by decide +kernel
theorem dX0_useLabel_58 : decode cX0_useLabel 58 = .ok (.iload_n 1, 1) := by decide +kernel
theorem dX0_useLabel_59 : decode cX0_useLabel 59 = .ok (.aaload, 1) := by decide +kernel
theorem dX0_useLabel_60 : decode cX0_useLabel 60 = .ok (.bipush 60, 2) := by decide +kernel
theorem dX0_useLabel_62 : decode cX0_useLabel 62 = .ok (.invokevirtual 150, 3) := by decide +kernel
theorem dX0_useLabel_65 : decode cX0_useLabel 65 = .ok (.ifCond .eq 14, 3) := by decide +kernel
theorem dX0_useLabel_68 : decode cX0_useLabel 68 = .ok (.aload_n 0, 1) := by decide +kernel
theorem dX0_useLabel_69 : decode cX0_useLabel 69 = .ok (.aload_n 0, 1) := by decide +kernel
theorem dX0_useLabel_70 : decode cX0_useLabel 70 = .ok (.getfield 28, 3) := by decide +kernel
theorem dX0_useLabel_73 : decode cX0_useLabel 73 = .ok (.iload_n 1, 1) := by decide +kernel
theorem dX0_useLabel_74 : decode cX0_useLabel 74 = .ok (.aaload, 1) := by decide +kernel
theorem dX0_useLabel_75 : decode cX0_useLabel 75 = .ok (.invokevirtual 153, 3) := by decide +kernel
theorem dX0_useLabel_78 : decode cX0_useLabel 78 = .ok (.return_, 1) := by decide +kernel
theorem dX0_useLabel_79 : decode cX0_useLabel 79 = .ok (.iinc 1 1, 3) := by decide +kernel
theorem dX0_useLabel_82 : decode cX0_useLabel 82 = .ok (.goto (-36), 3) := by decide +kernel
theorem dX0_useLabel_85 : decode cX0_useLabel 85 = .ok (.aload_n 0, 1) := by decide +kernel
theorem dX0_useLabel_86 : decode cX0_useLabel 86 = .ok (.getfield 23, 3) := by decide +kernel
theorem dX0_useLabel_89 : decode cX0_useLabel 89 = .ok (.bipush 7, 2) := by decide +kernel
theorem dX0_useLabel_91 : decode cX0_useLabel 91 = .ok (.dup2, 1) := by decide +kernel
theorem dX0_useLabel_92 : decode cX0_useLabel 92 = .ok (.iaload, 1) := by decide +kernel
theorem dX0_useLabel_93 : decode cX0_useLabel 93 = .ok (.iconst 1, 1) := by decide +kernel
theorem dX0_useLabel_94 : decode cX0_useLabel 94 = .ok (.iadd, 1) := by decide +kernel
theorem dX0_useLabel_95 : decode cX0_useLabel 95 = .ok (.iastore, 1) := by decide +kernel
theorem dX0_useLabel_96 : decode cX0_useLabel 96 = .ok (.return_, 1) := by decide +kernel
theorem dX0_markBox_0 : decode cX0_markBox 0 = .ok (.aload_n 0, 1) := by decide +kernel
theorem dX0_markBox_1 : decode cX0_markBox 1 = .ok (.getfield 23, 3) := by decide +kernel
theorem dX0_markBox_4 : decode cX0_markBox 4 = .ok (.bipush 6, 2) := by decide +kernel
theorem dX0_markBox_6 : decode cX0_markBox 6 = .ok (.dup2, 1) := by decide +kernel
theorem dX0_markBox_7 : decode cX0_markBox 7 = .ok (.iaload, 1) := by decide +kernel
theorem dX0_markBox_8 : decode cX0_markBox 8 = .ok (.iconst 1, 1) := by decide +kernel
theorem dX0_markBox_9 : decode cX0_markBox 9 = .ok (.iadd, 1) := by decide +kernel
theorem dX0_markBox_10 : decode cX0_markBox 10 = .ok (.iastore, 1) := by decide +kernel
theorem dX0_markBox_11 : decode cX0_markBox 11 = .ok (.aload_n 1, 1) := by decide +kernel
theorem dX0_markBox_12 : decode cX0_markBox 12 = .ok (.getfield 156, 3) := by decide +kernel
theorem dX0_markBox_15 : decode cX0_markBox 15 = .ok (.ifCond .eq 19, 3) := by decide +kernel
theorem dX0_markBox_18 : decode cX0_markBox 18 = .ok (.aload_n 1, 1) := by decide +kernel
theorem dX0_markBox_19 : decode cX0_markBox 19 = .ok (.iconst 1, 1) := by decide +kernel
theorem dX0_markBox_20 : decode cX0_markBox 20 = .ok (.putfield 159, 3) := by decide +kernel
theorem dX0_markBox_23 : decode cX0_markBox 23 = .ok (.aload_n 0, 1) := by decide +kernel
theorem dX0_markBox_24 : decode cX0_markBox 24 = .ok (.getfield 23, 3) := by decide +kernel
theorem dX0_markBox_27 : decode cX0_markBox 27 = .ok (.bipush 8, 2) := by decide +kernel
theorem dX0_markBox_29 : decode cX0_markBox 29 = .ok (.dup2, 1) := by decide +kernel
theorem dX0_markBox_30 : decode cX0_markBox 30 = .ok (.iaload, 1) := by decide +kernel
theorem dX0_markBox_31 : decode cX0_markBox 31 = .ok (.iconst 1, 1) := by decide +kernel
theorem dX0_markBox_32 : decode cX0_markBox 32 = .ok (.iadd, 1) := by decide +kernel
theorem dX0_markBox_33 : decode cX0_markBox 33 = .ok (.iastore, 1) := by decide +kernel
theorem dX0_markBox_34 : decode cX0_markBox 34 = .ok (.aload_n 1, 1) := by decide +kernel
theorem dX0_markBox_35 : decode cX0_markBox 35 = .ok (.iconst 1, 1) := by decide +kernel
theorem dX0_markBox_36 : decode cX0_markBox 36 = .ok (.putfield 156, 3) := by decide +kernel
theorem dX0_markBox_39 : decode cX0_markBox 39 = .ok (.aload_n 1, 1) := by decide +kernel
theorem dX0_markBox_40 : decode cX0_markBox 40 = .ok (.aload_n 1, 1) := by decide +kernel
theorem dX0_markBox_41 : decode cX0_markBox 41 = .ok (.getfield 86, 3) := by decide +kernel
theorem dX0_markBox_44 : decode cX0_markBox 44 = .ok (.bipush 60, 2) := by decide +kernel
theorem dX0_markBox_46 : decode cX0_markBox 46 = .ok (.isub, 1) := by decide +kernel
theorem dX0_markBox_47 : decode cX0_markBox 47 = .ok (.putfield 162, 3) := by decide +kernel
theorem dX0_markBox_50 : decode cX0_markBox 50 = .ok (.return_, 1) := by decide +kernel
theorem dX0_feed_0 : decode cX0_feed 0 = .ok (.aload_n 0, 1) := by decide +kernel
theorem dX0_feed_1 : decode cX0_feed 1 = .ok (.getfield 23, 3) := by decide +kernel
theorem dX0_feed_4 : decode cX0_feed 4 = .ok (.bipush 10, 2) := by decide +kernel
theorem dX0_feed_6 : decode cX0_feed 6 = .ok (.aload_n 0, 1) := by decide +kernel
theorem dX0_feed_7 : decode cX0_feed 7 = .ok (.getfield 23, 3) := by decide +kernel
theorem dX0_feed_10 : decode cX0_feed 10 = .ok (.bipush 10, 2) := by decide +kernel
theorem dX0_feed_12 : decode cX0_feed 12 = .ok (.iaload, 1) := by decide +kernel
theorem dX0_feed_13 : decode cX0_feed 13 = .ok (.aload_n 0, 1) := by decide +kernel
theorem dX0_feed_14 : decode cX0_feed 14 = .ok (.getfield 20, 3) := by decide +kernel
theorem dX0_feed_17 : decode cX0_feed 17 = .ok (.bipush 6, 2) := by decide +kernel
theorem dX0_feed_19 : decode cX0_feed 19 = .ok (.iaload, 1) := by decide +kernel
theorem dX0_feed_20 : decode cX0_feed 20 = .ok (.iadd, 1) := by decide +kernel
theorem dX0_feed_21 : decode cX0_feed 21 = .ok (.aload_n 0, 1) := by decide +kernel
theorem dX0_feed_22 : decode cX0_feed 22 = .ok (.getfield 20, 3) := by decide +kernel
theorem dX0_feed_25 : decode cX0_feed 25 = .ok (.iconst 5, 1) := by decide +kernel
theorem dX0_feed_26 : decode cX0_feed 26 = .ok (.iaload, 1) := by decide +kernel
theorem dX0_feed_27 : decode cX0_feed 27 = .ok (.invokestatic 165, 3) := by decide +kernel
theorem dX0_feed_30 : decode cX0_feed 30 = .ok (.iastore, 1) := by decide +kernel
theorem dX0_feed_31 : decode cX0_feed 31 = .ok (.return_, 1) := by decide +kernel
set_option maxRecDepth 20000 in
theorem ggX0_letBoxesLeave_X1_back : GoodIn wsX0_letBoxesLeave wsX1_back := goodIn_r _ [8, 9, 10, 34, 35, 36, 37, 38, 39, 40] (by decide +kernel) (by decide +kernel)
set_option maxRecDepth 20000 in
theorem gX0_letBoxesLeave_X1_back : GoodIn wsX0_letBoxesLeave (wsV RX0 75 RX1 yX1_back wsX1_back) := goodIn_app (goodIn_of _ (by decide +kernel)) ggX0_letBoxesLeave_X1_back
set_option maxRecDepth 20000 in
theorem ggX0_letBoxesLeave_X0_fate : GoodIn wsX0_letBoxesLeave wsX0_fate := goodIn_r _ [15, 16, 17, 18, 19, 20, 21, 22, 23, 34, 35, 36, 37, 38, 39, 40, 24, 25, 26, 27, 28, 29, 30, 31, 32, 33] (by decide +kernel) (by decide +kernel)
set_option maxRecDepth 20000 in
theorem gX0_letBoxesLeave_X0_fate : GoodIn wsX0_letBoxesLeave (wsV RX0 168 RX0 yX0_fate wsX0_fate) := goodIn_app (goodIn_of _ (by decide +kernel)) ggX0_letBoxesLeave_X0_fate
theorem dX0_letBoxesLeave_0 : decode cX0_letBoxesLeave 0 = .ok (.iconst 0, 1) := by decide +kernel
theorem dX0_letBoxesLeave_1 : decode cX0_letBoxesLeave 1 = .ok (.istore_n 1, 1) := by decide +kernel
theorem dX0_letBoxesLeave_2 : decode cX0_letBoxesLeave 2 = .ok (.iconst 0, 1) := by decide +kernel
theorem dX0_letBoxesLeave_3 : decode cX0_letBoxesLeave 3 = .ok (.istore_n 2, 1) := by decide +kernel
theorem dX0_letBoxesLeave_4 : decode cX0_letBoxesLeave 4 = .ok (.iload_n 2, 1) := by decide +kernel
theorem dX0_letBoxesLeave_5 : decode cX0_letBoxesLeave 5 = .ok (.aload_n 0, 1) := by decide +kernel
theorem dX0_letBoxesLeave_6 : decode cX0_letBoxesLeave 6 = .ok (.getfield 51, 3) := by decide +kernel
theorem dX0_letBoxesLeave_9 : decode cX0_letBoxesLeave 9 = .ok (.if_icmp .ge 64, 3) := by decide +kernel
theorem dX0_letBoxesLeave_12 : decode cX0_letBoxesLeave 12 = .ok (.aload_n 0, 1) := by decide +kernel
theorem dX0_letBoxesLeave_13 : decode cX0_letBoxesLeave 13 = .ok (.getfield 28, 3) := by decide +kernel
theorem dX0_letBoxesLeave_16 : decode cX0_letBoxesLeave 16 = .ok (.iload_n 2, 1) := by decide +kernel
theorem dX0_letBoxesLeave_17 : decode cX0_letBoxesLeave 17 = .ok (.aaload, 1) := by decide +kernel
theorem dX0_letBoxesLeave_18 : decode cX0_letBoxesLeave 18 = .ok (.astore_n 3, 1) := by decide +kernel
theorem dX0_letBoxesLeave_19 : decode cX0_letBoxesLeave 19 = .ok (.aload_n 3, 1) := by decide +kernel
theorem dX0_letBoxesLeave_20 : decode cX0_letBoxesLeave 20 = .ok (.invokevirtual 75, 3) := by decide +kernel
theorem dX0_letBoxesLeave_23 : decode cX0_letBoxesLeave 23 = .ok (.bipush 100, 2) := by decide +kernel
theorem dX0_letBoxesLeave_25 : decode cX0_letBoxesLeave 25 = .ok (.if_icmp .lt 20, 3) := by decide +kernel
theorem dX0_letBoxesLeave_28 : decode cX0_letBoxesLeave 28 = .ok (.aload_n 0, 1) := by decide +kernel
theorem dX0_letBoxesLeave_29 : decode cX0_letBoxesLeave 29 = .ok (.getfield 23, 3) := by decide +kernel
theorem dX0_letBoxesLeave_32 : decode cX0_letBoxesLeave 32 = .ok (.aload_n 0, 1) := by decide +kernel
theorem dX0_letBoxesLeave_33 : decode cX0_letBoxesLeave 33 = .ok (.aload_n 3, 1) := by decide +kernel
theorem dX0_letBoxesLeave_34 : decode cX0_letBoxesLeave 34 = .ok (.invokevirtual 168, 3) := by decide +kernel
theorem dX0_letBoxesLeave_37 : decode cX0_letBoxesLeave 37 = .ok (.dup2, 1) := by decide +kernel
theorem dX0_letBoxesLeave_38 : decode cX0_letBoxesLeave 38 = .ok (.iaload, 1) := by decide +kernel
theorem dX0_letBoxesLeave_39 : decode cX0_letBoxesLeave 39 = .ok (.iconst 1, 1) := by decide +kernel
theorem dX0_letBoxesLeave_40 : decode cX0_letBoxesLeave 40 = .ok (.iadd, 1) := by decide +kernel
theorem dX0_letBoxesLeave_41 : decode cX0_letBoxesLeave 41 = .ok (.iastore, 1) := by decide +kernel
theorem dX0_letBoxesLeave_42 : decode cX0_letBoxesLeave 42 = .ok (.goto 25, 3) := by decide +kernel
theorem dX0_letBoxesLeave_45 : decode cX0_letBoxesLeave 45 = .ok (.aload_n 0, 1) := by decide +kernel
theorem dX0_letBoxesLeave_46 : decode cX0_letBoxesLeave 46 = .ok (.getfield 28, 3) := by decide +kernel
theorem dX0_letBoxesLeave_49 : decode cX0_letBoxesLeave 49 = .ok (.iload_n 2, 1) := by decide +kernel
theorem dX0_letBoxesLeave_50 : decode cX0_letBoxesLeave 50 = .ok (.aload_n 0, 1) := by decide +kernel
theorem dX0_letBoxesLeave_51 : decode cX0_letBoxesLeave 51 = .ok (.getfield 28, 3) := by decide +kernel
theorem dX0_letBoxesLeave_54 : decode cX0_letBoxesLeave 54 = .ok (.iload_n 1, 1) := by decide +kernel
theorem dX0_letBoxesLeave_55 : decode cX0_letBoxesLeave 55 = .ok (.aaload, 1) := by decide +kernel
theorem dX0_letBoxesLeave_56 : decode cX0_letBoxesLeave 56 = .ok (.aastore, 1) := by decide +kernel
theorem dX0_letBoxesLeave_57 : decode cX0_letBoxesLeave 57 = .ok (.aload_n 0, 1) := by decide +kernel
theorem dX0_letBoxesLeave_58 : decode cX0_letBoxesLeave 58 = .ok (.getfield 28, 3) := by decide +kernel
theorem dX0_letBoxesLeave_61 : decode cX0_letBoxesLeave 61 = .ok (.iload_n 1, 1) := by decide +kernel
theorem dX0_letBoxesLeave_62 : decode cX0_letBoxesLeave 62 = .ok (.aload_n 3, 1) := by decide +kernel
theorem dX0_letBoxesLeave_63 : decode cX0_letBoxesLeave 63 = .ok (.aastore, 1) := by decide +kernel
theorem dX0_letBoxesLeave_64 : decode cX0_letBoxesLeave 64 = .ok (.iinc 1 1, 3) := by decide +kernel
theorem dX0_letBoxesLeave_67 : decode cX0_letBoxesLeave 67 = .ok (.iinc 2 1, 3) := by decide +kernel
theorem dX0_letBoxesLeave_70 : decode cX0_letBoxesLeave 70 = .ok (.goto (-66), 3) := by decide +kernel
theorem dX0_letBoxesLeave_73 : decode cX0_letBoxesLeave 73 = .ok (.aload_n 0, 1) := by decide +kernel
theorem dX0_letBoxesLeave_74 : decode cX0_letBoxesLeave 74 = .ok (.iload_n 1, 1) := by decide +kernel
theorem dX0_letBoxesLeave_75 : decode cX0_letBoxesLeave 75 = .ok (.putfield 51, 3) := by decide +kernel
theorem dX0_letBoxesLeave_78 : decode cX0_letBoxesLeave 78 = .ok (.return_, 1) := by decide +kernel
theorem dX0_fate_0 : decode cX0_fate 0 = .ok (.aload_n 1, 1) := by decide +kernel
theorem dX0_fate_1 : decode cX0_fate 1 = .ok (.getfield 156, 3) := by decide +kernel
theorem dX0_fate_4 : decode cX0_fate 4 = .ok (.ifCond .ne 5, 3) := by decide +kernel
theorem dX0_fate_7 : decode cX0_fate 7 = .ok (.iconst 5, 1) := by decide +kernel
theorem dX0_fate_8 : decode cX0_fate 8 = .ok (.ireturn, 1) := by decide +kernel
theorem dX0_fate_9 : decode cX0_fate 9 = .ok (.aload_n 1, 1) := by decide +kernel
theorem dX0_fate_10 : decode cX0_fate 10 = .ok (.getfield 162, 3) := by decide +kernel
theorem dX0_fate_13 : decode cX0_fate 13 = .ok (.aload_n 0, 1) := by decide +kernel
theorem dX0_fate_14 : decode cX0_fate 14 = .ok (.getfield 20, 3) := by decide +kernel
theorem dX0_fate_17 : decode cX0_fate 17 = .ok (.iconst 3, 1) := by decide +kernel
theorem dX0_fate_18 : decode cX0_fate 18 = .ok (.iaload, 1) := by decide +kernel
theorem dX0_fate_19 : decode cX0_fate 19 = .ok (.isub, 1) := by decide +kernel
theorem dX0_fate_20 : decode cX0_fate 20 = .ok (.invokestatic 172, 3) := by decide +kernel
theorem dX0_fate_23 : decode cX0_fate 23 = .ok (.aload_n 0, 1) := by decide +kernel
theorem dX0_fate_24 : decode cX0_fate 24 = .ok (.getfield 20, 3) := by decide +kernel
theorem dX0_fate_27 : decode cX0_fate 27 = .ok (.bipush 7, 2) := by decide +kernel
theorem dX0_fate_29 : decode cX0_fate 29 = .ok (.iaload, 1) := by decide +kernel
theorem dX0_fate_30 : decode cX0_fate 30 = .ok (.if_icmp .gt 7, 3) := by decide +kernel
theorem dX0_fate_33 : decode cX0_fate 33 = .ok (.iconst 1, 1) := by decide +kernel
theorem dX0_fate_34 : decode cX0_fate 34 = .ok (.goto 4, 3) := by decide +kernel
theorem dX0_fate_37 : decode cX0_fate 37 = .ok (.iconst 0, 1) := by decide +kernel
theorem dX0_fate_38 : decode cX0_fate 38 = .ok (.istore_n 2, 1) := by decide +kernel
theorem dX0_fate_39 : decode cX0_fate 39 = .ok (.iload_n 2, 1) := by decide +kernel
theorem dX0_fate_40 : decode cX0_fate 40 = .ok (.ifCond .eq 14, 3) := by decide +kernel
theorem dX0_fate_43 : decode cX0_fate 43 = .ok (.aload_n 1, 1) := by decide +kernel
theorem dX0_fate_44 : decode cX0_fate 44 = .ok (.getfield 159, 3) := by decide +kernel
theorem dX0_fate_47 : decode cX0_fate 47 = .ok (.ifCond .ne 7, 3) := by decide +kernel
theorem dX0_fate_50 : decode cX0_fate 50 = .ok (.iconst 3, 1) := by decide +kernel
theorem dX0_fate_51 : decode cX0_fate 51 = .ok (.goto 4, 3) := by decide +kernel
theorem dX0_fate_54 : decode cX0_fate 54 = .ok (.iconst 4, 1) := by decide +kernel
theorem dX0_fate_55 : decode cX0_fate 55 = .ok (.ireturn, 1) := by decide +kernel
theorem dX1_init_0 : decode cX1_init 0 = .ok (.aload_n 0, 1) := by decide +kernel
theorem dX1_init_1 : decode cX1_init 1 = .ok (.invokespecial 3, 3) := by decide +kernel
theorem dX1_init_4 : decode cX1_init 4 = .ok (.return_, 1) := by decide +kernel
theorem dX1_canHave_0 : decode cX1_canHave 0 = .ok (.iload_n 0, 1) := by decide +kernel
theorem dX1_canHave_1 : decode cX1_canHave 1 = .ok (.iconst 4, 1) := by decide +kernel
theorem dX1_canHave_2 : decode cX1_canHave 2 = .ok (.if_icmp .lt 13, 3) := by decide +kernel
theorem dX1_canHave_5 : decode cX1_canHave 5 = .ok (.iload_n 0, 1) := by decide +kernel
theorem dX1_canHave_6 : decode cX1_canHave 6 = .ok (.bipush 30, 2) := by decide +kernel
theorem dX1_canHave_8 : decode cX1_canHave 8 = .ok (.if_icmp .gt 7, 3) := by decide +kernel
theorem dX1_canHave_11 : decode cX1_canHave 11 = .ok (.iconst 1, 1) := by decide +kernel
theorem dX1_canHave_12 : decode cX1_canHave 12 = .ok (.goto 4, 3) := by decide +kernel
theorem dX1_canHave_15 : decode cX1_canHave 15 = .ok (.iconst 0, 1) := by decide +kernel
theorem dX1_canHave_16 : decode cX1_canHave 16 = .ok (.ireturn, 1) := by decide +kernel
theorem dX1_begin_0 : decode cX1_begin 0 = .ok (.aload_n 0, 1) := by decide +kernel
theorem dX1_begin_1 : decode cX1_begin 1 = .ok (.iconst 0, 1) := by decide +kernel
theorem dX1_begin_2 : decode cX1_begin 2 = .ok (.putfield 11, 3) := by decide +kernel
theorem dX1_begin_5 : decode cX1_begin 5 = .ok (.aload_n 0, 1) := by decide +kernel
theorem dX1_begin_6 : decode cX1_begin 6 = .ok (.iload_n 1, 1) := by decide +kernel
theorem dX1_begin_7 : decode cX1_begin 7 = .ok (.putfield 15, 3) := by decide +kernel
theorem dX1_begin_10 : decode cX1_begin 10 = .ok (.aload_n 0, 1) := by decide +kernel
theorem dX1_begin_11 : decode cX1_begin 11 = .ok (.iconst 0, 1) := by decide +kernel
theorem dX1_begin_12 : decode cX1_begin 12 = .ok (.putfield 18, 3) := by decide +kernel
theorem dX1_begin_15 : decode cX1_begin 15 = .ok (.aload_n 0, 1) := by decide +kernel
theorem dX1_begin_16 : decode cX1_begin 16 = .ok (.iconst 0, 1) := by decide +kernel
theorem dX1_begin_17 : decode cX1_begin 17 = .ok (.putfield 22, 3) := by decide +kernel
theorem dX1_begin_20 : decode cX1_begin 20 = .ok (.aload_n 0, 1) := by decide +kernel
theorem dX1_begin_21 : decode cX1_begin 21 = .ok (.iconst 0, 1) := by decide +kernel
theorem dX1_begin_22 : decode cX1_begin 22 = .ok (.putfield 25, 3) := by decide +kernel
theorem dX1_begin_25 : decode cX1_begin 25 = .ok (.aload_n 0, 1) := by decide +kernel
theorem dX1_begin_26 : decode cX1_begin 26 = .ok (.iconst 0, 1) := by decide +kernel
theorem dX1_begin_27 : decode cX1_begin 27 = .ok (.putfield 28, 3) := by decide +kernel
theorem dX1_begin_30 : decode cX1_begin 30 = .ok (.aload_n 0, 1) := by decide +kernel
theorem dX1_begin_31 : decode cX1_begin 31 = .ok (.iload_n 2, 1) := by decide +kernel
theorem dX1_begin_32 : decode cX1_begin 32 = .ok (.putfield 31, 3) := by decide +kernel
theorem dX1_begin_35 : decode cX1_begin 35 = .ok (.return_, 1) := by decide +kernel
theorem dX1_copyFrom_0 : decode cX1_copyFrom 0 = .ok (.aload_n 0, 1) := by decide +kernel
theorem dX1_copyFrom_1 : decode cX1_copyFrom 1 = .ok (.aload_n 1, 1) := by decide +kernel
theorem dX1_copyFrom_2 : decode cX1_copyFrom 2 = .ok (.getfield 11, 3) := by decide +kernel
theorem dX1_copyFrom_5 : decode cX1_copyFrom 5 = .ok (.putfield 11, 3) := by decide +kernel
theorem dX1_copyFrom_8 : decode cX1_copyFrom 8 = .ok (.aload_n 0, 1) := by decide +kernel
theorem dX1_copyFrom_9 : decode cX1_copyFrom 9 = .ok (.aload_n 1, 1) := by decide +kernel
theorem dX1_copyFrom_10 : decode cX1_copyFrom 10 = .ok (.getfield 15, 3) := by decide +kernel
theorem dX1_copyFrom_13 : decode cX1_copyFrom 13 = .ok (.putfield 15, 3) := by decide +kernel
theorem dX1_copyFrom_16 : decode cX1_copyFrom 16 = .ok (.aload_n 0, 1) := by decide +kernel
theorem dX1_copyFrom_17 : decode cX1_copyFrom 17 = .ok (.aload_n 1, 1) := by decide +kernel
theorem dX1_copyFrom_18 : decode cX1_copyFrom 18 = .ok (.getfield 18, 3) := by decide +kernel
theorem dX1_copyFrom_21 : decode cX1_copyFrom 21 = .ok (.putfield 18, 3) := by decide +kernel
theorem dX1_copyFrom_24 : decode cX1_copyFrom 24 = .ok (.aload_n 0, 1) := by decide +kernel
theorem dX1_copyFrom_25 : decode cX1_copyFrom 25 = .ok (.aload_n 1, 1) := by decide +kernel
theorem dX1_copyFrom_26 : decode cX1_copyFrom 26 = .ok (.getfield 22, 3) := by decide +kernel
theorem dX1_copyFrom_29 : decode cX1_copyFrom 29 = .ok (.putfield 22, 3) := by decide +kernel
theorem dX1_copyFrom_32 : decode cX1_copyFrom 32 = .ok (.aload_n 0, 1) := by decide +kernel
theorem dX1_copyFrom_33 : decode cX1_copyFrom 33 = .ok (.aload_n 1, 1) := by decide +kernel
theorem dX1_copyFrom_34 : decode cX1_copyFrom 34 = .ok (.getfield 25, 3) := by decide +kernel
theorem dX1_copyFrom_37 : decode cX1_copyFrom 37 = .ok (.putfield 25, 3) := by decide +kernel
theorem dX1_copyFrom_40 : decode cX1_copyFrom 40 = .ok (.aload_n 0, 1) := by decide +kernel
theorem dX1_copyFrom_41 : decode cX1_copyFrom 41 = .ok (.aload_n 1, 1) := by decide +kernel
theorem dX1_copyFrom_42 : decode cX1_copyFrom 42 = .ok (.getfield 28, 3) := by decide +kernel
theorem dX1_copyFrom_45 : decode cX1_copyFrom 45 = .ok (.putfield 28, 3) := by decide +kernel
theorem dX1_copyFrom_48 : decode cX1_copyFrom 48 = .ok (.aload_n 0, 1) := by decide +kernel
theorem dX1_copyFrom_49 : decode cX1_copyFrom 49 = .ok (.aload_n 1, 1) := by decide +kernel
theorem dX1_copyFrom_50 : decode cX1_copyFrom 50 = .ok (.getfield 31, 3) := by decide +kernel
theorem dX1_copyFrom_53 : decode cX1_copyFrom 53 = .ok (.putfield 31, 3) := by decide +kernel
theorem dX1_copyFrom_56 : decode cX1_copyFrom 56 = .ok (.return_, 1) := by decide +kernel
theorem dX1_back_0 : decode cX1_back 0 = .ok (.aload_n 0, 1) := by decide +kernel
theorem dX1_back_1 : decode cX1_back 1 = .ok (.getfield 11, 3) := by decide +kernel
theorem dX1_back_4 : decode cX1_back 4 = .ok (.aload_n 0, 1) := by decide +kernel
theorem dX1_back_5 : decode cX1_back 5 = .ok (.getfield 15, 3) := by decide +kernel
theorem dX1_back_8 : decode cX1_back 8 = .ok (.isub, 1) := by decide +kernel
theorem dX1_back_9 : decode cX1_back 9 = .ok (.ireturn, 1) := by decide +kernel
theorem dX1_liesUnder_0 : decode cX1_liesUnder 0 = .ok (.aload_n 0, 1) := by decide +kernel
theorem dX1_liesUnder_1 : decode cX1_liesUnder 1 = .ok (.getfield 11, 3) := by decide +kernel
theorem dX1_liesUnder_4 : decode cX1_liesUnder 4 = .ok (.iload_n 1, 1) := by decide +kernel
theorem dX1_liesUnder_5 : decode cX1_liesUnder 5 = .ok (.if_icmp .lt 20, 3) := by decide +kernel
theorem dX1_liesUnder_8 : decode cX1_liesUnder 8 = .ok (.aload_n 0, 1) := by decide +kernel
theorem dX1_liesUnder_9 : decode cX1_liesUnder 9 = .ok (.getfield 11, 3) := by decide +kernel
theorem dX1_liesUnder_12 : decode cX1_liesUnder 12 = .ok (.aload_n 0, 1) := by decide +kernel
theorem dX1_liesUnder_13 : decode cX1_liesUnder 13 = .ok (.getfield 15, 3) := by decide +kernel
theorem dX1_liesUnder_16 : decode cX1_liesUnder 16 = .ok (.isub, 1) := by decide +kernel
theorem dX1_liesUnder_17 : decode cX1_liesUnder 17 = .ok (.iload_n 1, 1) := by decide +kernel
theorem dX1_liesUnder_18 : decode cX1_liesUnder 18 = .ok (.if_icmp .ge 7, 3) := by decide +kernel
theorem dX1_liesUnder_21 : decode cX1_liesUnder 21 = .ok (.iconst 1, 1) := by decide +kernel
theorem dX1_liesUnder_22 : decode cX1_liesUnder 22 = .ok (.goto 4, 3) := by decide +kernel
theorem dX1_liesUnder_25 : decode cX1_liesUnder 25 = .ok (.iconst 0, 1) := by decide +kernel
theorem dX1_liesUnder_26 : decode cX1_liesUnder 26 = .ok (.ireturn, 1) := by decide +kernel
theorem dX1_tell_0 : decode cX1_tell 0 = .ok (.iload_n 1, 1) := by decide +kernel
theorem dX1_tell_1 : decode cX1_tell 1 = .ok (.tableswitch 105 0 5 #[39, 48, 53, 66, 87, 100], 39) := by decide +kernel
theorem dX1_tell_40 : decode cX1_tell 40 = .ok (.aload_n 0, 1) := by decide +kernel
theorem dX1_tell_41 : decode cX1_tell 41 = .ok (.getfield 11, 3) := by decide +kernel
theorem dX1_tell_44 : decode cX1_tell 44 = .ok (.sipush 1000, 3) := by decide +kernel
theorem dX1_tell_47 : decode cX1_tell 47 = .ok (.iadd, 1) := by decide +kernel
theorem dX1_tell_48 : decode cX1_tell 48 = .ok (.ireturn, 1) := by decide +kernel
theorem dX1_tell_49 : decode cX1_tell 49 = .ok (.aload_n 0, 1) := by decide +kernel
theorem dX1_tell_50 : decode cX1_tell 50 = .ok (.getfield 15, 3) := by decide +kernel
theorem dX1_tell_53 : decode cX1_tell 53 = .ok (.ireturn, 1) := by decide +kernel
theorem dX1_tell_54 : decode cX1_tell 54 = .ok (.aload_n 0, 1) := by decide +kernel
theorem dX1_tell_55 : decode cX1_tell 55 = .ok (.getfield 18, 3) := by decide +kernel
theorem dX1_tell_58 : decode cX1_tell 58 = .ok (.ifCond .eq 7, 3) := by decide +kernel
theorem dX1_tell_61 : decode cX1_tell 61 = .ok (.iconst 1, 1) := by decide +kernel
theorem dX1_tell_62 : decode cX1_tell 62 = .ok (.goto 4, 3) := by decide +kernel
theorem dX1_tell_65 : decode cX1_tell 65 = .ok (.iconst 0, 1) := by decide +kernel
theorem dX1_tell_66 : decode cX1_tell 66 = .ok (.ireturn, 1) := by decide +kernel
theorem dX1_tell_67 : decode cX1_tell 67 = .ok (.aload_n 0, 1) := by decide +kernel
theorem dX1_tell_68 : decode cX1_tell 68 = .ok (.getfield 22, 3) := by decide +kernel
theorem dX1_tell_71 : decode cX1_tell 71 = .ok (.ifCond .eq 14, 3) := by decide +kernel
theorem dX1_tell_74 : decode cX1_tell 74 = .ok (.aload_n 0, 1) := by decide +kernel
theorem dX1_tell_75 : decode cX1_tell 75 = .ok (.getfield 25, 3) := by decide +kernel
theorem dX1_tell_78 : decode cX1_tell 78 = .ok (.sipush 1000, 3) := by decide +kernel
theorem dX1_tell_81 : decode cX1_tell 81 = .ok (.iadd, 1) := by decide +kernel
theorem dX1_tell_82 : decode cX1_tell 82 = .ok (.goto 5, 3) := by decide +kernel
theorem dX1_tell_85 : decode cX1_tell 85 = .ok (.bipush (-6), 2) := by decide +kernel
theorem dX1_tell_87 : decode cX1_tell 87 = .ok (.ireturn, 1) := by decide +kernel
theorem dX1_tell_88 : decode cX1_tell 88 = .ok (.aload_n 0, 1) := by decide +kernel
theorem dX1_tell_89 : decode cX1_tell 89 = .ok (.getfield 28, 3) := by decide +kernel
theorem dX1_tell_92 : decode cX1_tell 92 = .ok (.ifCond .eq 7, 3) := by decide +kernel
theorem dX1_tell_95 : decode cX1_tell 95 = .ok (.iconst 1, 1) := by decide +kernel
theorem dX1_tell_96 : decode cX1_tell 96 = .ok (.goto 4, 3) := by decide +kernel
theorem dX1_tell_99 : decode cX1_tell 99 = .ok (.iconst 0, 1) := by decide +kernel
theorem dX1_tell_100 : decode cX1_tell 100 = .ok (.ireturn, 1) := by decide +kernel
theorem dX1_tell_101 : decode cX1_tell 101 = .ok (.aload_n 0, 1) := by decide +kernel
theorem dX1_tell_102 : decode cX1_tell 102 = .ok (.getfield 31, 3) := by decide +kernel
theorem dX1_tell_105 : decode cX1_tell 105 = .ok (.ireturn, 1) := by decide +kernel
theorem dX1_tell_106 : decode cX1_tell 106 = .ok (.bipush (-2), 2) := by decide +kernel
theorem dX1_tell_108 : decode cX1_tell 108 = .ok (.ireturn, 1) := by decide +kernel
set_option maxRecDepth 20000 in
theorem ggX2_init_X0_init : GoodIn wsX2_init wsX0_init := goodIn_r _ [10, 11, 2, 3, 12, 13, 14, 15, 16, 17, 18, 19, 20, 21, 22, 23, 24, 25, 26, 27, 28, 29, 30, 31, 32, 36, 37, 38, 39, 40, 41, 42, 43, 44, 45, 46, 47, 48, 49, 50, 51, 52] (by decide +kernel) (by decide +kernel)
set_option maxRecDepth 20000 in
theorem gX2_init_X0_init : GoodIn wsX2_init (wsX0_init) := ggX2_init_X0_init
theorem dX2_init_0 : decode cX2_init 0 = .ok (.aload_n 0, 1) := by decide +kernel
theorem dX2_init_1 : decode cX2_init 1 = .ok (.invokespecial 3, 3) := by decide +kernel
theorem dX2_init_4 : decode cX2_init 4 = .ok (.aload_n 0, 1) := by decide +kernel
theorem dX2_init_5 : decode cX2_init 5 = .ok (.bipush 7, 2) := by decide +kernel
theorem dX2_init_7 : decode cX2_init 7 = .ok (.anewarray 9, 3) := by decide +kernel
theorem dX2_init_10 : decode cX2_init 10 = .ok (.putfield 11, 3) := by decide +kernel
theorem dX2_init_13 : decode cX2_init 13 = .ok (.iconst 0, 1) := by decide +kernel
theorem dX2_init_14 : decode cX2_init 14 = .ok (.istore_n 1, 1) := by decide +kernel
theorem dX2_init_15 : decode cX2_init 15 = .ok (.iload_n 1, 1) := by decide +kernel
theorem dX2_init_16 : decode cX2_init 16 = .ok (.bipush 7, 2) := by decide +kernel
theorem dX2_init_18 : decode cX2_init 18 = .ok (.if_icmp .ge 22, 3) := by decide +kernel
theorem dX2_init_21 : decode cX2_init 21 = .ok (.aload_n 0, 1) := by decide +kernel
theorem dX2_init_22 : decode cX2_init 22 = .ok (.getfield 11, 3) := by decide +kernel
theorem dX2_init_25 : decode cX2_init 25 = .ok (.iload_n 1, 1) := by decide +kernel
theorem dX2_init_26 : decode cX2_init 26 = .ok (.new 9, 3) := by decide +kernel
theorem dX2_init_29 : decode cX2_init 29 = .ok (.dup, 1) := by decide +kernel
theorem dX2_init_30 : decode cX2_init 30 = .ok (.invokespecial 15, 3) := by decide +kernel
theorem dX2_init_33 : decode cX2_init 33 = .ok (.aastore, 1) := by decide +kernel
theorem dX2_init_34 : decode cX2_init 34 = .ok (.iinc 1 1, 3) := by decide +kernel
theorem dX2_init_37 : decode cX2_init 37 = .ok (.goto (-22), 3) := by decide +kernel
theorem dX2_init_40 : decode cX2_init 40 = .ok (.return_, 1) := by decide +kernel
set_option maxRecDepth 20000 in
theorem ggX2_stateAt_J9_floorMod_7cf53 : GoodIn wsX2_stateAt wsJ9_floorMod_7cf53 := goodIn_r _ [6] (by decide +kernel) (by decide +kernel)
set_option maxRecDepth 20000 in
theorem gX2_stateAt_J9_floorMod_7cf53 : GoodIn wsX2_stateAt (va_wsS RX2 20 yJ9_floorMod_7cf53 wsJ9_floorMod_7cf53) := goodIn_app (goodIn_of _ (by decide +kernel)) ggX2_stateAt_J9_floorMod_7cf53
theorem dX2_stateAt_0 : decode cX2_stateAt 0 = .ok (.aload_n 0, 1) := by decide +kernel
theorem dX2_stateAt_1 : decode cX2_stateAt 1 = .ok (.getfield 11, 3) := by decide +kernel
theorem dX2_stateAt_4 : decode cX2_stateAt 4 = .ok (.aload_n 0, 1) := by decide +kernel
theorem dX2_stateAt_5 : decode cX2_stateAt 5 = .ok (.getfield 16, 3) := by decide +kernel
theorem dX2_stateAt_8 : decode cX2_stateAt 8 = .ok (.iload_n 1, 1) := by decide +kernel
theorem dX2_stateAt_9 : decode cX2_stateAt 9 = .ok (.iadd, 1) := by decide +kernel
theorem dX2_stateAt_10 : decode cX2_stateAt 10 = .ok (.bipush 7, 2) := by decide +kernel
theorem dX2_stateAt_12 : decode cX2_stateAt 12 = .ok (.invokestatic 20, 3) := by decide +kernel
theorem dX2_stateAt_15 : decode cX2_stateAt 15 = .ok (.aaload, 1) := by decide +kernel
theorem dX2_stateAt_16 : decode cX2_stateAt 16 = .ok (.areturn, 1) := by decide +kernel
set_option maxRecDepth 20000 in
theorem ggX2_note_X2_stateAt : GoodIn wsX2_note wsX2_stateAt := goodIn_r _ [6, 7, 8, 9, 10, 11, 12, 44, 45, 46] (by decide +kernel) (by decide +kernel)
set_option maxRecDepth 20000 in
theorem gX2_note_X2_stateAt : GoodIn wsX2_note (wsV RX2 29 RX2 yX2_stateAt wsX2_stateAt) := goodIn_app (goodIn_of _ (by decide +kernel)) ggX2_note_X2_stateAt
set_option maxRecDepth 20000 in
theorem ggX2_note_X0_copyFrom : GoodIn wsX2_note wsX0_copyFrom := goodIn_r _ [17, 18, 19, 20, 21, 22, 23, 24, 25, 26, 27, 28, 29, 30, 31, 32, 33, 34, 35, 36, 37, 38, 39, 40, 41, 42, 43, 47, 48, 49, 50, 51, 52, 53, 54, 55, 56, 57, 58, 59, 60, 61, 62, 63] (by decide +kernel) (by decide +kernel)
set_option maxRecDepth 20000 in
theorem gX2_note_X0_copyFrom : GoodIn wsX2_note (wsV RX2 33 RX0 yX0_copyFrom wsX0_copyFrom) := goodIn_app (goodIn_of _ (by decide +kernel)) ggX2_note_X0_copyFrom
theorem dX2_note_0 : decode cX2_note 0 = .ok (.aload_n 0, 1) := by decide +kernel
theorem dX2_note_1 : decode cX2_note 1 = .ok (.aload_n 0, 1) := by decide +kernel
theorem dX2_note_2 : decode cX2_note 2 = .ok (.getfield 26, 3) := by decide +kernel
theorem dX2_note_5 : decode cX2_note 5 = .ok (.invokevirtual 29, 3) := by decide +kernel
theorem dX2_note_8 : decode cX2_note 8 = .ok (.aload_n 1, 1) := by decide +kernel
theorem dX2_note_9 : decode cX2_note 9 = .ok (.invokevirtual 33, 3) := by decide +kernel
theorem dX2_note_12 : decode cX2_note 12 = .ok (.return_, 1) := by decide +kernel
set_option maxRecDepth 20000 in
theorem ggX2_keepNoted_J9_floorMod_7cf53 : GoodIn wsX2_keepNoted wsJ9_floorMod_7cf53 := goodIn_r _ [6] (by decide +kernel) (by decide +kernel)
set_option maxRecDepth 20000 in
theorem gX2_keepNoted_J9_floorMod_7cf53 : GoodIn wsX2_keepNoted (va_wsS RX2 20 yJ9_floorMod_7cf53 wsJ9_floorMod_7cf53) := goodIn_app (goodIn_of _ (by decide +kernel)) ggX2_keepNoted_J9_floorMod_7cf53
theorem dX2_keepNoted_0 : decode cX2_keepNoted 0 = .ok (.aload_n 0, 1) := by decide +kernel
theorem dX2_keepNoted_1 : decode cX2_keepNoted 1 = .ok (.getfield 26, 3) := by decide +kernel
theorem dX2_keepNoted_4 : decode cX2_keepNoted 4 = .ok (.bipush 6, 2) := by decide +kernel
theorem dX2_keepNoted_6 : decode cX2_keepNoted 6 = .ok (.if_icmp .ge 16, 3) := by decide +kernel
theorem dX2_keepNoted_9 : decode cX2_keepNoted 9 = .ok (.aload_n 0, 1) := by decide +kernel
theorem dX2_keepNoted_10 : decode cX2_keepNoted 10 = .ok (.dup, 1) := by decide +kernel
theorem dX2_keepNoted_11 : decode cX2_keepNoted 11 = .ok (.getfield 26, 3) := by decide +kernel
theorem dX2_keepNoted_14 : decode cX2_keepNoted 14 = .ok (.iconst 1, 1) := by decide +kernel
theorem dX2_keepNoted_15 : decode cX2_keepNoted 15 = .ok (.iadd, 1) := by decide +kernel
theorem dX2_keepNoted_16 : decode cX2_keepNoted 16 = .ok (.putfield 26, 3) := by decide +kernel
theorem dX2_keepNoted_19 : decode cX2_keepNoted 19 = .ok (.goto 18, 3) := by decide +kernel
theorem dX2_keepNoted_22 : decode cX2_keepNoted 22 = .ok (.aload_n 0, 1) := by decide +kernel
theorem dX2_keepNoted_23 : decode cX2_keepNoted 23 = .ok (.aload_n 0, 1) := by decide +kernel
theorem dX2_keepNoted_24 : decode cX2_keepNoted 24 = .ok (.getfield 16, 3) := by decide +kernel
theorem dX2_keepNoted_27 : decode cX2_keepNoted 27 = .ok (.iconst 1, 1) := by decide +kernel
theorem dX2_keepNoted_28 : decode cX2_keepNoted 28 = .ok (.iadd, 1) := by decide +kernel
theorem dX2_keepNoted_29 : decode cX2_keepNoted 29 = .ok (.bipush 7, 2) := by decide +kernel
theorem dX2_keepNoted_31 : decode cX2_keepNoted 31 = .ok (.invokestatic 20, 3) := by decide +kernel
theorem dX2_keepNoted_34 : decode cX2_keepNoted 34 = .ok (.putfield 16, 3) := by decide +kernel
theorem dX2_keepNoted_37 : decode cX2_keepNoted 37 = .ok (.return_, 1) := by decide +kernel
set_option maxRecDepth 20000 in
theorem ggX2_takeBack_X2_stateAt : GoodIn wsX2_takeBack wsX2_stateAt := goodIn_r _ [6, 7, 8, 9, 10, 11, 12, 44, 45, 46] (by decide +kernel) (by decide +kernel)
set_option maxRecDepth 20000 in
theorem gX2_takeBack_X2_stateAt : GoodIn wsX2_takeBack (wsV RX2 29 RX2 yX2_stateAt wsX2_stateAt) := goodIn_app (goodIn_of _ (by decide +kernel)) ggX2_takeBack_X2_stateAt
set_option maxRecDepth 20000 in
theorem ggX2_takeBack_X0_copyFrom : GoodIn wsX2_takeBack wsX0_copyFrom := goodIn_r _ [17, 18, 19, 20, 21, 22, 23, 24, 25, 26, 27, 28, 29, 30, 31, 32, 33, 34, 35, 36, 37, 38, 39, 40, 41, 42, 43, 47, 48, 49, 50, 51, 52, 53, 54, 55, 56, 57, 58, 59, 60, 61, 62, 63] (by decide +kernel) (by decide +kernel)
set_option maxRecDepth 20000 in
theorem gX2_takeBack_X0_copyFrom : GoodIn wsX2_takeBack (wsV RX2 33 RX0 yX0_copyFrom wsX0_copyFrom) := goodIn_app (goodIn_of _ (by decide +kernel)) ggX2_takeBack_X0_copyFrom
theorem dX2_takeBack_0 : decode cX2_takeBack 0 = .ok (.aload_n 0, 1) := by decide +kernel
theorem dX2_takeBack_1 : decode cX2_takeBack 1 = .ok (.getfield 26, 3) := by decide +kernel
theorem dX2_takeBack_4 : decode cX2_takeBack 4 = .ok (.ifCond .le 25, 3) := by decide +kernel
theorem dX2_takeBack_7 : decode cX2_takeBack 7 = .ok (.aload_n 0, 1) := by decide +kernel
theorem dX2_takeBack_8 : decode cX2_takeBack 8 = .ok (.dup, 1) := by decide +kernel
theorem dX2_takeBack_9 : decode cX2_takeBack 9 = .ok (.getfield 26, 3) := by decide +kernel
theorem dX2_takeBack_12 : decode cX2_takeBack 12 = .ok (.iconst 1, 1) := by decide +kernel
theorem dX2_takeBack_13 : decode cX2_takeBack 13 = .ok (.isub, 1) := by decide +kernel
theorem dX2_takeBack_14 : decode cX2_takeBack 14 = .ok (.putfield 26, 3) := by decide +kernel
theorem dX2_takeBack_17 : decode cX2_takeBack 17 = .ok (.aload_n 1, 1) := by decide +kernel
theorem dX2_takeBack_18 : decode cX2_takeBack 18 = .ok (.aload_n 0, 1) := by decide +kernel
theorem dX2_takeBack_19 : decode cX2_takeBack 19 = .ok (.aload_n 0, 1) := by decide +kernel
theorem dX2_takeBack_20 : decode cX2_takeBack 20 = .ok (.getfield 26, 3) := by decide +kernel
theorem dX2_takeBack_23 : decode cX2_takeBack 23 = .ok (.invokevirtual 29, 3) := by decide +kernel
theorem dX2_takeBack_26 : decode cX2_takeBack 26 = .ok (.invokevirtual 33, 3) := by decide +kernel
theorem dX2_takeBack_29 : decode cX2_takeBack 29 = .ok (.return_, 1) := by decide +kernel
theorem dX3_init_0 : decode cX3_init 0 = .ok (.aload_n 0, 1) := by decide +kernel
theorem dX3_init_1 : decode cX3_init 1 = .ok (.invokespecial 3, 3) := by decide +kernel
theorem dX3_init_4 : decode cX3_init 4 = .ok (.aload_n 0, 1) := by decide +kernel
theorem dX3_init_5 : decode cX3_init 5 = .ok (.bipush 60, 2) := by decide +kernel
theorem dX3_init_7 : decode cX3_init 7 = .ok (.newarray .char, 2) := by decide +kernel
theorem dX3_init_9 : decode cX3_init 9 = .ok (.putfield 11, 3) := by decide +kernel
theorem dX3_init_12 : decode cX3_init 12 = .ok (.return_, 1) := by decide +kernel
theorem dJ9_floorDiv_7cf53_0 : decode cJ9_floorDiv_7cf53 0 = .ok (.iload_n 0, 1) := by decide +kernel
theorem dJ9_floorDiv_7cf53_1 : decode cJ9_floorDiv_7cf53 1 = .ok (.iload_n 1, 1) := by decide +kernel
theorem dJ9_floorDiv_7cf53_2 : decode cJ9_floorDiv_7cf53 2 = .ok (.idiv, 1) := by decide +kernel
theorem dJ9_floorDiv_7cf53_3 : decode cJ9_floorDiv_7cf53 3 = .ok (.istore_n 2, 1) := by decide +kernel
theorem dJ9_floorDiv_7cf53_4 : decode cJ9_floorDiv_7cf53 4 = .ok (.iload_n 0, 1) := by decide +kernel
theorem dJ9_floorDiv_7cf53_5 : decode cJ9_floorDiv_7cf53 5 = .ok (.iload_n 1, 1) := by decide +kernel
theorem dJ9_floorDiv_7cf53_6 : decode cJ9_floorDiv_7cf53 6 = .ok (.ixor, 1) := by decide +kernel
theorem dJ9_floorDiv_7cf53_7 : decode cJ9_floorDiv_7cf53 7 = .ok (.ifCond .ge 14, 3) := by decide +kernel
theorem dJ9_floorDiv_7cf53_10 : decode cJ9_floorDiv_7cf53 10 = .ok (.iload_n 2, 1) := by decide +kernel
theorem dJ9_floorDiv_7cf53_11 : decode cJ9_floorDiv_7cf53 11 = .ok (.iload_n 1, 1) := by decide +kernel
theorem dJ9_floorDiv_7cf53_12 : decode cJ9_floorDiv_7cf53 12 = .ok (.imul, 1) := by decide +kernel
theorem dJ9_floorDiv_7cf53_13 : decode cJ9_floorDiv_7cf53 13 = .ok (.iload_n 0, 1) := by decide +kernel
theorem dJ9_floorDiv_7cf53_14 : decode cJ9_floorDiv_7cf53 14 = .ok (.if_icmp .eq 7, 3) := by decide +kernel
theorem dJ9_floorDiv_7cf53_17 : decode cJ9_floorDiv_7cf53 17 = .ok (.iload_n 2, 1) := by decide +kernel
theorem dJ9_floorDiv_7cf53_18 : decode cJ9_floorDiv_7cf53 18 = .ok (.iconst 1, 1) := by decide +kernel
theorem dJ9_floorDiv_7cf53_19 : decode cJ9_floorDiv_7cf53 19 = .ok (.isub, 1) := by decide +kernel
theorem dJ9_floorDiv_7cf53_20 : decode cJ9_floorDiv_7cf53 20 = .ok (.ireturn, 1) := by decide +kernel
theorem dJ9_floorDiv_7cf53_21 : decode cJ9_floorDiv_7cf53 21 = .ok (.iload_n 2, 1) := by decide +kernel
theorem dJ9_floorDiv_7cf53_22 : decode cJ9_floorDiv_7cf53 22 = .ok (.ireturn, 1) := by decide +kernel
theorem dJ9_floorMod_7cf53_0 : decode cJ9_floorMod_7cf53 0 = .ok (.iload_n 0, 1) := by decide +kernel
theorem dJ9_floorMod_7cf53_1 : decode cJ9_floorMod_7cf53 1 = .ok (.iload_n 1, 1) := by decide +kernel
theorem dJ9_floorMod_7cf53_2 : decode cJ9_floorMod_7cf53 2 = .ok (.irem, 1) := by decide +kernel
theorem dJ9_floorMod_7cf53_3 : decode cJ9_floorMod_7cf53 3 = .ok (.istore_n 2, 1) := by decide +kernel
theorem dJ9_floorMod_7cf53_4 : decode cJ9_floorMod_7cf53 4 = .ok (.iload_n 0, 1) := by decide +kernel
theorem dJ9_floorMod_7cf53_5 : decode cJ9_floorMod_7cf53 5 = .ok (.iload_n 1, 1) := by decide +kernel
theorem dJ9_floorMod_7cf53_6 : decode cJ9_floorMod_7cf53 6 = .ok (.ixor, 1) := by decide +kernel
theorem dJ9_floorMod_7cf53_7 : decode cJ9_floorMod_7cf53 7 = .ok (.ifCond .ge 11, 3) := by decide +kernel
theorem dJ9_floorMod_7cf53_10 : decode cJ9_floorMod_7cf53 10 = .ok (.iload_n 2, 1) := by decide +kernel
theorem dJ9_floorMod_7cf53_11 : decode cJ9_floorMod_7cf53 11 = .ok (.ifCond .eq 7, 3) := by decide +kernel
theorem dJ9_floorMod_7cf53_14 : decode cJ9_floorMod_7cf53 14 = .ok (.iload_n 2, 1) := by decide +kernel
theorem dJ9_floorMod_7cf53_15 : decode cJ9_floorMod_7cf53 15 = .ok (.iload_n 1, 1) := by decide +kernel
theorem dJ9_floorMod_7cf53_16 : decode cJ9_floorMod_7cf53 16 = .ok (.iadd, 1) := by decide +kernel
theorem dJ9_floorMod_7cf53_17 : decode cJ9_floorMod_7cf53 17 = .ok (.ireturn, 1) := by decide +kernel
theorem dJ9_floorMod_7cf53_18 : decode cJ9_floorMod_7cf53 18 = .ok (.iload_n 2, 1) := by decide +kernel
theorem dJ9_floorMod_7cf53_19 : decode cJ9_floorMod_7cf53 19 = .ok (.ireturn, 1) := by decide +kernel
theorem dJ9_abs_0f7a4_0 : decode cJ9_abs_0f7a4 0 = .ok (.iload_n 0, 1) := by decide +kernel
theorem dJ9_abs_0f7a4_1 : decode cJ9_abs_0f7a4 1 = .ok (.ifCond .ge 8, 3) := by decide +kernel
theorem dJ9_abs_0f7a4_4 : decode cJ9_abs_0f7a4 4 = .ok (.iload_n 0, 1) := by decide +kernel
theorem dJ9_abs_0f7a4_5 : decode cJ9_abs_0f7a4 5 = .ok (.ineg, 1) := by decide +kernel
theorem dJ9_abs_0f7a4_6 : decode cJ9_abs_0f7a4 6 = .ok (.goto 4, 3) := by decide +kernel
theorem dJ9_abs_0f7a4_9 : decode cJ9_abs_0f7a4 9 = .ok (.iload_n 0, 1) := by decide +kernel
theorem dJ9_abs_0f7a4_10 : decode cJ9_abs_0f7a4 10 = .ok (.ireturn, 1) := by decide +kernel
theorem dJ9_min_7cf53_0 : decode cJ9_min_7cf53 0 = .ok (.iload_n 0, 1) := by decide +kernel
theorem dJ9_min_7cf53_1 : decode cJ9_min_7cf53 1 = .ok (.iload_n 1, 1) := by decide +kernel
theorem dJ9_min_7cf53_2 : decode cJ9_min_7cf53 2 = .ok (.if_icmp .gt 7, 3) := by decide +kernel
theorem dJ9_min_7cf53_5 : decode cJ9_min_7cf53 5 = .ok (.iload_n 0, 1) := by decide +kernel
theorem dJ9_min_7cf53_6 : decode cJ9_min_7cf53 6 = .ok (.goto 4, 3) := by decide +kernel
theorem dJ9_min_7cf53_9 : decode cJ9_min_7cf53 9 = .ok (.iload_n 1, 1) := by decide +kernel
theorem dJ9_min_7cf53_10 : decode cJ9_min_7cf53 10 = .ok (.ireturn, 1) := by decide +kernel
end
section
set_option maxRecDepth 20000 in
theorem ggX4_init_X0_init : GoodIn wsX4_init wsX0_init := goodIn_r _ [22, 23, 2, 3, 24, 25, 26, 27, 28, 29, 30, 31, 32, 33, 34, 35, 36, 37, 38, 39, 40, 41, 42, 43, 44, 57, 58, 59, 60, 61, 62, 63, 64, 65, 66, 78, 79, 80, 81, 82, 83, 84] (by decide +kernel) (by decide +kernel)
set_option maxRecDepth 20000 in
theorem gX4_init_X0_init : GoodIn wsX4_init (wsX0_init) := ggX4_init_X0_init
set_option maxRecDepth 20000 in
theorem ggX4_init_X2_init : GoodIn wsX4_init wsX2_init := goodIn_r _ [47, 48, 2, 3, 49, 50, 5, 6, 51, 21, 22, 23, 24, 25, 26, 27, 28, 29, 30, 31, 32, 33, 34, 35, 36, 37, 38, 39, 40, 41, 42, 43, 44, 73, 74, 75, 57, 58, 59, 60, 61, 62, 63, 64, 65, 66, 78, 79, 80, 81, 82, 83, 84] (by decide +kernel) (by decide +kernel)
set_option maxRecDepth 20000 in
theorem gX4_init_X2_init : GoodIn wsX4_init (wsX2_init) := ggX4_init_X2_init
set_option maxRecDepth 20000 in
theorem ggX4_init_X3_init : GoodIn wsX4_init wsX3_init := goodIn_r _ [53, 54, 2, 3, 55, 56, 76, 77] (by decide +kernel) (by decide +kernel)
set_option maxRecDepth 20000 in
theorem gX4_init_X3_init_n36 : GoodIn wsX4_init (wsX3_init) := ggX4_init_X3_init
theorem dX4_init_0 : decode cX4_init 0 = .ok (.aload_n 0, 1) := by decide +kernel
theorem dX4_init_1 : decode cX4_init 1 = .ok (.invokespecial 1, 3) := by decide +kernel
theorem dX4_init_4 : decode cX4_init 4 = .ok (.aload_n 0, 1) := by decide +kernel
theorem dX4_init_5 : decode cX4_init 5 = .ok (.new 7, 3) := by decide +kernel
theorem dX4_init_8 : decode cX4_init 8 = .ok (.dup, 1) := by decide +kernel
theorem dX4_init_9 : decode cX4_init 9 = .ok (.invokespecial 9, 3) := by decide +kernel
theorem dX4_init_12 : decode cX4_init 12 = .ok (.putfield 10, 3) := by decide +kernel
theorem dX4_init_15 : decode cX4_init 15 = .ok (.aload_n 0, 1) := by decide +kernel
theorem dX4_init_16 : decode cX4_init 16 = .ok (.new 7, 3) := by decide +kernel
theorem dX4_init_19 : decode cX4_init 19 = .ok (.dup, 1) := by decide +kernel
theorem dX4_init_20 : decode cX4_init 20 = .ok (.invokespecial 9, 3) := by decide +kernel
theorem dX4_init_23 : decode cX4_init 23 = .ok (.putfield 16, 3) := by decide +kernel
theorem dX4_init_26 : decode cX4_init 26 = .ok (.aload_n 0, 1) := by decide +kernel
theorem dX4_init_27 : decode cX4_init 27 = .ok (.new 19, 3) := by decide +kernel
theorem dX4_init_30 : decode cX4_init 30 = .ok (.dup, 1) := by decide +kernel
theorem dX4_init_31 : decode cX4_init 31 = .ok (.invokespecial 21, 3) := by decide +kernel
theorem dX4_init_34 : decode cX4_init 34 = .ok (.putfield 22, 3) := by decide +kernel
theorem dX4_init_37 : decode cX4_init 37 = .ok (.aload_n 0, 1) := by decide +kernel
theorem dX4_init_38 : decode cX4_init 38 = .ok (.iconst 2, 1) := by decide +kernel
theorem dX4_init_39 : decode cX4_init 39 = .ok (.anewarray 7, 3) := by decide +kernel
theorem dX4_init_42 : decode cX4_init 42 = .ok (.dup, 1) := by decide +kernel
theorem dX4_init_43 : decode cX4_init 43 = .ok (.iconst 0, 1) := by decide +kernel
theorem dX4_init_44 : decode cX4_init 44 = .ok (.new 7, 3) := by decide +kernel
theorem dX4_init_47 : decode cX4_init 47 = .ok (.dup, 1) := by decide +kernel
theorem dX4_init_48 : decode cX4_init 48 = .ok (.invokespecial 9, 3) := by decide +kernel
theorem dX4_init_51 : decode cX4_init 51 = .ok (.aastore, 1) := by decide +kernel
theorem dX4_init_52 : decode cX4_init 52 = .ok (.dup, 1) := by decide +kernel
theorem dX4_init_53 : decode cX4_init 53 = .ok (.iconst 1, 1) := by decide +kernel
theorem dX4_init_54 : decode cX4_init 54 = .ok (.new 7, 3) := by decide +kernel
theorem dX4_init_57 : decode cX4_init 57 = .ok (.dup, 1) := by decide +kernel
theorem dX4_init_58 : decode cX4_init 58 = .ok (.invokespecial 9, 3) := by decide +kernel
theorem dX4_init_61 : decode cX4_init 61 = .ok (.aastore, 1) := by decide +kernel
theorem dX4_init_62 : decode cX4_init 62 = .ok (.putfield 26, 3) := by decide +kernel
theorem dX4_init_65 : decode cX4_init 65 = .ok (.aload_n 0, 1) := by decide +kernel
theorem dX4_init_66 : decode cX4_init 66 = .ok (.aload_n 0, 1) := by decide +kernel
theorem dX4_init_67 : decode cX4_init 67 = .ok (.getfield 26, 3) := by decide +kernel
theorem dX4_init_70 : decode cX4_init 70 = .ok (.arraylength, 1) := by decide +kernel
theorem dX4_init_71 : decode cX4_init 71 = .ok (.newarray .boolean, 2) := by decide +kernel
theorem dX4_init_73 : decode cX4_init 73 = .ok (.putfield 30, 3) := by decide +kernel
theorem dX4_init_76 : decode cX4_init 76 = .ok (.aload_n 0, 1) := by decide +kernel
theorem dX4_init_77 : decode cX4_init 77 = .ok (.new 34, 3) := by decide +kernel
theorem dX4_init_80 : decode cX4_init 80 = .ok (.dup, 1) := by decide +kernel
theorem dX4_init_81 : decode cX4_init 81 = .ok (.invokespecial 36, 3) := by decide +kernel
theorem dX4_init_84 : decode cX4_init 84 = .ok (.putfield 37, 3) := by decide +kernel
theorem dX4_init_87 : decode cX4_init 87 = .ok (.return_, 1) := by decide +kernel
set_option maxRecDepth 20000 in
theorem ggX4_set_X2_note : GoodIn wsX4_set wsX2_note := goodIn_r _ [7, 8, 9, 10, 11, 6, 12, 13, 14, 15, 16, 17, 18, 19, 20, 21, 22, 23, 24, 25, 26, 27, 28, 29, 30, 31, 32, 33, 34, 35, 36, 37, 38, 39, 40, 41, 42, 43, 44, 45, 46, 47, 48, 49, 71, 72, 73, 74, 75, 76, 77, 78, 79, 80, 81, 82, 83, 84, 85, 86, 87, 88, 89, 90] (by decide +kernel) (by decide +kernel)
set_option maxRecDepth 20000 in
theorem gX4_set_X2_note : GoodIn wsX4_set (wsV RX4 41 RX2 yX2_note wsX2_note) := goodIn_app (goodIn_of _ (by decide +kernel)) ggX4_set_X2_note
set_option maxRecDepth 20000 in
theorem ggX4_set_X0_choose : GoodIn wsX4_set wsX0_choose := goodIn_r _ [53, 24, 54, 55, 74, 75, 76, 77, 78, 79, 80, 81, 82, 83] (by decide +kernel) (by decide +kernel)
set_option maxRecDepth 20000 in
theorem gX4_set_X0_choose : GoodIn wsX4_set (wsV RX4 45 RX0 yX0_choose wsX0_choose) := goodIn_app (goodIn_of _ (by decide +kernel)) ggX4_set_X0_choose
set_option maxRecDepth 20000 in
theorem ggX4_set_X4_recorded : GoodIn wsX4_set wsX4_recorded := goodIn_r _ [60, 1, 61, 62, 63, 6, 64, 8, 14, 15, 16, 17, 18, 65, 66, 67, 68, 69, 70, 71, 72, 73] (by decide +kernel) (by decide +kernel)
set_option maxRecDepth 20000 in
theorem gX4_set_X4_recorded : GoodIn wsX4_set (wsV RX4 49 RX4 yX4_recorded wsX4_recorded) := goodIn_app (goodIn_of _ (by decide +kernel)) ggX4_set_X4_recorded
theorem dX4_set_0 : decode cX4_set 0 = .ok (.aload_n 0, 1) := by decide +kernel
theorem dX4_set_1 : decode cX4_set 1 = .ok (.getfield 22, 3) := by decide +kernel
theorem dX4_set_4 : decode cX4_set 4 = .ok (.aload_n 0, 1) := by decide +kernel
theorem dX4_set_5 : decode cX4_set 5 = .ok (.getfield 10, 3) := by decide +kernel
theorem dX4_set_8 : decode cX4_set 8 = .ok (.invokevirtual 41, 3) := by decide +kernel
theorem dX4_set_11 : decode cX4_set 11 = .ok (.aload_n 0, 1) := by decide +kernel
theorem dX4_set_12 : decode cX4_set 12 = .ok (.aload_n 0, 1) := by decide +kernel
theorem dX4_set_13 : decode cX4_set 13 = .ok (.getfield 10, 3) := by decide +kernel
theorem dX4_set_16 : decode cX4_set 16 = .ok (.iload_n 1, 1) := by decide +kernel
theorem dX4_set_17 : decode cX4_set 17 = .ok (.iload_n 2, 1) := by decide +kernel
theorem dX4_set_18 : decode cX4_set 18 = .ok (.invokevirtual 45, 3) := by decide +kernel
theorem dX4_set_21 : decode cX4_set 21 = .ok (.invokevirtual 49, 3) := by decide +kernel
theorem dX4_set_24 : decode cX4_set 24 = .ok (.ireturn, 1) := by decide +kernel
set_option maxRecDepth 20000 in
theorem ggX4_arrive_X2_note : GoodIn wsX4_arrive wsX2_note := goodIn_r _ [7, 8, 9, 10, 11, 6, 12, 13, 14, 15, 16, 17, 18, 19, 20, 21, 22, 23, 24, 25, 26, 27, 28, 29, 30, 31, 32, 33, 34, 35, 36, 37, 38, 39, 40, 41, 42, 43, 44, 45, 46, 47, 48, 49, 80, 81, 82, 83, 84, 85, 86, 87, 88, 89, 90, 91, 92, 93, 94, 95, 96, 97, 98, 99] (by decide +kernel) (by decide +kernel)
set_option maxRecDepth 20000 in
theorem gX4_arrive_X2_note : GoodIn wsX4_arrive (wsV RX4 41 RX2 yX2_note wsX2_note) := goodIn_app (goodIn_of _ (by decide +kernel)) ggX4_arrive_X2_note
set_option maxRecDepth 20000 in
theorem ggX4_arrive_X0_takeBox : GoodIn wsX4_arrive wsX0_takeBox := goodIn_r _ [53, 30, 31, 29, 54, 55, 41, 56, 57, 58, 59, 60, 43, 44, 61, 62, 63, 64, 45, 46, 47, 48, 49, 83, 84, 85, 86, 87, 88, 89, 90, 91, 92, 93, 94, 95, 96, 97, 98, 99] (by decide +kernel) (by decide +kernel)
set_option maxRecDepth 20000 in
theorem gX4_arrive_X0_takeBox : GoodIn wsX4_arrive (wsV RX4 53 RX0 yX0_takeBox wsX0_takeBox) := goodIn_app (goodIn_of _ (by decide +kernel)) ggX4_arrive_X0_takeBox
set_option maxRecDepth 20000 in
theorem ggX4_arrive_X4_recorded : GoodIn wsX4_arrive wsX4_recorded := goodIn_r _ [69, 1, 70, 71, 72, 6, 73, 8, 14, 15, 16, 17, 18, 74, 75, 76, 77, 78, 79, 80, 81, 82] (by decide +kernel) (by decide +kernel)
set_option maxRecDepth 20000 in
theorem gX4_arrive_X4_recorded : GoodIn wsX4_arrive (wsV RX4 49 RX4 yX4_recorded wsX4_recorded) := goodIn_app (goodIn_of _ (by decide +kernel)) ggX4_arrive_X4_recorded
theorem dX4_arrive_0 : decode cX4_arrive 0 = .ok (.aload_n 0, 1) := by decide +kernel
theorem dX4_arrive_1 : decode cX4_arrive 1 = .ok (.getfield 22, 3) := by decide +kernel
theorem dX4_arrive_4 : decode cX4_arrive 4 = .ok (.aload_n 0, 1) := by decide +kernel
theorem dX4_arrive_5 : decode cX4_arrive 5 = .ok (.getfield 10, 3) := by decide +kernel
theorem dX4_arrive_8 : decode cX4_arrive 8 = .ok (.invokevirtual 41, 3) := by decide +kernel
theorem dX4_arrive_11 : decode cX4_arrive 11 = .ok (.aload_n 0, 1) := by decide +kernel
theorem dX4_arrive_12 : decode cX4_arrive 12 = .ok (.aload_n 0, 1) := by decide +kernel
theorem dX4_arrive_13 : decode cX4_arrive 13 = .ok (.getfield 10, 3) := by decide +kernel
theorem dX4_arrive_16 : decode cX4_arrive 16 = .ok (.iload_n 1, 1) := by decide +kernel
theorem dX4_arrive_17 : decode cX4_arrive 17 = .ok (.invokevirtual 53, 3) := by decide +kernel
theorem dX4_arrive_20 : decode cX4_arrive 20 = .ok (.invokevirtual 49, 3) := by decide +kernel
theorem dX4_arrive_23 : decode cX4_arrive 23 = .ok (.ireturn, 1) := by decide +kernel
set_option maxRecDepth 20000 in
theorem ggX4_turn_X2_note : GoodIn wsX4_turn wsX2_note := goodIn_r _ [7, 8, 9, 10, 11, 6, 12, 13, 14, 15, 16, 17, 18, 19, 20, 21, 22, 23, 24, 25, 26, 27, 28, 29, 30, 31, 32, 33, 34, 35, 36, 37, 38, 39, 40, 41, 42, 43, 44, 45, 46, 47, 48, 49, 89, 90, 91, 92, 93, 94, 95, 96, 97, 98, 99, 100, 101, 102, 103, 104, 105, 106, 107, 108] (by decide +kernel) (by decide +kernel)
set_option maxRecDepth 20000 in
theorem gX4_turn_X2_note : GoodIn wsX4_turn (wsV RX4 41 RX2 yX2_note wsX2_note) := goodIn_app (goodIn_of _ (by decide +kernel)) ggX4_turn_X2_note
set_option maxRecDepth 20000 in
theorem ggX4_turn_X0_turnBox : GoodIn wsX4_turn wsX0_turnBox := goodIn_r _ [53, 31, 54, 55, 56, 57, 58, 22, 59, 30, 60, 61, 41, 62, 63, 64, 17, 65, 66, 67, 68, 69, 70, 71, 72, 73, 43, 44, 92, 93, 94, 95, 96, 97, 98, 99, 100, 101, 102, 103, 104, 105, 106, 107, 108] (by decide +kernel) (by decide +kernel)
set_option maxRecDepth 20000 in
theorem gX4_turn_X0_turnBox : GoodIn wsX4_turn (wsV RX4 56 RX0 yX0_turnBox wsX0_turnBox) := goodIn_app (goodIn_of _ (by decide +kernel)) ggX4_turn_X0_turnBox
set_option maxRecDepth 20000 in
theorem ggX4_turn_X4_recorded : GoodIn wsX4_turn wsX4_recorded := goodIn_r _ [78, 1, 79, 80, 81, 6, 82, 8, 14, 15, 16, 17, 18, 83, 84, 85, 86, 87, 88, 89, 90, 91] (by decide +kernel) (by decide +kernel)
set_option maxRecDepth 20000 in
theorem gX4_turn_X4_recorded : GoodIn wsX4_turn (wsV RX4 49 RX4 yX4_recorded wsX4_recorded) := goodIn_app (goodIn_of _ (by decide +kernel)) ggX4_turn_X4_recorded
theorem dX4_turn_0 : decode cX4_turn 0 = .ok (.aload_n 0, 1) := by decide +kernel
theorem dX4_turn_1 : decode cX4_turn 1 = .ok (.getfield 22, 3) := by decide +kernel
theorem dX4_turn_4 : decode cX4_turn 4 = .ok (.aload_n 0, 1) := by decide +kernel
theorem dX4_turn_5 : decode cX4_turn 5 = .ok (.getfield 10, 3) := by decide +kernel
theorem dX4_turn_8 : decode cX4_turn 8 = .ok (.invokevirtual 41, 3) := by decide +kernel
theorem dX4_turn_11 : decode cX4_turn 11 = .ok (.aload_n 0, 1) := by decide +kernel
theorem dX4_turn_12 : decode cX4_turn 12 = .ok (.aload_n 0, 1) := by decide +kernel
theorem dX4_turn_13 : decode cX4_turn 13 = .ok (.getfield 10, 3) := by decide +kernel
theorem dX4_turn_16 : decode cX4_turn 16 = .ok (.iload_n 1, 1) := by decide +kernel
theorem dX4_turn_17 : decode cX4_turn 17 = .ok (.iload_n 2, 1) := by decide +kernel
theorem dX4_turn_18 : decode cX4_turn 18 = .ok (.invokevirtual 56, 3) := by decide +kernel
theorem dX4_turn_21 : decode cX4_turn 21 = .ok (.invokevirtual 49, 3) := by decide +kernel
theorem dX4_turn_24 : decode cX4_turn 24 = .ok (.ireturn, 1) := by decide +kernel
set_option maxRecDepth 20000 in
theorem ggX4_pass_X2_note : GoodIn wsX4_pass wsX2_note := goodIn_r _ [7, 8, 9, 10, 11, 6, 12, 13, 14, 15, 16, 17, 18, 19, 20, 21, 22, 23, 24, 25, 26, 27, 28, 29, 30, 31, 32, 33, 34, 35, 36, 37, 38, 39, 40, 41, 42, 43, 44, 45, 46, 47, 48, 49, 149, 150, 151, 152, 153, 154, 155, 156, 157, 158, 159, 160, 161, 162, 163, 164, 165, 166, 167, 168] (by decide +kernel) (by decide +kernel)
set_option maxRecDepth 20000 in
theorem gX4_pass_X2_note : GoodIn wsX4_pass (wsV RX4 41 RX2 yX2_note wsX2_note) := goodIn_app (goodIn_of _ (by decide +kernel)) ggX4_pass_X2_note
set_option maxRecDepth 20000 in
theorem ggX4_pass_X0_letPass : GoodIn wsX4_pass wsX0_letPass := goodIn_r _ [53, 29, 54, 55, 56, 22, 57, 58, 59, 60, 61, 62, 63, 64, 65, 24, 30, 31, 66, 37, 67, 68, 69, 70, 71, 72, 73, 74, 75, 32, 33, 34, 76, 77, 78, 79, 35, 36, 80, 81, 82, 83, 84, 85, 86, 87, 88, 89, 90, 91, 92, 93, 94, 95, 96, 97, 98, 99, 100, 101, 102, 41, 103, 43, 44, 104, 105, 106, 107, 108, 109, 110, 111, 112, 113, 114, 115, 116, 117, 118, 119, 120, 121, 122, 123, 124, 125, 126, 127, 128, 129, 130, 131, 132, 133, 152, 153, 154, 155, 156, 157, 158, 159, 160, 161, 162, 163, 164, 165, 166, 167, 168] (by decide +kernel) (by decide +kernel)
set_option maxRecDepth 20000 in
theorem gX4_pass_X0_letPass : GoodIn wsX4_pass (wsV RX4 59 RX0 yX0_letPass wsX0_letPass) := goodIn_app (goodIn_of _ (by decide +kernel)) ggX4_pass_X0_letPass
set_option maxRecDepth 20000 in
theorem ggX4_pass_X4_recorded : GoodIn wsX4_pass wsX4_recorded := goodIn_r _ [138, 1, 139, 140, 141, 6, 142, 8, 14, 15, 16, 17, 18, 143, 144, 145, 146, 147, 148, 149, 150, 151] (by decide +kernel) (by decide +kernel)
set_option maxRecDepth 20000 in
theorem gX4_pass_X4_recorded : GoodIn wsX4_pass (wsV RX4 49 RX4 yX4_recorded wsX4_recorded) := goodIn_app (goodIn_of _ (by decide +kernel)) ggX4_pass_X4_recorded
theorem dX4_pass_0 : decode cX4_pass 0 = .ok (.aload_n 0, 1) := by decide +kernel
theorem dX4_pass_1 : decode cX4_pass 1 = .ok (.getfield 22, 3) := by decide +kernel
theorem dX4_pass_4 : decode cX4_pass 4 = .ok (.aload_n 0, 1) := by decide +kernel
theorem dX4_pass_5 : decode cX4_pass 5 = .ok (.getfield 10, 3) := by decide +kernel
theorem dX4_pass_8 : decode cX4_pass 8 = .ok (.invokevirtual 41, 3) := by decide +kernel
theorem dX4_pass_11 : decode cX4_pass 11 = .ok (.aload_n 0, 1) := by decide +kernel
theorem dX4_pass_12 : decode cX4_pass 12 = .ok (.aload_n 0, 1) := by decide +kernel
theorem dX4_pass_13 : decode cX4_pass 13 = .ok (.getfield 10, 3) := by decide +kernel
theorem dX4_pass_16 : decode cX4_pass 16 = .ok (.iload_n 1, 1) := by decide +kernel
theorem dX4_pass_17 : decode cX4_pass 17 = .ok (.invokevirtual 59, 3) := by decide +kernel
theorem dX4_pass_20 : decode cX4_pass 20 = .ok (.invokevirtual 49, 3) := by decide +kernel
theorem dX4_pass_23 : decode cX4_pass 23 = .ok (.ireturn, 1) := by decide +kernel
set_option maxRecDepth 20000 in
theorem ggX4_recorded_X2_keepNoted : GoodIn wsX4_recorded wsX2_keepNoted := goodIn_r _ [6, 7, 8, 9, 10, 11, 12, 19, 20, 21] (by decide +kernel) (by decide +kernel)
set_option maxRecDepth 20000 in
theorem gX4_recorded_X2_keepNoted : GoodIn wsX4_recorded (wsV RX4 62 RX2 yX2_keepNoted wsX2_keepNoted) := goodIn_app (goodIn_of _ (by decide +kernel)) ggX4_recorded_X2_keepNoted
theorem dX4_recorded_0 : decode cX4_recorded 0 = .ok (.iload_n 1, 1) := by decide +kernel
theorem dX4_recorded_1 : decode cX4_recorded 1 = .ok (.ifCond .lt 10, 3) := by decide +kernel
theorem dX4_recorded_4 : decode cX4_recorded 4 = .ok (.aload_n 0, 1) := by decide +kernel
theorem dX4_recorded_5 : decode cX4_recorded 5 = .ok (.getfield 22, 3) := by decide +kernel
theorem dX4_recorded_8 : decode cX4_recorded 8 = .ok (.invokevirtual 62, 3) := by decide +kernel
theorem dX4_recorded_11 : decode cX4_recorded 11 = .ok (.iload_n 1, 1) := by decide +kernel
theorem dX4_recorded_12 : decode cX4_recorded 12 = .ok (.ireturn, 1) := by decide +kernel
set_option maxRecDepth 20000 in
theorem ggX4_box_X0_aboutBox : GoodIn wsX4_box wsX0_aboutBox := goodIn_r _ [6, 7, 8, 9, 10, 5, 11, 12, 13, 14, 15, 16, 17, 18, 19, 20, 21, 22, 23, 24, 31, 32, 33, 34, 35, 36, 37, 38, 39, 40, 41, 42, 43, 44, 45, 46, 47] (by decide +kernel) (by decide +kernel)
set_option maxRecDepth 20000 in
theorem gX4_box_X0_aboutBox : GoodIn wsX4_box (wsV RX4 65 RX0 yX0_aboutBox wsX0_aboutBox) := goodIn_app (goodIn_of _ (by decide +kernel)) ggX4_box_X0_aboutBox
theorem dX4_box_0 : decode cX4_box 0 = .ok (.aload_n 0, 1) := by decide +kernel
theorem dX4_box_1 : decode cX4_box 1 = .ok (.getfield 10, 3) := by decide +kernel
theorem dX4_box_4 : decode cX4_box 4 = .ok (.iload_n 1, 1) := by decide +kernel
theorem dX4_box_5 : decode cX4_box 5 = .ok (.iload_n 2, 1) := by decide +kernel
theorem dX4_box_6 : decode cX4_box 6 = .ok (.invokevirtual 65, 3) := by decide +kernel
theorem dX4_box_9 : decode cX4_box 9 = .ok (.ireturn, 1) := by decide +kernel
set_option maxRecDepth 20000 in
theorem ggX4_plan_X0_planAt : GoodIn wsX4_plan wsX0_planAt := goodIn_r _ [6, 7, 8, 15, 16, 17, 18, 19, 20, 21, 22, 23, 24] (by decide +kernel) (by decide +kernel)
set_option maxRecDepth 20000 in
theorem gX4_plan_X0_planAt : GoodIn wsX4_plan (wsV RX4 68 RX0 yX0_planAt wsX0_planAt) := goodIn_app (goodIn_of _ (by decide +kernel)) ggX4_plan_X0_planAt
theorem dX4_plan_0 : decode cX4_plan 0 = .ok (.aload_n 0, 1) := by decide +kernel
theorem dX4_plan_1 : decode cX4_plan 1 = .ok (.getfield 10, 3) := by decide +kernel
theorem dX4_plan_4 : decode cX4_plan 4 = .ok (.iload_n 1, 1) := by decide +kernel
theorem dX4_plan_5 : decode cX4_plan 5 = .ok (.invokevirtual 68, 3) := by decide +kernel
theorem dX4_plan_8 : decode cX4_plan 8 = .ok (.ireturn, 1) := by decide +kernel
set_option maxRecDepth 20000 in
theorem ggX4_report_X0_aboutReport : GoodIn wsX4_report wsX0_aboutReport := goodIn_r _ [6, 7, 8, 9, 10, 17, 18, 19, 20, 21, 22, 23, 24, 25, 26] (by decide +kernel) (by decide +kernel)
set_option maxRecDepth 20000 in
theorem gX4_report_X0_aboutReport : GoodIn wsX4_report (wsV RX4 71 RX0 yX0_aboutReport wsX0_aboutReport) := goodIn_app (goodIn_of _ (by decide +kernel)) ggX4_report_X0_aboutReport
theorem dX4_report_0 : decode cX4_report 0 = .ok (.aload_n 0, 1) := by decide +kernel
theorem dX4_report_1 : decode cX4_report 1 = .ok (.getfield 10, 3) := by decide +kernel
theorem dX4_report_4 : decode cX4_report 4 = .ok (.iload_n 1, 1) := by decide +kernel
theorem dX4_report_5 : decode cX4_report 5 = .ok (.iload_n 2, 1) := by decide +kernel
theorem dX4_report_6 : decode cX4_report 6 = .ok (.invokevirtual 71, 3) := by decide +kernel
theorem dX4_report_9 : decode cX4_report 9 = .ok (.ireturn, 1) := by decide +kernel
set_option maxRecDepth 20000 in
theorem ggX4_count_X0_number : GoodIn wsX4_count wsX0_number := goodIn_r _ [10, 11, 12, 13, 14, 15, 27, 28, 29, 30, 31, 32, 33, 34, 35, 36] (by decide +kernel) (by decide +kernel)
set_option maxRecDepth 20000 in
theorem gX4_count_X0_number : GoodIn wsX4_count (wsV RX4 81 RX0 yX0_number wsX0_number) := goodIn_app (goodIn_of _ (by decide +kernel)) ggX4_count_X0_number
theorem dX4_count_0 : decode cX4_count 0 = .ok (.iload_n 1, 1) := by decide +kernel
theorem dX4_count_1 : decode cX4_count 1 = .ok (.ifCond .lt 9, 3) := by decide +kernel
theorem dX4_count_4 : decode cX4_count 4 = .ok (.iload_n 1, 1) := by decide +kernel
theorem dX4_count_5 : decode cX4_count 5 = .ok (.bipush 23, 2) := by decide +kernel
theorem dX4_count_7 : decode cX4_count 7 = .ok (.if_icmp .le 6, 3) := by decide +kernel
theorem dX4_count_10 : decode cX4_count 10 = .ok (.bipush (-2), 2) := by decide +kernel
theorem dX4_count_12 : decode cX4_count 12 = .ok (.ireturn, 1) := by decide +kernel
theorem dX4_count_13 : decode cX4_count 13 = .ok (.iload_n 1, 1) := by decide +kernel
theorem dX4_count_14 : decode cX4_count 14 = .ok (.bipush 22, 2) := by decide +kernel
theorem dX4_count_16 : decode cX4_count 16 = .ok (.if_icmp .ne 11, 3) := by decide +kernel
theorem dX4_count_19 : decode cX4_count 19 = .ok (.aload_n 0, 1) := by decide +kernel
theorem dX4_count_20 : decode cX4_count 20 = .ok (.getfield 37, 3) := by decide +kernel
theorem dX4_count_23 : decode cX4_count 23 = .ok (.getfield 74, 3) := by decide +kernel
theorem dX4_count_26 : decode cX4_count 26 = .ok (.ireturn, 1) := by decide +kernel
theorem dX4_count_27 : decode cX4_count 27 = .ok (.iload_n 1, 1) := by decide +kernel
theorem dX4_count_28 : decode cX4_count 28 = .ok (.bipush 23, 2) := by decide +kernel
theorem dX4_count_30 : decode cX4_count 30 = .ok (.if_icmp .ne 11, 3) := by decide +kernel
theorem dX4_count_33 : decode cX4_count 33 = .ok (.aload_n 0, 1) := by decide +kernel
theorem dX4_count_34 : decode cX4_count 34 = .ok (.getfield 22, 3) := by decide +kernel
theorem dX4_count_37 : decode cX4_count 37 = .ok (.getfield 78, 3) := by decide +kernel
theorem dX4_count_40 : decode cX4_count 40 = .ok (.ireturn, 1) := by decide +kernel
theorem dX4_count_41 : decode cX4_count 41 = .ok (.aload_n 0, 1) := by decide +kernel
theorem dX4_count_42 : decode cX4_count 42 = .ok (.getfield 10, 3) := by decide +kernel
theorem dX4_count_45 : decode cX4_count 45 = .ok (.iload_n 1, 1) := by decide +kernel
theorem dX4_count_46 : decode cX4_count 46 = .ok (.invokevirtual 81, 3) := by decide +kernel
theorem dX4_count_49 : decode cX4_count 49 = .ok (.ireturn, 1) := by decide +kernel
set_option maxRecDepth 20000 in
theorem ggX4_ifPass_X4_canTry : GoodIn wsX4_ifPass wsX4_canTry := goodIn_r _ [7] (by decide +kernel) (by decide +kernel)
set_option maxRecDepth 20000 in
theorem gX4_ifPass_X4_canTry : GoodIn wsX4_ifPass (va_wsS RX4 84 yX4_canTry wsX4_canTry) := goodIn_app (goodIn_of _ (by decide +kernel)) ggX4_ifPass_X4_canTry
set_option maxRecDepth 20000 in
theorem ggX4_ifPass_X0_copyFrom : GoodIn wsX4_ifPass wsX0_copyFrom := goodIn_r _ [12, 13, 14, 15, 16, 17, 18, 19, 20, 21, 22, 23, 24, 25, 26, 27, 28, 29, 30, 31, 32, 33, 34, 35, 36, 37, 38, 125, 126, 127, 128, 129, 130, 131, 132, 133, 134, 135, 136, 137, 138, 139, 140, 141] (by decide +kernel) (by decide +kernel)
set_option maxRecDepth 20000 in
theorem gX4_ifPass_X0_copyFrom : GoodIn wsX4_ifPass (wsV RX4 92 RX0 yX0_copyFrom wsX0_copyFrom) := goodIn_app (goodIn_of _ (by decide +kernel)) ggX4_ifPass_X0_copyFrom
set_option maxRecDepth 20000 in
theorem ggX4_ifPass_X0_tickOn : GoodIn wsX4_ifPass wsX0_tickOn := goodIn_r _ [42, 18, 43, 44, 45, 11, 46, 13, 19, 20, 47, 26, 48, 49, 50, 51, 52, 53, 54, 55, 56, 21, 22, 23, 57, 58, 59, 60, 24, 25, 61, 62, 63, 64, 65, 66, 67, 68, 69, 70, 71, 72, 73, 74, 75, 76, 77, 78, 79, 80, 81, 82, 83, 30, 84, 32, 33, 85, 86, 87, 88, 89, 90, 91, 92, 93, 94, 95, 96, 97, 98, 99, 100, 101, 102, 103, 104, 105, 106, 107, 108, 109, 110, 111, 112, 113, 114, 125, 126, 127, 128, 129, 130, 131, 132, 133, 134, 135, 136, 137, 138, 139, 140, 141] (by decide +kernel) (by decide +kernel)
set_option maxRecDepth 20000 in
theorem gX4_ifPass_X0_tickOn : GoodIn wsX4_ifPass (wsV RX4 95 RX0 yX0_tickOn wsX0_tickOn) := goodIn_app (goodIn_of _ (by decide +kernel)) ggX4_ifPass_X0_tickOn
set_option maxRecDepth 20000 in
theorem ggX4_ifPass_X0_number : GoodIn wsX4_ifPass wsX0_number := goodIn_r _ [118, 19, 21, 24, 18, 13, 125, 126, 127, 128, 129, 130, 131, 132, 133, 134] (by decide +kernel) (by decide +kernel)
set_option maxRecDepth 20000 in
theorem gX4_ifPass_X0_number : GoodIn wsX4_ifPass (wsV RX4 81 RX0 yX0_number wsX0_number) := goodIn_app (goodIn_of _ (by decide +kernel)) ggX4_ifPass_X0_number
theorem dX4_ifPass_0 : decode cX4_ifPass 0 = .ok (.iload_n 1, 1) := by decide +kernel
theorem dX4_ifPass_1 : decode cX4_ifPass 1 = .ok (.invokestatic 84, 3) := by decide +kernel
theorem dX4_ifPass_4 : decode cX4_ifPass 4 = .ok (.ifCond .eq 15, 3) := by decide +kernel
theorem dX4_ifPass_7 : decode cX4_ifPass 7 = .ok (.iload_n 2, 1) := by decide +kernel
theorem dX4_ifPass_8 : decode cX4_ifPass 8 = .ok (.ifCond .lt 11, 3) := by decide +kernel
theorem dX4_ifPass_11 : decode cX4_ifPass 11 = .ok (.iload_n 2, 1) := by decide +kernel
theorem dX4_ifPass_12 : decode cX4_ifPass 12 = .ok (.getstatic 88, 3) := by decide +kernel
theorem dX4_ifPass_15 : decode cX4_ifPass 15 = .ok (.arraylength, 1) := by decide +kernel
theorem dX4_ifPass_16 : decode cX4_ifPass 16 = .ok (.if_icmp .le 6, 3) := by decide +kernel
theorem dX4_ifPass_19 : decode cX4_ifPass 19 = .ok (.bipush (-2), 2) := by decide +kernel
theorem dX4_ifPass_21 : decode cX4_ifPass 21 = .ok (.ireturn, 1) := by decide +kernel
theorem dX4_ifPass_22 : decode cX4_ifPass 22 = .ok (.aload_n 0, 1) := by decide +kernel
theorem dX4_ifPass_23 : decode cX4_ifPass 23 = .ok (.getfield 16, 3) := by decide +kernel
theorem dX4_ifPass_26 : decode cX4_ifPass 26 = .ok (.aload_n 0, 1) := by decide +kernel
theorem dX4_ifPass_27 : decode cX4_ifPass 27 = .ok (.getfield 10, 3) := by decide +kernel
theorem dX4_ifPass_30 : decode cX4_ifPass 30 = .ok (.invokevirtual 92, 3) := by decide +kernel
theorem dX4_ifPass_33 : decode cX4_ifPass 33 = .ok (.aload_n 0, 1) := by decide +kernel
theorem dX4_ifPass_34 : decode cX4_ifPass 34 = .ok (.getfield 16, 3) := by decide +kernel
theorem dX4_ifPass_37 : decode cX4_ifPass 37 = .ok (.iload_n 1, 1) := by decide +kernel
theorem dX4_ifPass_38 : decode cX4_ifPass 38 = .ok (.invokevirtual 95, 3) := by decide +kernel
theorem dX4_ifPass_41 : decode cX4_ifPass 41 = .ok (.iload_n 2, 1) := by decide +kernel
theorem dX4_ifPass_42 : decode cX4_ifPass 42 = .ok (.getstatic 88, 3) := by decide +kernel
theorem dX4_ifPass_45 : decode cX4_ifPass 45 = .ok (.arraylength, 1) := by decide +kernel
theorem dX4_ifPass_46 : decode cX4_ifPass 46 = .ok (.if_icmp .ne 13, 3) := by decide +kernel
theorem dX4_ifPass_49 : decode cX4_ifPass 49 = .ok (.aload_n 0, 1) := by decide +kernel
theorem dX4_ifPass_50 : decode cX4_ifPass 50 = .ok (.getfield 16, 3) := by decide +kernel
theorem dX4_ifPass_53 : decode cX4_ifPass 53 = .ok (.bipush 10, 2) := by decide +kernel
theorem dX4_ifPass_55 : decode cX4_ifPass 55 = .ok (.invokevirtual 81, 3) := by decide +kernel
theorem dX4_ifPass_58 : decode cX4_ifPass 58 = .ok (.ireturn, 1) := by decide +kernel
theorem dX4_ifPass_59 : decode cX4_ifPass 59 = .ok (.aload_n 0, 1) := by decide +kernel
theorem dX4_ifPass_60 : decode cX4_ifPass 60 = .ok (.getfield 16, 3) := by decide +kernel
theorem dX4_ifPass_63 : decode cX4_ifPass 63 = .ok (.getstatic 88, 3) := by decide +kernel
theorem dX4_ifPass_66 : decode cX4_ifPass 66 = .ok (.iload_n 2, 1) := by decide +kernel
theorem dX4_ifPass_67 : decode cX4_ifPass 67 = .ok (.iaload, 1) := by decide +kernel
theorem dX4_ifPass_68 : decode cX4_ifPass 68 = .ok (.invokevirtual 81, 3) := by decide +kernel
theorem dX4_ifPass_71 : decode cX4_ifPass 71 = .ok (.aload_n 0, 1) := by decide +kernel
theorem dX4_ifPass_72 : decode cX4_ifPass 72 = .ok (.getfield 10, 3) := by decide +kernel
theorem dX4_ifPass_75 : decode cX4_ifPass 75 = .ok (.getstatic 88, 3) := by decide +kernel
theorem dX4_ifPass_78 : decode cX4_ifPass 78 = .ok (.iload_n 2, 1) := by decide +kernel
theorem dX4_ifPass_79 : decode cX4_ifPass 79 = .ok (.iaload, 1) := by decide +kernel
theorem dX4_ifPass_80 : decode cX4_ifPass 80 = .ok (.invokevirtual 81, 3) := by decide +kernel
theorem dX4_ifPass_83 : decode cX4_ifPass 83 = .ok (.isub, 1) := by decide +kernel
theorem dX4_ifPass_84 : decode cX4_ifPass 84 = .ok (.ireturn, 1) := by decide +kernel
set_option maxRecDepth 20000 in
theorem ggX4_bestGuess_X4_canTry : GoodIn wsX4_bestGuess wsX4_canTry := goodIn_r _ [4] (by decide +kernel) (by decide +kernel)
set_option maxRecDepth 20000 in
theorem gX4_bestGuess_X4_canTry : GoodIn wsX4_bestGuess (va_wsS RX4 84 yX4_canTry wsX4_canTry) := goodIn_app (goodIn_of _ (by decide +kernel)) ggX4_bestGuess_X4_canTry
set_option maxRecDepth 20000 in
theorem ggX4_bestGuess_X4_goodWithGuess : GoodIn wsX4_bestGuess wsX4_goodWithGuess := goodIn_r _ [8, 9, 10, 11, 12, 13, 14, 15, 16, 17, 18, 19, 20, 21, 22, 23, 24, 25, 26, 27, 28, 29, 30, 31, 32, 33, 34, 35, 36, 37, 38, 39, 40, 41, 42, 43, 44, 45, 46, 47, 48, 49, 50, 51, 52, 53, 54, 55, 56, 57, 58, 59, 60, 61, 62, 63, 64, 65, 66, 67, 68, 69, 70, 71, 72, 73, 74, 75, 76, 77, 78, 79, 80, 81, 82, 83, 84, 85, 86, 87, 88, 89, 90, 91, 92, 93, 94, 95, 96, 97, 98, 99, 100, 101, 102, 103, 104, 105, 106, 107, 108, 109, 110, 111, 112, 113, 114, 115, 116, 117, 118, 119, 120, 121, 122, 123, 124, 125, 126, 127, 128, 129, 130, 131, 132, 133, 134, 135, 136, 137, 138, 139, 140, 141, 142, 143, 144, 145] (by decide +kernel) (by decide +kernel)
set_option maxRecDepth 20000 in
theorem gX4_bestGuess_X4_goodWithGuess : GoodIn wsX4_bestGuess (wsV RX4 99 RX4 yX4_goodWithGuess wsX4_goodWithGuess) := goodIn_app (goodIn_of _ (by decide +kernel)) ggX4_bestGuess_X4_goodWithGuess
theorem dX4_bestGuess_0 : decode cX4_bestGuess 0 = .ok (.iload_n 1, 1) := by decide +kernel
theorem dX4_bestGuess_1 : decode cX4_bestGuess 1 = .ok (.invokestatic 84, 3) := by decide +kernel
theorem dX4_bestGuess_4 : decode cX4_bestGuess 4 = .ok (.ifCond .eq 12, 3) := by decide +kernel
theorem dX4_bestGuess_7 : decode cX4_bestGuess 7 = .ok (.iload_n 2, 1) := by decide +kernel
theorem dX4_bestGuess_8 : decode cX4_bestGuess 8 = .ok (.ifCond .lt 8, 3) := by decide +kernel
theorem dX4_bestGuess_11 : decode cX4_bestGuess 11 = .ok (.iload_n 2, 1) := by decide +kernel
theorem dX4_bestGuess_12 : decode cX4_bestGuess 12 = .ok (.iconst 1, 1) := by decide +kernel
theorem dX4_bestGuess_13 : decode cX4_bestGuess 13 = .ok (.if_icmp .le 6, 3) := by decide +kernel
theorem dX4_bestGuess_16 : decode cX4_bestGuess 16 = .ok (.bipush (-2), 2) := by decide +kernel
theorem dX4_bestGuess_18 : decode cX4_bestGuess 18 = .ok (.ireturn, 1) := by decide +kernel
theorem dX4_bestGuess_19 : decode cX4_bestGuess 19 = .ok (.iconst 0, 1) := by decide +kernel
theorem dX4_bestGuess_20 : decode cX4_bestGuess 20 = .ok (.istore_n 3, 1) := by decide +kernel
theorem dX4_bestGuess_21 : decode cX4_bestGuess 21 = .ok (.iconst (-1), 1) := by decide +kernel
theorem dX4_bestGuess_22 : decode cX4_bestGuess 22 = .ok (.istore 4, 2) := by decide +kernel
theorem dX4_bestGuess_24 : decode cX4_bestGuess 24 = .ok (.iconst 0, 1) := by decide +kernel
theorem dX4_bestGuess_25 : decode cX4_bestGuess 25 = .ok (.istore 5, 2) := by decide +kernel
theorem dX4_bestGuess_27 : decode cX4_bestGuess 27 = .ok (.iload 5, 2) := by decide +kernel
theorem dX4_bestGuess_29 : decode cX4_bestGuess 29 = .ok (.iconst 5, 1) := by decide +kernel
theorem dX4_bestGuess_30 : decode cX4_bestGuess 30 = .ok (.if_icmp .gt 32, 3) := by decide +kernel
theorem dX4_bestGuess_33 : decode cX4_bestGuess 33 = .ok (.aload_n 0, 1) := by decide +kernel
theorem dX4_bestGuess_34 : decode cX4_bestGuess 34 = .ok (.iload 5, 2) := by decide +kernel
theorem dX4_bestGuess_36 : decode cX4_bestGuess 36 = .ok (.iload_n 1, 1) := by decide +kernel
theorem dX4_bestGuess_37 : decode cX4_bestGuess 37 = .ok (.invokevirtual 99, 3) := by decide +kernel
theorem dX4_bestGuess_40 : decode cX4_bestGuess 40 = .ok (.istore 6, 2) := by decide +kernel
theorem dX4_bestGuess_42 : decode cX4_bestGuess 42 = .ok (.iload 6, 2) := by decide +kernel
theorem dX4_bestGuess_44 : decode cX4_bestGuess 44 = .ok (.iload 4, 2) := by decide +kernel
theorem dX4_bestGuess_46 : decode cX4_bestGuess 46 = .ok (.if_icmp .le 10, 3) := by decide +kernel
theorem dX4_bestGuess_49 : decode cX4_bestGuess 49 = .ok (.iload 5, 2) := by decide +kernel
theorem dX4_bestGuess_51 : decode cX4_bestGuess 51 = .ok (.istore_n 3, 1) := by decide +kernel
theorem dX4_bestGuess_52 : decode cX4_bestGuess 52 = .ok (.iload 6, 2) := by decide +kernel
theorem dX4_bestGuess_54 : decode cX4_bestGuess 54 = .ok (.istore 4, 2) := by decide +kernel
theorem dX4_bestGuess_56 : decode cX4_bestGuess 56 = .ok (.iinc 5 1, 3) := by decide +kernel
theorem dX4_bestGuess_59 : decode cX4_bestGuess 59 = .ok (.goto (-32), 3) := by decide +kernel
theorem dX4_bestGuess_62 : decode cX4_bestGuess 62 = .ok (.iload_n 2, 1) := by decide +kernel
theorem dX4_bestGuess_63 : decode cX4_bestGuess 63 = .ok (.ifCond .ne 7, 3) := by decide +kernel
theorem dX4_bestGuess_66 : decode cX4_bestGuess 66 = .ok (.iload_n 3, 1) := by decide +kernel
theorem dX4_bestGuess_67 : decode cX4_bestGuess 67 = .ok (.goto 5, 3) := by decide +kernel
theorem dX4_bestGuess_70 : decode cX4_bestGuess 70 = .ok (.iload 4, 2) := by decide +kernel
theorem dX4_bestGuess_72 : decode cX4_bestGuess 72 = .ok (.ireturn, 1) := by decide +kernel
theorem dX4_canTry_0 : decode cX4_canTry 0 = .ok (.iload_n 0, 1) := by decide +kernel
theorem dX4_canTry_1 : decode cX4_canTry 1 = .ok (.iconst 1, 1) := by decide +kernel
theorem dX4_canTry_2 : decode cX4_canTry 2 = .ok (.if_icmp .lt 13, 3) := by decide +kernel
theorem dX4_canTry_5 : decode cX4_canTry 5 = .ok (.iload_n 0, 1) := by decide +kernel
theorem dX4_canTry_6 : decode cX4_canTry 6 = .ok (.bipush 99, 2) := by decide +kernel
theorem dX4_canTry_8 : decode cX4_canTry 8 = .ok (.if_icmp .gt 7, 3) := by decide +kernel
theorem dX4_canTry_11 : decode cX4_canTry 11 = .ok (.iconst 1, 1) := by decide +kernel
theorem dX4_canTry_12 : decode cX4_canTry 12 = .ok (.goto 4, 3) := by decide +kernel
theorem dX4_canTry_15 : decode cX4_canTry 15 = .ok (.iconst 0, 1) := by decide +kernel
theorem dX4_canTry_16 : decode cX4_canTry 16 = .ok (.ireturn, 1) := by decide +kernel
set_option maxRecDepth 20000 in
theorem ggX4_goodWithGuess_X0_copyFrom : GoodIn wsX4_goodWithGuess wsX0_copyFrom := goodIn_r _ [8, 9, 10, 11, 12, 13, 14, 15, 16, 17, 18, 19, 20, 21, 22, 23, 24, 25, 26, 27, 28, 29, 30, 31, 32, 33, 34, 121, 122, 123, 124, 125, 126, 127, 128, 129, 130, 131, 132, 133, 134, 135, 136, 137] (by decide +kernel) (by decide +kernel)
set_option maxRecDepth 20000 in
theorem gX4_goodWithGuess_X0_copyFrom : GoodIn wsX4_goodWithGuess (wsV RX4 92 RX0 yX0_copyFrom wsX0_copyFrom) := goodIn_app (goodIn_of _ (by decide +kernel)) ggX4_goodWithGuess_X0_copyFrom
set_option maxRecDepth 20000 in
theorem ggX4_goodWithGuess_X0_tickOn : GoodIn wsX4_goodWithGuess wsX0_tickOn := goodIn_r _ [38, 14, 39, 40, 41, 7, 42, 9, 15, 16, 43, 22, 44, 45, 46, 47, 48, 49, 50, 51, 52, 17, 18, 19, 53, 54, 55, 56, 20, 21, 57, 58, 59, 60, 61, 62, 63, 64, 65, 66, 67, 68, 69, 70, 71, 72, 73, 74, 75, 76, 77, 78, 79, 26, 80, 28, 29, 81, 82, 83, 84, 85, 86, 87, 88, 89, 90, 91, 92, 93, 94, 95, 96, 97, 98, 99, 100, 101, 102, 103, 104, 105, 106, 107, 108, 109, 110, 121, 122, 123, 124, 125, 126, 127, 128, 129, 130, 131, 132, 133, 134, 135, 136, 137] (by decide +kernel) (by decide +kernel)
set_option maxRecDepth 20000 in
theorem gX4_goodWithGuess_X0_tickOn : GoodIn wsX4_goodWithGuess (wsV RX4 95 RX0 yX0_tickOn wsX0_tickOn) := goodIn_app (goodIn_of _ (by decide +kernel)) ggX4_goodWithGuess_X0_tickOn
set_option maxRecDepth 20000 in
theorem ggX4_goodWithGuess_X0_number : GoodIn wsX4_goodWithGuess wsX0_number := goodIn_r _ [114, 15, 17, 20, 14, 9, 121, 122, 123, 124, 125, 126, 127, 128, 129, 130] (by decide +kernel) (by decide +kernel)
set_option maxRecDepth 20000 in
theorem gX4_goodWithGuess_X0_number : GoodIn wsX4_goodWithGuess (wsV RX4 81 RX0 yX0_number wsX0_number) := goodIn_app (goodIn_of _ (by decide +kernel)) ggX4_goodWithGuess_X0_number
theorem dX4_goodWithGuess_0 : decode cX4_goodWithGuess 0 = .ok (.aload_n 0, 1) := by decide +kernel
theorem dX4_goodWithGuess_1 : decode cX4_goodWithGuess 1 = .ok (.getfield 16, 3) := by decide +kernel
theorem dX4_goodWithGuess_4 : decode cX4_goodWithGuess 4 = .ok (.aload_n 0, 1) := by decide +kernel
theorem dX4_goodWithGuess_5 : decode cX4_goodWithGuess 5 = .ok (.getfield 10, 3) := by decide +kernel
theorem dX4_goodWithGuess_8 : decode cX4_goodWithGuess 8 = .ok (.invokevirtual 92, 3) := by decide +kernel
theorem dX4_goodWithGuess_11 : decode cX4_goodWithGuess 11 = .ok (.aload_n 0, 1) := by decide +kernel
theorem dX4_goodWithGuess_12 : decode cX4_goodWithGuess 12 = .ok (.getfield 16, 3) := by decide +kernel
theorem dX4_goodWithGuess_15 : decode cX4_goodWithGuess 15 = .ok (.getfield 106, 3) := by decide +kernel
theorem dX4_goodWithGuess_18 : decode cX4_goodWithGuess 18 = .ok (.iconst 2, 1) := by decide +kernel
theorem dX4_goodWithGuess_19 : decode cX4_goodWithGuess 19 = .ok (.iload_n 1, 1) := by decide +kernel
theorem dX4_goodWithGuess_20 : decode cX4_goodWithGuess 20 = .ok (.iastore, 1) := by decide +kernel
theorem dX4_goodWithGuess_21 : decode cX4_goodWithGuess 21 = .ok (.aload_n 0, 1) := by decide +kernel
theorem dX4_goodWithGuess_22 : decode cX4_goodWithGuess 22 = .ok (.getfield 16, 3) := by decide +kernel
theorem dX4_goodWithGuess_25 : decode cX4_goodWithGuess 25 = .ok (.iload_n 2, 1) := by decide +kernel
theorem dX4_goodWithGuess_26 : decode cX4_goodWithGuess 26 = .ok (.invokevirtual 95, 3) := by decide +kernel
theorem dX4_goodWithGuess_29 : decode cX4_goodWithGuess 29 = .ok (.aload_n 0, 1) := by decide +kernel
theorem dX4_goodWithGuess_30 : decode cX4_goodWithGuess 30 = .ok (.getfield 16, 3) := by decide +kernel
theorem dX4_goodWithGuess_33 : decode cX4_goodWithGuess 33 = .ok (.iconst 3, 1) := by decide +kernel
theorem dX4_goodWithGuess_34 : decode cX4_goodWithGuess 34 = .ok (.invokevirtual 81, 3) := by decide +kernel
theorem dX4_goodWithGuess_37 : decode cX4_goodWithGuess 37 = .ok (.aload_n 0, 1) := by decide +kernel
theorem dX4_goodWithGuess_38 : decode cX4_goodWithGuess 38 = .ok (.getfield 10, 3) := by decide +kernel
theorem dX4_goodWithGuess_41 : decode cX4_goodWithGuess 41 = .ok (.iconst 3, 1) := by decide +kernel
theorem dX4_goodWithGuess_42 : decode cX4_goodWithGuess 42 = .ok (.invokevirtual 81, 3) := by decide +kernel
theorem dX4_goodWithGuess_45 : decode cX4_goodWithGuess 45 = .ok (.isub, 1) := by decide +kernel
theorem dX4_goodWithGuess_46 : decode cX4_goodWithGuess 46 = .ok (.ireturn, 1) := by decide +kernel
set_option maxRecDepth 20000 in
theorem ggX4_undo_X2_takeBack : GoodIn wsX4_undo wsX2_takeBack := goodIn_r _ [8, 9, 10, 11, 12, 7, 13, 14, 15, 16, 17, 18, 19, 20, 21, 22, 23, 24, 25, 26, 27, 28, 29, 30, 31, 32, 33, 34, 35, 36, 37, 38, 39, 40, 41, 42, 43, 44, 45, 46, 47, 48, 49, 50, 57, 58, 59, 60, 61, 62, 63, 64, 65, 66, 67, 68, 69, 70, 71, 72, 73, 74, 75, 76] (by decide +kernel) (by decide +kernel)
set_option maxRecDepth 20000 in
theorem gX4_undo_X2_takeBack : GoodIn wsX4_undo (wsV RX4 136 RX2 yX2_takeBack wsX2_takeBack) := goodIn_app (goodIn_of _ (by decide +kernel)) ggX4_undo_X2_takeBack
theorem dX4_undo_0 : decode cX4_undo 0 = .ok (.aload_n 0, 1) := by decide +kernel
theorem dX4_undo_1 : decode cX4_undo 1 = .ok (.getfield 22, 3) := by decide +kernel
theorem dX4_undo_4 : decode cX4_undo 4 = .ok (.getfield 78, 3) := by decide +kernel
theorem dX4_undo_7 : decode cX4_undo 7 = .ok (.ifCond .ne 6, 3) := by decide +kernel
theorem dX4_undo_10 : decode cX4_undo 10 = .ok (.bipush (-5), 2) := by decide +kernel
theorem dX4_undo_12 : decode cX4_undo 12 = .ok (.ireturn, 1) := by decide +kernel
theorem dX4_undo_13 : decode cX4_undo 13 = .ok (.aload_n 0, 1) := by decide +kernel
theorem dX4_undo_14 : decode cX4_undo 14 = .ok (.getfield 22, 3) := by decide +kernel
theorem dX4_undo_17 : decode cX4_undo 17 = .ok (.aload_n 0, 1) := by decide +kernel
theorem dX4_undo_18 : decode cX4_undo 18 = .ok (.getfield 10, 3) := by decide +kernel
theorem dX4_undo_21 : decode cX4_undo 21 = .ok (.invokevirtual 136, 3) := by decide +kernel
theorem dX4_undo_24 : decode cX4_undo 24 = .ok (.aload_n 0, 1) := by decide +kernel
theorem dX4_undo_25 : decode cX4_undo 25 = .ok (.getfield 22, 3) := by decide +kernel
theorem dX4_undo_28 : decode cX4_undo 28 = .ok (.getfield 78, 3) := by decide +kernel
theorem dX4_undo_31 : decode cX4_undo 31 = .ok (.ireturn, 1) := by decide +kernel
end
section
theorem dL_cell_0 : decode cL_cell 0 = .ok (.iload_n 1, 1) := by decide +kernel
theorem dL_cell_1 : decode cL_cell 1 = .ok (.aload_n 0, 1) := by decide +kernel
theorem dL_cell_2 : decode cL_cell 2 = .ok (.arraylength, 1) := by decide +kernel
theorem dL_cell_3 : decode cL_cell 3 = .ok (.if_icmp .ge 9, 3) := by decide +kernel
theorem dL_cell_6 : decode cL_cell 6 = .ok (.aload_n 0, 1) := by decide +kernel
theorem dL_cell_7 : decode cL_cell 7 = .ok (.iload_n 1, 1) := by decide +kernel
theorem dL_cell_8 : decode cL_cell 8 = .ok (.iaload, 1) := by decide +kernel
theorem dL_cell_9 : decode cL_cell 9 = .ok (.goto 11, 3) := by decide +kernel
theorem dL_cell_12 : decode cL_cell 12 = .ok (.ldc 7, 2) := by decide +kernel
theorem dL_cell_14 : decode cL_cell 14 = .ok (.iload_n 1, 1) := by decide +kernel
theorem dL_cell_15 : decode cL_cell 15 = .ok (.sipush 971, 3) := by decide +kernel
theorem dL_cell_18 : decode cL_cell 18 = .ok (.iadd, 1) := by decide +kernel
theorem dL_cell_19 : decode cL_cell 19 = .ok (.imul, 1) := by decide +kernel
theorem dL_cell_20 : decode cL_cell 20 = .ok (.ireturn, 1) := by decide +kernel
theorem dL_up_0 : decode cL_up 0 = .ok (.iload_n 0, 1) := by decide +kernel
theorem dL_up_1 : decode cL_up 1 = .ok (.ldc 8, 2) := by decide +kernel
theorem dL_up_3 : decode cL_up 3 = .ok (.iand, 1) := by decide +kernel
theorem dL_up_4 : decode cL_up 4 = .ok (.iload_n 1, 1) := by decide +kernel
theorem dL_up_5 : decode cL_up 5 = .ok (.irem, 1) := by decide +kernel
theorem dL_up_6 : decode cL_up 6 = .ok (.ireturn, 1) := by decide +kernel
set_option maxRecDepth 20000 in
theorem ggL_isStep_L_up : GoodIn wsL_isStep wsL_up := goodIn_r _ [4, 5] (by decide +kernel) (by decide +kernel)
set_option maxRecDepth 20000 in
theorem gL_isStep_L_up : GoodIn wsL_isStep (va_wsS RL 9 yL_up wsL_up) := goodIn_app (goodIn_of _ (by decide +kernel)) ggL_isStep_L_up
set_option maxRecDepth 20000 in
theorem ggL_isStep_X4_arrive : GoodIn wsL_isStep wsX4_arrive := goodIn_r _ [10, 11, 12, 13, 14, 15, 16, 17, 18, 19, 20, 21, 22, 23, 24, 25, 26, 27, 28, 29, 30, 31, 32, 33, 34, 35, 36, 37, 38, 39, 40, 41, 42, 43, 44, 45, 46, 47, 48, 49, 50, 51, 52, 53, 54, 55, 56, 57, 58, 59, 60, 61, 62, 63, 64, 65, 66, 67, 68, 69, 70, 71, 72, 73, 74, 75, 76, 77, 9, 78, 79, 80, 81, 82, 197, 198, 199, 200, 201, 202, 203, 204, 205, 206, 207, 208, 209, 210, 211, 212, 213, 214, 215, 216, 217, 218, 219, 220, 221, 222] (by decide +kernel) (by decide +kernel)
set_option maxRecDepth 20000 in
theorem gL_isStep_X4_arrive : GoodIn wsL_isStep (wsV RL 15 RX4 yX4_arrive wsX4_arrive) := goodIn_app (goodIn_of _ (by decide +kernel)) ggL_isStep_X4_arrive
set_option maxRecDepth 20000 in
theorem ggL_isStep_X4_pass : GoodIn wsL_isStep wsX4_pass := goodIn_r _ [86, 11, 12, 13, 14, 15, 16, 17, 18, 19, 20, 21, 22, 23, 24, 25, 26, 27, 28, 29, 30, 31, 32, 33, 34, 35, 36, 37, 38, 39, 40, 41, 42, 43, 44, 45, 46, 47, 48, 49, 50, 51, 52, 53, 54, 55, 56, 57, 58, 59, 87, 88, 89, 90, 91, 92, 93, 94, 95, 96, 97, 98, 99, 100, 101, 102, 103, 104, 105, 106, 107, 108, 109, 110, 111, 112, 113, 114, 115, 116, 117, 118, 119, 120, 121, 122, 123, 124, 125, 126, 127, 128, 129, 130, 131, 132, 133, 134, 135, 136, 137, 138, 139, 140, 141, 142, 143, 144, 145, 146, 147, 148, 149, 150, 151, 152, 153, 154, 155, 156, 157, 158, 159, 67, 68, 69, 70, 160, 161, 162, 163, 164, 165, 166, 75, 76, 77, 9, 78, 79, 80, 81, 82, 197, 198, 199, 200, 201, 202, 203, 204, 205, 206, 207, 208, 209, 210, 211, 212, 213, 214, 215, 216, 217, 218, 219, 220, 221, 222] (by decide +kernel) (by decide +kernel)
set_option maxRecDepth 20000 in
theorem gL_isStep_X4_pass : GoodIn wsL_isStep (wsV RL 21 RX4 yX4_pass wsX4_pass) := goodIn_app (goodIn_of _ (by decide +kernel)) ggL_isStep_X4_pass
set_option maxRecDepth 20000 in
theorem ggL_isStep_X4_turn : GoodIn wsL_isStep wsX4_turn := goodIn_r _ [170, 11, 12, 13, 14, 15, 16, 17, 18, 19, 20, 21, 22, 23, 24, 25, 26, 27, 28, 29, 30, 31, 32, 33, 34, 35, 36, 37, 38, 39, 40, 41, 42, 43, 44, 45, 46, 47, 48, 49, 50, 51, 52, 53, 54, 55, 56, 57, 58, 59, 171, 172, 173, 174, 103, 175, 176, 177, 178, 179, 64, 65, 66, 180, 181, 182, 183, 184, 185, 186, 67, 68, 69, 70, 75, 76, 77, 9, 78, 79, 80, 81, 82, 197, 198, 199, 200, 201, 202, 203, 204, 205, 206, 207, 208, 209, 210, 211, 212, 213, 214, 215, 216, 217, 218, 219, 220, 221, 222] (by decide +kernel) (by decide +kernel)
set_option maxRecDepth 20000 in
theorem gL_isStep_X4_turn : GoodIn wsL_isStep (wsV RL 24 RX4 yX4_turn wsX4_turn) := goodIn_app (goodIn_of _ (by decide +kernel)) ggL_isStep_X4_turn
set_option maxRecDepth 20000 in
theorem ggL_isStep_X4_set : GoodIn wsL_isStep wsX4_set := goodIn_r _ [190, 11, 12, 13, 14, 15, 16, 17, 18, 19, 20, 21, 22, 23, 24, 25, 26, 27, 28, 29, 30, 31, 32, 33, 34, 35, 36, 37, 38, 39, 40, 41, 42, 43, 44, 45, 46, 47, 48, 49, 50, 51, 52, 53, 54, 55, 56, 57, 58, 59, 191, 192, 193, 194, 195, 196, 75, 76, 77, 9, 78, 79, 80, 81, 82, 197, 198, 199, 200, 201, 202, 203, 204, 205, 206, 207, 208, 209, 210, 211, 212, 213, 214, 215, 216, 217, 218, 219, 220, 221, 222] (by decide +kernel) (by decide +kernel)
set_option maxRecDepth 20000 in
theorem gL_isStep_X4_set : GoodIn wsL_isStep (wsV RL 27 RX4 yX4_set wsX4_set) := goodIn_app (goodIn_of _ (by decide +kernel)) ggL_isStep_X4_set
theorem dL_isStep_0 : decode cL_isStep 0 = .ok (.iload_n 2, 1) := by decide +kernel
theorem dL_isStep_1 : decode cL_isStep 1 = .ok (.iconst 4, 1) := by decide +kernel
theorem dL_isStep_2 : decode cL_isStep 2 = .ok (.ishr, 1) := by decide +kernel
theorem dL_isStep_3 : decode cL_isStep 3 = .ok (.istore_n 3, 1) := by decide +kernel
theorem dL_isStep_4 : decode cL_isStep 4 = .ok (.iload_n 2, 1) := by decide +kernel
theorem dL_isStep_5 : decode cL_isStep 5 = .ok (.bipush 14, 2) := by decide +kernel
theorem dL_isStep_7 : decode cL_isStep 7 = .ok (.invokestatic 9, 3) := by decide +kernel
theorem dL_isStep_10 : decode cL_isStep 10 = .ok (.istore 4, 2) := by decide +kernel
theorem dL_isStep_12 : decode cL_isStep 12 = .ok (.iload 4, 2) := by decide +kernel
theorem dL_isStep_14 : decode cL_isStep 14 = .ok (.iconst 5, 1) := by decide +kernel
theorem dL_isStep_15 : decode cL_isStep 15 = .ok (.if_icmp .ge 34, 3) := by decide +kernel
theorem dL_isStep_18 : decode cL_isStep 18 = .ok (.iconst 4, 1) := by decide +kernel
theorem dL_isStep_19 : decode cL_isStep 19 = .ok (.iload_n 3, 1) := by decide +kernel
theorem dL_isStep_20 : decode cL_isStep 20 = .ok (.bipush 14, 2) := by decide +kernel
theorem dL_isStep_22 : decode cL_isStep 22 = .ok (.invokestatic 9, 3) := by decide +kernel
theorem dL_isStep_25 : decode cL_isStep 25 = .ok (.iadd, 1) := by decide +kernel
theorem dL_isStep_26 : decode cL_isStep 26 = .ok (.istore 5, 2) := by decide +kernel
theorem dL_isStep_28 : decode cL_isStep 28 = .ok (.aload_n 0, 1) := by decide +kernel
theorem dL_isStep_29 : decode cL_isStep 29 = .ok (.iload 5, 2) := by decide +kernel
theorem dL_isStep_31 : decode cL_isStep 31 = .ok (.invokevirtual 15, 3) := by decide +kernel
theorem dL_isStep_34 : decode cL_isStep 34 = .ok (.aload_n 1, 1) := by decide +kernel
theorem dL_isStep_35 : decode cL_isStep 35 = .ok (.iload 5, 2) := by decide +kernel
theorem dL_isStep_37 : decode cL_isStep 37 = .ok (.invokevirtual 15, 3) := by decide +kernel
theorem dL_isStep_40 : decode cL_isStep 40 = .ok (.if_icmp .ne 7, 3) := by decide +kernel
theorem dL_isStep_43 : decode cL_isStep 43 = .ok (.iconst 1, 1) := by decide +kernel
theorem dL_isStep_44 : decode cL_isStep 44 = .ok (.goto 4, 3) := by decide +kernel
theorem dL_isStep_47 : decode cL_isStep 47 = .ok (.iconst 0, 1) := by decide +kernel
theorem dL_isStep_48 : decode cL_isStep 48 = .ok (.ireturn, 1) := by decide +kernel
theorem dL_isStep_49 : decode cL_isStep 49 = .ok (.iload 4, 2) := by decide +kernel
theorem dL_isStep_51 : decode cL_isStep 51 = .ok (.bipush 11, 2) := by decide +kernel
theorem dL_isStep_53 : decode cL_isStep 53 = .ok (.if_icmp .ge 59, 3) := by decide +kernel
theorem dL_isStep_56 : decode cL_isStep 56 = .ok (.iconst 1, 1) := by decide +kernel
theorem dL_isStep_57 : decode cL_isStep 57 = .ok (.iload_n 3, 1) := by decide +kernel
theorem dL_isStep_58 : decode cL_isStep 58 = .ok (.bipush 9, 2) := by decide +kernel
theorem dL_isStep_60 : decode cL_isStep 60 = .ok (.invokestatic 9, 3) := by decide +kernel
theorem dL_isStep_63 : decode cL_isStep 63 = .ok (.iadd, 1) := by decide +kernel
theorem dL_isStep_64 : decode cL_isStep 64 = .ok (.istore 5, 2) := by decide +kernel
theorem dL_isStep_66 : decode cL_isStep 66 = .ok (.iconst 0, 1) := by decide +kernel
theorem dL_isStep_67 : decode cL_isStep 67 = .ok (.istore 6, 2) := by decide +kernel
theorem dL_isStep_69 : decode cL_isStep 69 = .ok (.iconst 0, 1) := by decide +kernel
theorem dL_isStep_70 : decode cL_isStep 70 = .ok (.istore 7, 2) := by decide +kernel
theorem dL_isStep_72 : decode cL_isStep 72 = .ok (.iload 7, 2) := by decide +kernel
theorem dL_isStep_74 : decode cL_isStep 74 = .ok (.iload 5, 2) := by decide +kernel
theorem dL_isStep_76 : decode cL_isStep 76 = .ok (.if_icmp .ge 19, 3) := by decide +kernel
theorem dL_isStep_79 : decode cL_isStep 79 = .ok (.iload 6, 2) := by decide +kernel
theorem dL_isStep_81 : decode cL_isStep 81 = .ok (.aload_n 1, 1) := by decide +kernel
theorem dL_isStep_82 : decode cL_isStep 82 = .ok (.iconst 1, 1) := by decide +kernel
theorem dL_isStep_83 : decode cL_isStep 83 = .ok (.invokevirtual 21, 3) := by decide +kernel
theorem dL_isStep_86 : decode cL_isStep 86 = .ok (.iadd, 1) := by decide +kernel
theorem dL_isStep_87 : decode cL_isStep 87 = .ok (.istore 6, 2) := by decide +kernel
theorem dL_isStep_89 : decode cL_isStep 89 = .ok (.iinc 7 1, 3) := by decide +kernel
theorem dL_isStep_92 : decode cL_isStep 92 = .ok (.goto (-20), 3) := by decide +kernel
theorem dL_isStep_95 : decode cL_isStep 95 = .ok (.aload_n 0, 1) := by decide +kernel
theorem dL_isStep_96 : decode cL_isStep 96 = .ok (.iload 5, 2) := by decide +kernel
theorem dL_isStep_98 : decode cL_isStep 98 = .ok (.invokevirtual 21, 3) := by decide +kernel
theorem dL_isStep_101 : decode cL_isStep 101 = .ok (.iload 6, 2) := by decide +kernel
theorem dL_isStep_103 : decode cL_isStep 103 = .ok (.if_icmp .ne 7, 3) := by decide +kernel
theorem dL_isStep_106 : decode cL_isStep 106 = .ok (.iconst 1, 1) := by decide +kernel
theorem dL_isStep_107 : decode cL_isStep 107 = .ok (.goto 4, 3) := by decide +kernel
theorem dL_isStep_110 : decode cL_isStep 110 = .ok (.iconst 0, 1) := by decide +kernel
theorem dL_isStep_111 : decode cL_isStep 111 = .ok (.ireturn, 1) := by decide +kernel
theorem dL_isStep_112 : decode cL_isStep 112 = .ok (.iload 4, 2) := by decide +kernel
theorem dL_isStep_114 : decode cL_isStep 114 = .ok (.bipush 11, 2) := by decide +kernel
theorem dL_isStep_116 : decode cL_isStep 116 = .ok (.if_icmp .ne 50, 3) := by decide +kernel
theorem dL_isStep_119 : decode cL_isStep 119 = .ok (.aload_n 0, 1) := by decide +kernel
theorem dL_isStep_120 : decode cL_isStep 120 = .ok (.iload_n 3, 1) := by decide +kernel
theorem dL_isStep_121 : decode cL_isStep 121 = .ok (.iconst 4, 1) := by decide +kernel
theorem dL_isStep_122 : decode cL_isStep 122 = .ok (.invokestatic 9, 3) := by decide +kernel
theorem dL_isStep_125 : decode cL_isStep 125 = .ok (.iconst 4, 1) := by decide +kernel
theorem dL_isStep_126 : decode cL_isStep 126 = .ok (.iload_n 3, 1) := by decide +kernel
theorem dL_isStep_127 : decode cL_isStep 127 = .ok (.iconst 2, 1) := by decide +kernel
theorem dL_isStep_128 : decode cL_isStep 128 = .ok (.ishr, 1) := by decide +kernel
theorem dL_isStep_129 : decode cL_isStep 129 = .ok (.bipush 27, 2) := by decide +kernel
theorem dL_isStep_131 : decode cL_isStep 131 = .ok (.invokestatic 9, 3) := by decide +kernel
theorem dL_isStep_134 : decode cL_isStep 134 = .ok (.iadd, 1) := by decide +kernel
theorem dL_isStep_135 : decode cL_isStep 135 = .ok (.invokevirtual 24, 3) := by decide +kernel
theorem dL_isStep_138 : decode cL_isStep 138 = .ok (.aload_n 1, 1) := by decide +kernel
theorem dL_isStep_139 : decode cL_isStep 139 = .ok (.iload_n 3, 1) := by decide +kernel
theorem dL_isStep_140 : decode cL_isStep 140 = .ok (.iconst 4, 1) := by decide +kernel
theorem dL_isStep_141 : decode cL_isStep 141 = .ok (.invokestatic 9, 3) := by decide +kernel
theorem dL_isStep_144 : decode cL_isStep 144 = .ok (.iconst 4, 1) := by decide +kernel
theorem dL_isStep_145 : decode cL_isStep 145 = .ok (.iload_n 3, 1) := by decide +kernel
theorem dL_isStep_146 : decode cL_isStep 146 = .ok (.iconst 2, 1) := by decide +kernel
theorem dL_isStep_147 : decode cL_isStep 147 = .ok (.ishr, 1) := by decide +kernel
theorem dL_isStep_148 : decode cL_isStep 148 = .ok (.bipush 27, 2) := by decide +kernel
theorem dL_isStep_150 : decode cL_isStep 150 = .ok (.invokestatic 9, 3) := by decide +kernel
theorem dL_isStep_153 : decode cL_isStep 153 = .ok (.iadd, 1) := by decide +kernel
theorem dL_isStep_154 : decode cL_isStep 154 = .ok (.invokevirtual 24, 3) := by decide +kernel
theorem dL_isStep_157 : decode cL_isStep 157 = .ok (.if_icmp .ne 7, 3) := by decide +kernel
theorem dL_isStep_160 : decode cL_isStep 160 = .ok (.iconst 1, 1) := by decide +kernel
theorem dL_isStep_161 : decode cL_isStep 161 = .ok (.goto 4, 3) := by decide +kernel
theorem dL_isStep_164 : decode cL_isStep 164 = .ok (.iconst 0, 1) := by decide +kernel
theorem dL_isStep_165 : decode cL_isStep 165 = .ok (.ireturn, 1) := by decide +kernel
theorem dL_isStep_166 : decode cL_isStep 166 = .ok (.iload_n 3, 1) := by decide +kernel
theorem dL_isStep_167 : decode cL_isStep 167 = .ok (.bipush 8, 2) := by decide +kernel
theorem dL_isStep_169 : decode cL_isStep 169 = .ok (.invokestatic 9, 3) := by decide +kernel
theorem dL_isStep_172 : decode cL_isStep 172 = .ok (.istore 5, 2) := by decide +kernel
theorem dL_isStep_174 : decode cL_isStep 174 = .ok (.iload 5, 2) := by decide +kernel
theorem dL_isStep_176 : decode cL_isStep 176 = .ok (.iconst 3, 1) := by decide +kernel
theorem dL_isStep_177 : decode cL_isStep 177 = .ok (.if_icmp .ne 14, 3) := by decide +kernel
theorem dL_isStep_180 : decode cL_isStep 180 = .ok (.iload_n 3, 1) := by decide +kernel
theorem dL_isStep_181 : decode cL_isStep 181 = .ok (.iconst 3, 1) := by decide +kernel
theorem dL_isStep_182 : decode cL_isStep 182 = .ok (.ishr, 1) := by decide +kernel
theorem dL_isStep_183 : decode cL_isStep 183 = .ok (.bipush 21, 2) := by decide +kernel
theorem dL_isStep_185 : decode cL_isStep 185 = .ok (.invokestatic 9, 3) := by decide +kernel
theorem dL_isStep_188 : decode cL_isStep 188 = .ok (.goto 67, 3) := by decide +kernel
theorem dL_isStep_191 : decode cL_isStep 191 = .ok (.iload 5, 2) := by decide +kernel
theorem dL_isStep_193 : decode cL_isStep 193 = .ok (.iconst 4, 1) := by decide +kernel
theorem dL_isStep_194 : decode cL_isStep 194 = .ok (.if_icmp .ne 16, 3) := by decide +kernel
theorem dL_isStep_197 : decode cL_isStep 197 = .ok (.iconst 1, 1) := by decide +kernel
theorem dL_isStep_198 : decode cL_isStep 198 = .ok (.iload_n 3, 1) := by decide +kernel
theorem dL_isStep_199 : decode cL_isStep 199 = .ok (.iconst 3, 1) := by decide +kernel
theorem dL_isStep_200 : decode cL_isStep 200 = .ok (.ishr, 1) := by decide +kernel
theorem dL_isStep_201 : decode cL_isStep 201 = .ok (.bipush 12, 2) := by decide +kernel
theorem dL_isStep_203 : decode cL_isStep 203 = .ok (.invokestatic 9, 3) := by decide +kernel
theorem dL_isStep_206 : decode cL_isStep 206 = .ok (.iadd, 1) := by decide +kernel
theorem dL_isStep_207 : decode cL_isStep 207 = .ok (.goto 48, 3) := by decide +kernel
theorem dL_isStep_210 : decode cL_isStep 210 = .ok (.iload 5, 2) := by decide +kernel
theorem dL_isStep_212 : decode cL_isStep 212 = .ok (.iconst 5, 1) := by decide +kernel
theorem dL_isStep_213 : decode cL_isStep 213 = .ok (.if_icmp .ne 17, 3) := by decide +kernel
theorem dL_isStep_216 : decode cL_isStep 216 = .ok (.bipush 20, 2) := by decide +kernel
theorem dL_isStep_218 : decode cL_isStep 218 = .ok (.iload_n 3, 1) := by decide +kernel
theorem dL_isStep_219 : decode cL_isStep 219 = .ok (.iconst 3, 1) := by decide +kernel
theorem dL_isStep_220 : decode cL_isStep 220 = .ok (.ishr, 1) := by decide +kernel
theorem dL_isStep_221 : decode cL_isStep 221 = .ok (.bipush 41, 2) := by decide +kernel
theorem dL_isStep_223 : decode cL_isStep 223 = .ok (.invokestatic 9, 3) := by decide +kernel
theorem dL_isStep_226 : decode cL_isStep 226 = .ok (.iadd, 1) := by decide +kernel
theorem dL_isStep_227 : decode cL_isStep 227 = .ok (.goto 28, 3) := by decide +kernel
theorem dL_isStep_230 : decode cL_isStep 230 = .ok (.iload_n 3, 1) := by decide +kernel
theorem dL_isStep_231 : decode cL_isStep 231 = .ok (.iconst 3, 1) := by decide +kernel
theorem dL_isStep_232 : decode cL_isStep 232 = .ok (.ishr, 1) := by decide +kernel
theorem dL_isStep_233 : decode cL_isStep 233 = .ok (.iload 5, 2) := by decide +kernel
theorem dL_isStep_235 : decode cL_isStep 235 = .ok (.iconst 1, 1) := by decide +kernel
theorem dL_isStep_236 : decode cL_isStep 236 = .ok (.if_icmp .eq 9, 3) := by decide +kernel
theorem dL_isStep_239 : decode cL_isStep 239 = .ok (.iload 5, 2) := by decide +kernel
theorem dL_isStep_241 : decode cL_isStep 241 = .ok (.iconst 2, 1) := by decide +kernel
theorem dL_isStep_242 : decode cL_isStep 242 = .ok (.if_icmp .ne 8, 3) := by decide +kernel
theorem dL_isStep_245 : decode cL_isStep 245 = .ok (.bipush 6, 2) := by decide +kernel
theorem dL_isStep_247 : decode cL_isStep 247 = .ok (.goto 5, 3) := by decide +kernel
theorem dL_isStep_250 : decode cL_isStep 250 = .ok (.bipush 10, 2) := by decide +kernel
theorem dL_isStep_252 : decode cL_isStep 252 = .ok (.invokestatic 9, 3) := by decide +kernel
theorem dL_isStep_255 : decode cL_isStep 255 = .ok (.istore 6, 2) := by decide +kernel
theorem dL_isStep_257 : decode cL_isStep 257 = .ok (.aload_n 0, 1) := by decide +kernel
theorem dL_isStep_258 : decode cL_isStep 258 = .ok (.iload 5, 2) := by decide +kernel
theorem dL_isStep_260 : decode cL_isStep 260 = .ok (.iload 6, 2) := by decide +kernel
theorem dL_isStep_262 : decode cL_isStep 262 = .ok (.invokevirtual 27, 3) := by decide +kernel
theorem dL_isStep_265 : decode cL_isStep 265 = .ok (.aload_n 1, 1) := by decide +kernel
theorem dL_isStep_266 : decode cL_isStep 266 = .ok (.iload 5, 2) := by decide +kernel
theorem dL_isStep_268 : decode cL_isStep 268 = .ok (.iload 6, 2) := by decide +kernel
theorem dL_isStep_270 : decode cL_isStep 270 = .ok (.invokevirtual 27, 3) := by decide +kernel
theorem dL_isStep_273 : decode cL_isStep 273 = .ok (.if_icmp .ne 7, 3) := by decide +kernel
theorem dL_isStep_276 : decode cL_isStep 276 = .ok (.iconst 1, 1) := by decide +kernel
theorem dL_isStep_277 : decode cL_isStep 277 = .ok (.goto 4, 3) := by decide +kernel
theorem dL_isStep_280 : decode cL_isStep 280 = .ok (.iconst 0, 1) := by decide +kernel
theorem dL_isStep_281 : decode cL_isStep 281 = .ok (.ireturn, 1) := by decide +kernel
set_option maxRecDepth 20000 in
theorem ggL_isWell_X4_count : GoodIn wsL_isWell wsX4_count := goodIn_r _ [5, 6, 7, 8, 9, 10, 11, 12, 13, 14, 15, 16, 17, 18, 19, 20, 65, 66, 67, 68, 69, 70, 71, 72, 73, 74, 75, 76, 77, 78, 79, 80, 81, 82, 83, 84, 85] (by decide +kernel) (by decide +kernel)
set_option maxRecDepth 20000 in
theorem gL_isWell_X4_count : GoodIn wsL_isWell (wsV RL 30 RX4 yX4_count wsX4_count) := goodIn_app (goodIn_of _ (by decide +kernel)) ggL_isWell_X4_count
set_option maxRecDepth 20000 in
theorem ggL_isWell_X4_box : GoodIn wsL_isWell wsX4_box := goodIn_r _ [24, 10, 25, 26, 27, 14, 28, 29, 30, 31, 32, 33, 16, 34, 35, 36, 37, 38, 39, 40, 41, 42, 43, 44, 45, 65, 66, 67, 68, 69, 70, 76, 77, 78, 79, 80, 81, 82, 83, 84, 85, 86, 87, 88, 89, 90, 91, 92] (by decide +kernel) (by decide +kernel)
set_option maxRecDepth 20000 in
theorem gL_isWell_X4_box : GoodIn wsL_isWell (wsV RL 33 RX4 yX4_box wsX4_box) := goodIn_app (goodIn_of _ (by decide +kernel)) ggL_isWell_X4_box
set_option maxRecDepth 20000 in
theorem ggL_isWell_X4_plan : GoodIn wsL_isWell wsX4_plan := goodIn_r _ [49, 10, 50, 51, 52, 14, 53, 18, 54, 65, 66, 67, 68, 69, 70, 76, 77, 78, 79, 80, 81, 82, 83, 84, 85] (by decide +kernel) (by decide +kernel)
set_option maxRecDepth 20000 in
theorem gL_isWell_X4_plan : GoodIn wsL_isWell (wsV RL 36 RX4 yX4_plan wsX4_plan) := goodIn_app (goodIn_of _ (by decide +kernel)) ggL_isWell_X4_plan
set_option maxRecDepth 20000 in
theorem ggL_isWell_X4_report : GoodIn wsL_isWell wsX4_report := goodIn_r _ [58, 10, 59, 60, 61, 14, 62, 17, 63, 19, 64, 65, 66, 67, 68, 69, 70, 76, 77, 78, 79, 80, 81, 82, 83, 84, 85] (by decide +kernel) (by decide +kernel)
set_option maxRecDepth 20000 in
theorem gL_isWell_X4_report : GoodIn wsL_isWell (wsV RL 39 RX4 yX4_report wsX4_report) := goodIn_app (goodIn_of _ (by decide +kernel)) ggL_isWell_X4_report
theorem dL_isWell_0 : decode cL_isWell 0 = .ok (.aload_n 0, 1) := by decide +kernel
theorem dL_isWell_1 : decode cL_isWell 1 = .ok (.iconst 1, 1) := by decide +kernel
theorem dL_isWell_2 : decode cL_isWell 2 = .ok (.invokevirtual 30, 3) := by decide +kernel
theorem dL_isWell_5 : decode cL_isWell 5 = .ok (.istore_n 2, 1) := by decide +kernel
theorem dL_isWell_6 : decode cL_isWell 6 = .ok (.iconst 0, 1) := by decide +kernel
theorem dL_isWell_7 : decode cL_isWell 7 = .ok (.istore_n 3, 1) := by decide +kernel
theorem dL_isWell_8 : decode cL_isWell 8 = .ok (.iconst 0, 1) := by decide +kernel
theorem dL_isWell_9 : decode cL_isWell 9 = .ok (.istore 4, 2) := by decide +kernel
theorem dL_isWell_11 : decode cL_isWell 11 = .ok (.aload_n 0, 1) := by decide +kernel
theorem dL_isWell_12 : decode cL_isWell 12 = .ok (.iconst 2, 1) := by decide +kernel
theorem dL_isWell_13 : decode cL_isWell 13 = .ok (.invokevirtual 30, 3) := by decide +kernel
theorem dL_isWell_16 : decode cL_isWell 16 = .ok (.iload_n 2, 1) := by decide +kernel
theorem dL_isWell_17 : decode cL_isWell 17 = .ok (.aload_n 0, 1) := by decide +kernel
theorem dL_isWell_18 : decode cL_isWell 18 = .ok (.iconst 3, 1) := by decide +kernel
theorem dL_isWell_19 : decode cL_isWell 19 = .ok (.invokevirtual 30, 3) := by decide +kernel
theorem dL_isWell_22 : decode cL_isWell 22 = .ok (.iadd, 1) := by decide +kernel
theorem dL_isWell_23 : decode cL_isWell 23 = .ok (.aload_n 0, 1) := by decide +kernel
theorem dL_isWell_24 : decode cL_isWell 24 = .ok (.iconst 4, 1) := by decide +kernel
theorem dL_isWell_25 : decode cL_isWell 25 = .ok (.invokevirtual 30, 3) := by decide +kernel
theorem dL_isWell_28 : decode cL_isWell 28 = .ok (.iadd, 1) := by decide +kernel
theorem dL_isWell_29 : decode cL_isWell 29 = .ok (.aload_n 0, 1) := by decide +kernel
theorem dL_isWell_30 : decode cL_isWell 30 = .ok (.iconst 5, 1) := by decide +kernel
theorem dL_isWell_31 : decode cL_isWell 31 = .ok (.invokevirtual 30, 3) := by decide +kernel
theorem dL_isWell_34 : decode cL_isWell 34 = .ok (.iadd, 1) := by decide +kernel
theorem dL_isWell_35 : decode cL_isWell 35 = .ok (.if_icmp .ne 27, 3) := by decide +kernel
theorem dL_isWell_38 : decode cL_isWell 38 = .ok (.aload_n 0, 1) := by decide +kernel
theorem dL_isWell_39 : decode cL_isWell 39 = .ok (.bipush 10, 2) := by decide +kernel
theorem dL_isWell_41 : decode cL_isWell 41 = .ok (.invokevirtual 30, 3) := by decide +kernel
theorem dL_isWell_44 : decode cL_isWell 44 = .ok (.ifCond .lt 18, 3) := by decide +kernel
theorem dL_isWell_47 : decode cL_isWell 47 = .ok (.aload_n 0, 1) := by decide +kernel
theorem dL_isWell_48 : decode cL_isWell 48 = .ok (.bipush 10, 2) := by decide +kernel
theorem dL_isWell_50 : decode cL_isWell 50 = .ok (.invokevirtual 30, 3) := by decide +kernel
theorem dL_isWell_53 : decode cL_isWell 53 = .ok (.bipush 60, 2) := by decide +kernel
theorem dL_isWell_55 : decode cL_isWell 55 = .ok (.if_icmp .gt 7, 3) := by decide +kernel
theorem dL_isWell_58 : decode cL_isWell 58 = .ok (.iconst 1, 1) := by decide +kernel
theorem dL_isWell_59 : decode cL_isWell 59 = .ok (.goto 4, 3) := by decide +kernel
theorem dL_isWell_62 : decode cL_isWell 62 = .ok (.iconst 0, 1) := by decide +kernel
theorem dL_isWell_63 : decode cL_isWell 63 = .ok (.istore 5, 2) := by decide +kernel
theorem dL_isWell_65 : decode cL_isWell 65 = .ok (.iconst 0, 1) := by decide +kernel
theorem dL_isWell_66 : decode cL_isWell 66 = .ok (.istore 6, 2) := by decide +kernel
theorem dL_isWell_68 : decode cL_isWell 68 = .ok (.iload 6, 2) := by decide +kernel
theorem dL_isWell_70 : decode cL_isWell 70 = .ok (.bipush 22, 2) := by decide +kernel
theorem dL_isWell_72 : decode cL_isWell 72 = .ok (.if_icmp .ge 36, 3) := by decide +kernel
theorem dL_isWell_75 : decode cL_isWell 75 = .ok (.iload 5, 2) := by decide +kernel
theorem dL_isWell_77 : decode cL_isWell 77 = .ok (.ifCond .eq 22, 3) := by decide +kernel
theorem dL_isWell_80 : decode cL_isWell 80 = .ok (.aload_n 0, 1) := by decide +kernel
theorem dL_isWell_81 : decode cL_isWell 81 = .ok (.iload 6, 2) := by decide +kernel
theorem dL_isWell_83 : decode cL_isWell 83 = .ok (.invokevirtual 30, 3) := by decide +kernel
theorem dL_isWell_86 : decode cL_isWell 86 = .ok (.aload_n 1, 1) := by decide +kernel
theorem dL_isWell_87 : decode cL_isWell 87 = .ok (.iload 6, 2) := by decide +kernel
theorem dL_isWell_89 : decode cL_isWell 89 = .ok (.invokevirtual 30, 3) := by decide +kernel
theorem dL_isWell_92 : decode cL_isWell 92 = .ok (.if_icmp .ne 7, 3) := by decide +kernel
theorem dL_isWell_95 : decode cL_isWell 95 = .ok (.iconst 1, 1) := by decide +kernel
theorem dL_isWell_96 : decode cL_isWell 96 = .ok (.goto 4, 3) := by decide +kernel
theorem dL_isWell_99 : decode cL_isWell 99 = .ok (.iconst 0, 1) := by decide +kernel
theorem dL_isWell_100 : decode cL_isWell 100 = .ok (.istore 5, 2) := by decide +kernel
theorem dL_isWell_102 : decode cL_isWell 102 = .ok (.iinc 6 1, 3) := by decide +kernel
theorem dL_isWell_105 : decode cL_isWell 105 = .ok (.goto (-37), 3) := by decide +kernel
theorem dL_isWell_108 : decode cL_isWell 108 = .ok (.iconst 0, 1) := by decide +kernel
theorem dL_isWell_109 : decode cL_isWell 109 = .ok (.istore 6, 2) := by decide +kernel
theorem dL_isWell_111 : decode cL_isWell 111 = .ok (.iconst 0, 1) := by decide +kernel
theorem dL_isWell_112 : decode cL_isWell 112 = .ok (.istore 7, 2) := by decide +kernel
theorem dL_isWell_114 : decode cL_isWell 114 = .ok (.iload 7, 2) := by decide +kernel
theorem dL_isWell_116 : decode cL_isWell 116 = .ok (.iload_n 2, 1) := by decide +kernel
theorem dL_isWell_117 : decode cL_isWell 117 = .ok (.if_icmp .ge 207, 3) := by decide +kernel
theorem dL_isWell_120 : decode cL_isWell 120 = .ok (.iload 5, 2) := by decide +kernel
theorem dL_isWell_122 : decode cL_isWell 122 = .ok (.ifCond .eq 202, 3) := by decide +kernel
theorem dL_isWell_125 : decode cL_isWell 125 = .ok (.aload_n 0, 1) := by decide +kernel
theorem dL_isWell_126 : decode cL_isWell 126 = .ok (.iload 7, 2) := by decide +kernel
theorem dL_isWell_128 : decode cL_isWell 128 = .ok (.iconst 0, 1) := by decide +kernel
theorem dL_isWell_129 : decode cL_isWell 129 = .ok (.invokevirtual 33, 3) := by decide +kernel
theorem dL_isWell_132 : decode cL_isWell 132 = .ok (.istore 8, 2) := by decide +kernel
theorem dL_isWell_134 : decode cL_isWell 134 = .ok (.aload_n 0, 1) := by decide +kernel
theorem dL_isWell_135 : decode cL_isWell 135 = .ok (.iload 7, 2) := by decide +kernel
theorem dL_isWell_137 : decode cL_isWell 137 = .ok (.iconst 3, 1) := by decide +kernel
theorem dL_isWell_138 : decode cL_isWell 138 = .ok (.invokevirtual 33, 3) := by decide +kernel
theorem dL_isWell_141 : decode cL_isWell 141 = .ok (.istore 9, 2) := by decide +kernel
theorem dL_isWell_143 : decode cL_isWell 143 = .ok (.iload_n 3, 1) := by decide +kernel
theorem dL_isWell_144 : decode cL_isWell 144 = .ok (.aload_n 0, 1) := by decide +kernel
theorem dL_isWell_145 : decode cL_isWell 145 = .ok (.iload 7, 2) := by decide +kernel
theorem dL_isWell_147 : decode cL_isWell 147 = .ok (.iconst 4, 1) := by decide +kernel
theorem dL_isWell_148 : decode cL_isWell 148 = .ok (.invokevirtual 33, 3) := by decide +kernel
theorem dL_isWell_151 : decode cL_isWell 151 = .ok (.iadd, 1) := by decide +kernel
theorem dL_isWell_152 : decode cL_isWell 152 = .ok (.istore_n 3, 1) := by decide +kernel
theorem dL_isWell_153 : decode cL_isWell 153 = .ok (.iload 4, 2) := by decide +kernel
theorem dL_isWell_155 : decode cL_isWell 155 = .ok (.iload 9, 2) := by decide +kernel
theorem dL_isWell_157 : decode cL_isWell 157 = .ok (.bipush (-6), 2) := by decide +kernel
theorem dL_isWell_159 : decode cL_isWell 159 = .ok (.if_icmp .ne 7, 3) := by decide +kernel
theorem dL_isWell_162 : decode cL_isWell 162 = .ok (.iconst 0, 1) := by decide +kernel
theorem dL_isWell_163 : decode cL_isWell 163 = .ok (.goto 4, 3) := by decide +kernel
theorem dL_isWell_166 : decode cL_isWell 166 = .ok (.iconst 1, 1) := by decide +kernel
theorem dL_isWell_167 : decode cL_isWell 167 = .ok (.iadd, 1) := by decide +kernel
theorem dL_isWell_168 : decode cL_isWell 168 = .ok (.istore 4, 2) := by decide +kernel
theorem dL_isWell_170 : decode cL_isWell 170 = .ok (.iload 6, 2) := by decide +kernel
theorem dL_isWell_172 : decode cL_isWell 172 = .ok (.iconst 1, 1) := by decide +kernel
theorem dL_isWell_173 : decode cL_isWell 173 = .ok (.aload_n 0, 1) := by decide +kernel
theorem dL_isWell_174 : decode cL_isWell 174 = .ok (.iload 7, 2) := by decide +kernel
theorem dL_isWell_176 : decode cL_isWell 176 = .ok (.iconst 2, 1) := by decide +kernel
theorem dL_isWell_177 : decode cL_isWell 177 = .ok (.invokevirtual 33, 3) := by decide +kernel
theorem dL_isWell_180 : decode cL_isWell 180 = .ok (.isub, 1) := by decide +kernel
theorem dL_isWell_181 : decode cL_isWell 181 = .ok (.iadd, 1) := by decide +kernel
theorem dL_isWell_182 : decode cL_isWell 182 = .ok (.istore 6, 2) := by decide +kernel
theorem dL_isWell_184 : decode cL_isWell 184 = .ok (.iload 8, 2) := by decide +kernel
theorem dL_isWell_186 : decode cL_isWell 186 = .ok (.aload_n 1, 1) := by decide +kernel
theorem dL_isWell_187 : decode cL_isWell 187 = .ok (.iload 7, 2) := by decide +kernel
theorem dL_isWell_189 : decode cL_isWell 189 = .ok (.iconst 0, 1) := by decide +kernel
theorem dL_isWell_190 : decode cL_isWell 190 = .ok (.invokevirtual 33, 3) := by decide +kernel
theorem dL_isWell_193 : decode cL_isWell 193 = .ok (.if_icmp .ne 122, 3) := by decide +kernel
theorem dL_isWell_196 : decode cL_isWell 196 = .ok (.iload 9, 2) := by decide +kernel
theorem dL_isWell_198 : decode cL_isWell 198 = .ok (.aload_n 1, 1) := by decide +kernel
theorem dL_isWell_199 : decode cL_isWell 199 = .ok (.iload 7, 2) := by decide +kernel
theorem dL_isWell_201 : decode cL_isWell 201 = .ok (.iconst 3, 1) := by decide +kernel
theorem dL_isWell_202 : decode cL_isWell 202 = .ok (.invokevirtual 33, 3) := by decide +kernel
theorem dL_isWell_205 : decode cL_isWell 205 = .ok (.if_icmp .ne 110, 3) := by decide +kernel
theorem dL_isWell_208 : decode cL_isWell 208 = .ok (.iload 7, 2) := by decide +kernel
theorem dL_isWell_210 : decode cL_isWell 210 = .ok (.ifCond .eq 46, 3) := by decide +kernel
theorem dL_isWell_213 : decode cL_isWell 213 = .ok (.aload_n 0, 1) := by decide +kernel
theorem dL_isWell_214 : decode cL_isWell 214 = .ok (.iload 7, 2) := by decide +kernel
theorem dL_isWell_216 : decode cL_isWell 216 = .ok (.iconst 1, 1) := by decide +kernel
theorem dL_isWell_217 : decode cL_isWell 217 = .ok (.isub, 1) := by decide +kernel
theorem dL_isWell_218 : decode cL_isWell 218 = .ok (.iconst 0, 1) := by decide +kernel
theorem dL_isWell_219 : decode cL_isWell 219 = .ok (.invokevirtual 33, 3) := by decide +kernel
theorem dL_isWell_222 : decode cL_isWell 222 = .ok (.aload_n 0, 1) := by decide +kernel
theorem dL_isWell_223 : decode cL_isWell 223 = .ok (.iload 7, 2) := by decide +kernel
theorem dL_isWell_225 : decode cL_isWell 225 = .ok (.iconst 1, 1) := by decide +kernel
theorem dL_isWell_226 : decode cL_isWell 226 = .ok (.isub, 1) := by decide +kernel
theorem dL_isWell_227 : decode cL_isWell 227 = .ok (.iconst 1, 1) := by decide +kernel
theorem dL_isWell_228 : decode cL_isWell 228 = .ok (.invokevirtual 33, 3) := by decide +kernel
theorem dL_isWell_231 : decode cL_isWell 231 = .ok (.isub, 1) := by decide +kernel
theorem dL_isWell_232 : decode cL_isWell 232 = .ok (.iload 8, 2) := by decide +kernel
theorem dL_isWell_234 : decode cL_isWell 234 = .ok (.if_icmp .le 81, 3) := by decide +kernel
theorem dL_isWell_237 : decode cL_isWell 237 = .ok (.aload_n 0, 1) := by decide +kernel
theorem dL_isWell_238 : decode cL_isWell 238 = .ok (.iload 7, 2) := by decide +kernel
theorem dL_isWell_240 : decode cL_isWell 240 = .ok (.iconst 5, 1) := by decide +kernel
theorem dL_isWell_241 : decode cL_isWell 241 = .ok (.invokevirtual 33, 3) := by decide +kernel
theorem dL_isWell_244 : decode cL_isWell 244 = .ok (.aload_n 0, 1) := by decide +kernel
theorem dL_isWell_245 : decode cL_isWell 245 = .ok (.iload 7, 2) := by decide +kernel
theorem dL_isWell_247 : decode cL_isWell 247 = .ok (.iconst 1, 1) := by decide +kernel
theorem dL_isWell_248 : decode cL_isWell 248 = .ok (.isub, 1) := by decide +kernel
theorem dL_isWell_249 : decode cL_isWell 249 = .ok (.iconst 5, 1) := by decide +kernel
theorem dL_isWell_250 : decode cL_isWell 250 = .ok (.invokevirtual 33, 3) := by decide +kernel
theorem dL_isWell_253 : decode cL_isWell 253 = .ok (.if_icmp .le 62, 3) := by decide +kernel
theorem dL_isWell_256 : decode cL_isWell 256 = .ok (.aload_n 0, 1) := by decide +kernel
theorem dL_isWell_257 : decode cL_isWell 257 = .ok (.iload 7, 2) := by decide +kernel
theorem dL_isWell_259 : decode cL_isWell 259 = .ok (.iconst 4, 1) := by decide +kernel
theorem dL_isWell_260 : decode cL_isWell 260 = .ok (.invokevirtual 33, 3) := by decide +kernel
theorem dL_isWell_263 : decode cL_isWell 263 = .ok (.ifCond .eq 10, 3) := by decide +kernel
theorem dL_isWell_266 : decode cL_isWell 266 = .ok (.iload 9, 2) := by decide +kernel
theorem dL_isWell_268 : decode cL_isWell 268 = .ok (.bipush (-6), 2) := by decide +kernel
theorem dL_isWell_270 : decode cL_isWell 270 = .ok (.if_icmp .eq 45, 3) := by decide +kernel
theorem dL_isWell_273 : decode cL_isWell 273 = .ok (.aload_n 0, 1) := by decide +kernel
theorem dL_isWell_274 : decode cL_isWell 274 = .ok (.iload 7, 2) := by decide +kernel
theorem dL_isWell_276 : decode cL_isWell 276 = .ok (.iconst 5, 1) := by decide +kernel
theorem dL_isWell_277 : decode cL_isWell 277 = .ok (.invokevirtual 33, 3) := by decide +kernel
theorem dL_isWell_280 : decode cL_isWell 280 = .ok (.aload_n 0, 1) := by decide +kernel
theorem dL_isWell_281 : decode cL_isWell 281 = .ok (.iconst 2, 1) := by decide +kernel
theorem dL_isWell_282 : decode cL_isWell 282 = .ok (.invokevirtual 30, 3) := by decide +kernel
theorem dL_isWell_285 : decode cL_isWell 285 = .ok (.if_icmp .ge 30, 3) := by decide +kernel
theorem dL_isWell_288 : decode cL_isWell 288 = .ok (.aload_n 0, 1) := by decide +kernel
theorem dL_isWell_289 : decode cL_isWell 289 = .ok (.iload 7, 2) := by decide +kernel
theorem dL_isWell_291 : decode cL_isWell 291 = .ok (.iconst 1, 1) := by decide +kernel
theorem dL_isWell_292 : decode cL_isWell 292 = .ok (.invokevirtual 33, 3) := by decide +kernel
theorem dL_isWell_295 : decode cL_isWell 295 = .ok (.iconst 4, 1) := by decide +kernel
theorem dL_isWell_296 : decode cL_isWell 296 = .ok (.if_icmp .lt 19, 3) := by decide +kernel
theorem dL_isWell_299 : decode cL_isWell 299 = .ok (.aload_n 0, 1) := by decide +kernel
theorem dL_isWell_300 : decode cL_isWell 300 = .ok (.iload 7, 2) := by decide +kernel
theorem dL_isWell_302 : decode cL_isWell 302 = .ok (.iconst 1, 1) := by decide +kernel
theorem dL_isWell_303 : decode cL_isWell 303 = .ok (.invokevirtual 33, 3) := by decide +kernel
theorem dL_isWell_306 : decode cL_isWell 306 = .ok (.bipush 30, 2) := by decide +kernel
theorem dL_isWell_308 : decode cL_isWell 308 = .ok (.if_icmp .gt 7, 3) := by decide +kernel
theorem dL_isWell_311 : decode cL_isWell 311 = .ok (.iconst 1, 1) := by decide +kernel
theorem dL_isWell_312 : decode cL_isWell 312 = .ok (.goto 4, 3) := by decide +kernel
theorem dL_isWell_315 : decode cL_isWell 315 = .ok (.iconst 0, 1) := by decide +kernel
theorem dL_isWell_316 : decode cL_isWell 316 = .ok (.istore 5, 2) := by decide +kernel
theorem dL_isWell_318 : decode cL_isWell 318 = .ok (.iinc 7 1, 3) := by decide +kernel
theorem dL_isWell_321 : decode cL_isWell 321 = .ok (.goto (-207), 3) := by decide +kernel
theorem dL_isWell_324 : decode cL_isWell 324 = .ok (.iload 5, 2) := by decide +kernel
theorem dL_isWell_326 : decode cL_isWell 326 = .ok (.ifCond .eq 80, 3) := by decide +kernel
theorem dL_isWell_329 : decode cL_isWell 329 = .ok (.aload_n 0, 1) := by decide +kernel
theorem dL_isWell_330 : decode cL_isWell 330 = .ok (.iconst 2, 1) := by decide +kernel
theorem dL_isWell_331 : decode cL_isWell 331 = .ok (.invokevirtual 30, 3) := by decide +kernel
theorem dL_isWell_334 : decode cL_isWell 334 = .ok (.iload 6, 2) := by decide +kernel
theorem dL_isWell_336 : decode cL_isWell 336 = .ok (.isub, 1) := by decide +kernel
theorem dL_isWell_337 : decode cL_isWell 337 = .ok (.aload_n 0, 1) := by decide +kernel
theorem dL_isWell_338 : decode cL_isWell 338 = .ok (.bipush 11, 2) := by decide +kernel
theorem dL_isWell_340 : decode cL_isWell 340 = .ok (.invokevirtual 30, 3) := by decide +kernel
theorem dL_isWell_343 : decode cL_isWell 343 = .ok (.aload_n 0, 1) := by decide +kernel
theorem dL_isWell_344 : decode cL_isWell 344 = .ok (.bipush 12, 2) := by decide +kernel
theorem dL_isWell_346 : decode cL_isWell 346 = .ok (.invokevirtual 30, 3) := by decide +kernel
theorem dL_isWell_349 : decode cL_isWell 349 = .ok (.iadd, 1) := by decide +kernel
theorem dL_isWell_350 : decode cL_isWell 350 = .ok (.aload_n 0, 1) := by decide +kernel
theorem dL_isWell_351 : decode cL_isWell 351 = .ok (.bipush 6, 2) := by decide +kernel
theorem dL_isWell_353 : decode cL_isWell 353 = .ok (.invokevirtual 30, 3) := by decide +kernel
theorem dL_isWell_356 : decode cL_isWell 356 = .ok (.iadd, 1) := by decide +kernel
theorem dL_isWell_357 : decode cL_isWell 357 = .ok (.aload_n 0, 1) := by decide +kernel
theorem dL_isWell_358 : decode cL_isWell 358 = .ok (.bipush 7, 2) := by decide +kernel
theorem dL_isWell_360 : decode cL_isWell 360 = .ok (.invokevirtual 30, 3) := by decide +kernel
theorem dL_isWell_363 : decode cL_isWell 363 = .ok (.iadd, 1) := by decide +kernel
theorem dL_isWell_364 : decode cL_isWell 364 = .ok (.aload_n 0, 1) := by decide +kernel
theorem dL_isWell_365 : decode cL_isWell 365 = .ok (.bipush 9, 2) := by decide +kernel
theorem dL_isWell_367 : decode cL_isWell 367 = .ok (.invokevirtual 30, 3) := by decide +kernel
theorem dL_isWell_370 : decode cL_isWell 370 = .ok (.iadd, 1) := by decide +kernel
theorem dL_isWell_371 : decode cL_isWell 371 = .ok (.if_icmp .ne 35, 3) := by decide +kernel
theorem dL_isWell_374 : decode cL_isWell 374 = .ok (.iload_n 3, 1) := by decide +kernel
theorem dL_isWell_375 : decode cL_isWell 375 = .ok (.aload_n 0, 1) := by decide +kernel
theorem dL_isWell_376 : decode cL_isWell 376 = .ok (.bipush 8, 2) := by decide +kernel
theorem dL_isWell_378 : decode cL_isWell 378 = .ok (.invokevirtual 30, 3) := by decide +kernel
theorem dL_isWell_381 : decode cL_isWell 381 = .ok (.if_icmp .gt 25, 3) := by decide +kernel
theorem dL_isWell_384 : decode cL_isWell 384 = .ok (.iload 4, 2) := by decide +kernel
theorem dL_isWell_386 : decode cL_isWell 386 = .ok (.aload_n 0, 1) := by decide +kernel
theorem dL_isWell_387 : decode cL_isWell 387 = .ok (.bipush 8, 2) := by decide +kernel
theorem dL_isWell_389 : decode cL_isWell 389 = .ok (.invokevirtual 30, 3) := by decide +kernel
theorem dL_isWell_392 : decode cL_isWell 392 = .ok (.iadd, 1) := by decide +kernel
theorem dL_isWell_393 : decode cL_isWell 393 = .ok (.aload_n 0, 1) := by decide +kernel
theorem dL_isWell_394 : decode cL_isWell 394 = .ok (.bipush 6, 2) := by decide +kernel
theorem dL_isWell_396 : decode cL_isWell 396 = .ok (.invokevirtual 30, 3) := by decide +kernel
theorem dL_isWell_399 : decode cL_isWell 399 = .ok (.if_icmp .gt 7, 3) := by decide +kernel
theorem dL_isWell_402 : decode cL_isWell 402 = .ok (.iconst 1, 1) := by decide +kernel
theorem dL_isWell_403 : decode cL_isWell 403 = .ok (.goto 4, 3) := by decide +kernel
theorem dL_isWell_406 : decode cL_isWell 406 = .ok (.iconst 0, 1) := by decide +kernel
theorem dL_isWell_407 : decode cL_isWell 407 = .ok (.istore 5, 2) := by decide +kernel
theorem dL_isWell_409 : decode cL_isWell 409 = .ok (.iconst 0, 1) := by decide +kernel
theorem dL_isWell_410 : decode cL_isWell 410 = .ok (.istore 7, 2) := by decide +kernel
theorem dL_isWell_412 : decode cL_isWell 412 = .ok (.iload 7, 2) := by decide +kernel
theorem dL_isWell_414 : decode cL_isWell 414 = .ok (.aload_n 0, 1) := by decide +kernel
theorem dL_isWell_415 : decode cL_isWell 415 = .ok (.bipush 12, 2) := by decide +kernel
theorem dL_isWell_417 : decode cL_isWell 417 = .ok (.invokevirtual 30, 3) := by decide +kernel
theorem dL_isWell_420 : decode cL_isWell 420 = .ok (.if_icmp .ge 48, 3) := by decide +kernel
theorem dL_isWell_423 : decode cL_isWell 423 = .ok (.iload 5, 2) := by decide +kernel
theorem dL_isWell_425 : decode cL_isWell 425 = .ok (.ifCond .eq 34, 3) := by decide +kernel
theorem dL_isWell_428 : decode cL_isWell 428 = .ok (.aload_n 0, 1) := by decide +kernel
theorem dL_isWell_429 : decode cL_isWell 429 = .ok (.iload 7, 2) := by decide +kernel
theorem dL_isWell_431 : decode cL_isWell 431 = .ok (.invokevirtual 36, 3) := by decide +kernel
theorem dL_isWell_434 : decode cL_isWell 434 = .ok (.sipush 1000, 3) := by decide +kernel
theorem dL_isWell_437 : decode cL_isWell 437 = .ok (.if_icmp .le 22, 3) := by decide +kernel
theorem dL_isWell_440 : decode cL_isWell 440 = .ok (.aload_n 0, 1) := by decide +kernel
theorem dL_isWell_441 : decode cL_isWell 441 = .ok (.iload 7, 2) := by decide +kernel
theorem dL_isWell_443 : decode cL_isWell 443 = .ok (.invokevirtual 36, 3) := by decide +kernel
theorem dL_isWell_446 : decode cL_isWell 446 = .ok (.aload_n 1, 1) := by decide +kernel
theorem dL_isWell_447 : decode cL_isWell 447 = .ok (.iload 7, 2) := by decide +kernel
theorem dL_isWell_449 : decode cL_isWell 449 = .ok (.invokevirtual 36, 3) := by decide +kernel
theorem dL_isWell_452 : decode cL_isWell 452 = .ok (.if_icmp .ne 7, 3) := by decide +kernel
theorem dL_isWell_455 : decode cL_isWell 455 = .ok (.iconst 1, 1) := by decide +kernel
theorem dL_isWell_456 : decode cL_isWell 456 = .ok (.goto 4, 3) := by decide +kernel
theorem dL_isWell_459 : decode cL_isWell 459 = .ok (.iconst 0, 1) := by decide +kernel
theorem dL_isWell_460 : decode cL_isWell 460 = .ok (.istore 5, 2) := by decide +kernel
theorem dL_isWell_462 : decode cL_isWell 462 = .ok (.iinc 7 1, 3) := by decide +kernel
theorem dL_isWell_465 : decode cL_isWell 465 = .ok (.goto (-53), 3) := by decide +kernel
theorem dL_isWell_468 : decode cL_isWell 468 = .ok (.iconst 0, 1) := by decide +kernel
theorem dL_isWell_469 : decode cL_isWell 469 = .ok (.istore 7, 2) := by decide +kernel
theorem dL_isWell_471 : decode cL_isWell 471 = .ok (.iload 7, 2) := by decide +kernel
theorem dL_isWell_473 : decode cL_isWell 473 = .ok (.aload_n 0, 1) := by decide +kernel
theorem dL_isWell_474 : decode cL_isWell 474 = .ok (.bipush 11, 2) := by decide +kernel
theorem dL_isWell_476 : decode cL_isWell 476 = .ok (.invokevirtual 30, 3) := by decide +kernel
theorem dL_isWell_479 : decode cL_isWell 479 = .ok (.if_icmp .ge 54, 3) := by decide +kernel
theorem dL_isWell_482 : decode cL_isWell 482 = .ok (.iload 5, 2) := by decide +kernel
theorem dL_isWell_484 : decode cL_isWell 484 = .ok (.ifCond .eq 40, 3) := by decide +kernel
theorem dL_isWell_487 : decode cL_isWell 487 = .ok (.aload_n 0, 1) := by decide +kernel
theorem dL_isWell_488 : decode cL_isWell 488 = .ok (.iload 7, 2) := by decide +kernel
theorem dL_isWell_490 : decode cL_isWell 490 = .ok (.iconst 0, 1) := by decide +kernel
theorem dL_isWell_491 : decode cL_isWell 491 = .ok (.invokevirtual 39, 3) := by decide +kernel
theorem dL_isWell_494 : decode cL_isWell 494 = .ok (.iconst 1, 1) := by decide +kernel
theorem dL_isWell_495 : decode cL_isWell 495 = .ok (.if_icmp .lt 29, 3) := by decide +kernel
theorem dL_isWell_498 : decode cL_isWell 498 = .ok (.aload_n 0, 1) := by decide +kernel
theorem dL_isWell_499 : decode cL_isWell 499 = .ok (.iload 7, 2) := by decide +kernel
theorem dL_isWell_501 : decode cL_isWell 501 = .ok (.iconst 0, 1) := by decide +kernel
theorem dL_isWell_502 : decode cL_isWell 502 = .ok (.invokevirtual 39, 3) := by decide +kernel
theorem dL_isWell_505 : decode cL_isWell 505 = .ok (.bipush 6, 2) := by decide +kernel
theorem dL_isWell_507 : decode cL_isWell 507 = .ok (.if_icmp .gt 17, 3) := by decide +kernel
theorem dL_isWell_510 : decode cL_isWell 510 = .ok (.aload_n 0, 1) := by decide +kernel
theorem dL_isWell_511 : decode cL_isWell 511 = .ok (.iload 7, 2) := by decide +kernel
theorem dL_isWell_513 : decode cL_isWell 513 = .ok (.iconst 1, 1) := by decide +kernel
theorem dL_isWell_514 : decode cL_isWell 514 = .ok (.invokevirtual 39, 3) := by decide +kernel
theorem dL_isWell_517 : decode cL_isWell 517 = .ok (.ifCond .lt 7, 3) := by decide +kernel
theorem dL_isWell_520 : decode cL_isWell 520 = .ok (.iconst 1, 1) := by decide +kernel
theorem dL_isWell_521 : decode cL_isWell 521 = .ok (.goto 4, 3) := by decide +kernel
theorem dL_isWell_524 : decode cL_isWell 524 = .ok (.iconst 0, 1) := by decide +kernel
theorem dL_isWell_525 : decode cL_isWell 525 = .ok (.istore 5, 2) := by decide +kernel
theorem dL_isWell_527 : decode cL_isWell 527 = .ok (.iinc 7 1, 3) := by decide +kernel
theorem dL_isWell_530 : decode cL_isWell 530 = .ok (.goto (-59), 3) := by decide +kernel
theorem dL_isWell_533 : decode cL_isWell 533 = .ok (.iload 5, 2) := by decide +kernel
theorem dL_isWell_535 : decode cL_isWell 535 = .ok (.ireturn, 1) := by decide +kernel
set_option maxRecDepth 20000 in
theorem ggL_isForeseen_X4_ifPass : GoodIn wsL_isForeseen wsX4_ifPass := goodIn_r _ [5, 6, 7, 8, 9, 10, 4, 11, 12, 13, 14, 15, 16, 17, 18, 19, 20, 21, 22, 23, 24, 25, 26, 27, 28, 29, 30, 31, 32, 33, 34, 35, 36, 37, 38, 39, 40, 41, 42, 43, 44, 45, 46, 47, 48, 49, 50, 51, 52, 53, 54, 55, 56, 57, 58, 59, 60, 61, 62, 63, 64, 65, 66, 67, 68, 69, 70, 71, 72, 73, 74, 75, 76, 77, 78, 79, 80, 81, 82, 83, 84, 85, 86, 87, 88, 89, 90, 91, 92, 93, 94, 95, 96, 97, 98, 99, 100, 101, 102, 103, 104, 105, 106, 107, 108, 109, 110, 111, 112, 113, 114, 115, 116, 117, 118, 119, 120, 121, 122, 180, 181, 182, 183, 184, 185, 186, 187, 188, 189, 190, 191, 192, 193, 194, 195, 196, 197, 198, 199, 200, 201, 202] (by decide +kernel) (by decide +kernel)
set_option maxRecDepth 20000 in
theorem gL_isForeseen_X4_ifPass : GoodIn wsL_isForeseen (wsV RL 42 RX4 yX4_ifPass wsX4_ifPass) := goodIn_app (goodIn_of _ (by decide +kernel)) ggL_isForeseen_X4_ifPass
set_option maxRecDepth 20000 in
theorem ggL_isForeseen_X4_bestGuess : GoodIn wsL_isForeseen wsX4_bestGuess := goodIn_r _ [126, 9, 10, 4, 11, 127, 128, 129, 130, 7, 8, 131, 12, 13, 14, 15, 16, 17, 18, 19, 20, 21, 22, 23, 24, 25, 26, 27, 28, 29, 30, 31, 32, 33, 34, 35, 36, 37, 38, 39, 40, 41, 42, 43, 44, 45, 46, 47, 48, 49, 50, 51, 52, 53, 54, 55, 56, 57, 58, 59, 60, 61, 62, 63, 64, 65, 66, 67, 68, 69, 70, 71, 72, 73, 74, 75, 76, 77, 78, 79, 80, 81, 82, 83, 84, 85, 86, 87, 88, 89, 90, 91, 92, 93, 94, 95, 96, 97, 98, 99, 100, 101, 102, 103, 104, 105, 106, 107, 108, 109, 110, 111, 112, 113, 114, 115, 116, 117, 118, 119, 120, 121, 122, 180, 181, 182, 183, 184, 185, 186, 187, 188, 189, 190, 191, 192, 193, 194, 195, 196, 197, 198, 199, 200, 201, 202] (by decide +kernel) (by decide +kernel)
set_option maxRecDepth 20000 in
theorem gL_isForeseen_X4_bestGuess : GoodIn wsL_isForeseen (wsV RL 45 RX4 yX4_bestGuess wsX4_bestGuess) := goodIn_app (goodIn_of _ (by decide +kernel)) ggL_isForeseen_X4_bestGuess
set_option maxRecDepth 20000 in
theorem ggL_isForeseen_X4_pass : GoodIn wsL_isForeseen wsX4_pass := goodIn_r _ [135, 136, 8, 137, 138, 139, 140, 141, 142, 143, 144, 145, 146, 147, 148, 149, 150, 151, 152, 153, 13, 14, 15, 16, 17, 18, 19, 20, 21, 22, 23, 24, 25, 26, 27, 28, 29, 30, 31, 32, 33, 34, 35, 36, 37, 38, 39, 40, 41, 42, 154, 155, 156, 157, 158, 159, 160, 161, 162, 44, 45, 46, 47, 48, 49, 50, 51, 52, 53, 54, 55, 56, 57, 58, 59, 60, 61, 62, 63, 64, 65, 66, 67, 68, 69, 70, 71, 72, 73, 74, 75, 76, 77, 78, 79, 80, 81, 82, 83, 84, 85, 86, 87, 88, 89, 90, 91, 92, 93, 94, 95, 96, 97, 98, 99, 100, 101, 102, 103, 104, 105, 106, 107, 108, 109, 110, 111, 112, 113, 114, 115, 116, 117, 118, 163, 164, 165, 4, 166, 167, 168, 169, 170, 180, 181, 182, 183, 184, 185, 203, 204, 205, 186, 187, 188, 189, 190, 191, 192, 193, 194, 195, 196, 197, 198, 199, 200, 201, 202] (by decide +kernel) (by decide +kernel)
set_option maxRecDepth 20000 in
theorem gL_isForeseen_X4_pass : GoodIn wsL_isForeseen (wsV RL 21 RX4 yX4_pass wsX4_pass) := goodIn_app (goodIn_of _ (by decide +kernel)) ggL_isForeseen_X4_pass
set_option maxRecDepth 20000 in
theorem ggL_isForeseen_X4_undo : GoodIn wsL_isForeseen wsX4_undo := goodIn_r _ [174, 136, 175, 8, 176, 177, 178, 140, 179, 142, 143, 144, 145, 146, 147, 148, 149, 150, 151, 152, 153, 13, 14, 15, 16, 17, 18, 19, 20, 21, 22, 23, 24, 25, 26, 27, 28, 29, 30, 31, 32, 33, 34, 35, 36, 37, 38, 39, 40, 41, 42, 180, 181, 182, 183, 184, 185, 203, 204, 205, 186, 187, 188, 189, 190, 191, 192, 193, 194, 195, 196, 197, 198, 199, 200, 201, 202] (by decide +kernel) (by decide +kernel)
set_option maxRecDepth 20000 in
theorem gL_isForeseen_X4_undo : GoodIn wsL_isForeseen (wsV RL 48 RX4 yX4_undo wsX4_undo) := goodIn_app (goodIn_of _ (by decide +kernel)) ggL_isForeseen_X4_undo
theorem dL_isForeseen_0 : decode cL_isForeseen 0 = .ok (.aload_n 0, 1) := by decide +kernel
theorem dL_isForeseen_1 : decode cL_isForeseen 1 = .ok (.iload_n 1, 1) := by decide +kernel
theorem dL_isForeseen_2 : decode cL_isForeseen 2 = .ok (.iload_n 2, 1) := by decide +kernel
theorem dL_isForeseen_3 : decode cL_isForeseen 3 = .ok (.iadd, 1) := by decide +kernel
theorem dL_isForeseen_4 : decode cL_isForeseen 4 = .ok (.iconst 0, 1) := by decide +kernel
theorem dL_isForeseen_5 : decode cL_isForeseen 5 = .ok (.invokevirtual 42, 3) := by decide +kernel
theorem dL_isForeseen_8 : decode cL_isForeseen 8 = .ok (.istore_n 3, 1) := by decide +kernel
theorem dL_isForeseen_9 : decode cL_isForeseen 9 = .ok (.aload_n 0, 1) := by decide +kernel
theorem dL_isForeseen_10 : decode cL_isForeseen 10 = .ok (.iload_n 1, 1) := by decide +kernel
theorem dL_isForeseen_11 : decode cL_isForeseen 11 = .ok (.iload_n 2, 1) := by decide +kernel
theorem dL_isForeseen_12 : decode cL_isForeseen 12 = .ok (.iadd, 1) := by decide +kernel
theorem dL_isForeseen_13 : decode cL_isForeseen 13 = .ok (.iconst 3, 1) := by decide +kernel
theorem dL_isForeseen_14 : decode cL_isForeseen 14 = .ok (.invokevirtual 42, 3) := by decide +kernel
theorem dL_isForeseen_17 : decode cL_isForeseen 17 = .ok (.istore 4, 2) := by decide +kernel
theorem dL_isForeseen_19 : decode cL_isForeseen 19 = .ok (.aload_n 0, 1) := by decide +kernel
theorem dL_isForeseen_20 : decode cL_isForeseen 20 = .ok (.iload_n 1, 1) := by decide +kernel
theorem dL_isForeseen_21 : decode cL_isForeseen 21 = .ok (.iload_n 2, 1) := by decide +kernel
theorem dL_isForeseen_22 : decode cL_isForeseen 22 = .ok (.iadd, 1) := by decide +kernel
theorem dL_isForeseen_23 : decode cL_isForeseen 23 = .ok (.bipush 6, 2) := by decide +kernel
theorem dL_isForeseen_25 : decode cL_isForeseen 25 = .ok (.invokevirtual 42, 3) := by decide +kernel
theorem dL_isForeseen_28 : decode cL_isForeseen 28 = .ok (.istore 5, 2) := by decide +kernel
theorem dL_isForeseen_30 : decode cL_isForeseen 30 = .ok (.aload_n 0, 1) := by decide +kernel
theorem dL_isForeseen_31 : decode cL_isForeseen 31 = .ok (.iload_n 1, 1) := by decide +kernel
theorem dL_isForeseen_32 : decode cL_isForeseen 32 = .ok (.iconst 0, 1) := by decide +kernel
theorem dL_isForeseen_33 : decode cL_isForeseen 33 = .ok (.invokevirtual 42, 3) := by decide +kernel
theorem dL_isForeseen_36 : decode cL_isForeseen 36 = .ok (.istore 6, 2) := by decide +kernel
theorem dL_isForeseen_38 : decode cL_isForeseen 38 = .ok (.aload_n 0, 1) := by decide +kernel
theorem dL_isForeseen_39 : decode cL_isForeseen 39 = .ok (.iload_n 1, 1) := by decide +kernel
theorem dL_isForeseen_40 : decode cL_isForeseen 40 = .ok (.iconst 3, 1) := by decide +kernel
theorem dL_isForeseen_41 : decode cL_isForeseen 41 = .ok (.invokevirtual 42, 3) := by decide +kernel
theorem dL_isForeseen_44 : decode cL_isForeseen 44 = .ok (.istore 7, 2) := by decide +kernel
theorem dL_isForeseen_46 : decode cL_isForeseen 46 = .ok (.iload_n 3, 1) := by decide +kernel
theorem dL_isForeseen_47 : decode cL_isForeseen 47 = .ok (.iload 6, 2) := by decide +kernel
theorem dL_isForeseen_49 : decode cL_isForeseen 49 = .ok (.if_icmp .lt 35, 3) := by decide +kernel
theorem dL_isForeseen_52 : decode cL_isForeseen 52 = .ok (.iload 4, 2) := by decide +kernel
theorem dL_isForeseen_54 : decode cL_isForeseen 54 = .ok (.iload 7, 2) := by decide +kernel
theorem dL_isForeseen_56 : decode cL_isForeseen 56 = .ok (.if_icmp .lt 28, 3) := by decide +kernel
theorem dL_isForeseen_59 : decode cL_isForeseen 59 = .ok (.aload_n 0, 1) := by decide +kernel
theorem dL_isForeseen_60 : decode cL_isForeseen 60 = .ok (.iload_n 1, 1) := by decide +kernel
theorem dL_isForeseen_61 : decode cL_isForeseen 61 = .ok (.iconst 1, 1) := by decide +kernel
theorem dL_isForeseen_62 : decode cL_isForeseen 62 = .ok (.invokevirtual 45, 3) := by decide +kernel
theorem dL_isForeseen_65 : decode cL_isForeseen 65 = .ok (.iload 6, 2) := by decide +kernel
theorem dL_isForeseen_67 : decode cL_isForeseen 67 = .ok (.if_icmp .lt 17, 3) := by decide +kernel
theorem dL_isForeseen_70 : decode cL_isForeseen 70 = .ok (.aload_n 0, 1) := by decide +kernel
theorem dL_isForeseen_71 : decode cL_isForeseen 71 = .ok (.iload_n 1, 1) := by decide +kernel
theorem dL_isForeseen_72 : decode cL_isForeseen 72 = .ok (.invokevirtual 21, 3) := by decide +kernel
theorem dL_isForeseen_75 : decode cL_isForeseen 75 = .ok (.iload 6, 2) := by decide +kernel
theorem dL_isForeseen_77 : decode cL_isForeseen 77 = .ok (.if_icmp .lt 7, 3) := by decide +kernel
theorem dL_isForeseen_80 : decode cL_isForeseen 80 = .ok (.iconst 1, 1) := by decide +kernel
theorem dL_isForeseen_81 : decode cL_isForeseen 81 = .ok (.goto 4, 3) := by decide +kernel
theorem dL_isForeseen_84 : decode cL_isForeseen 84 = .ok (.iconst 0, 1) := by decide +kernel
theorem dL_isForeseen_85 : decode cL_isForeseen 85 = .ok (.istore 8, 2) := by decide +kernel
theorem dL_isForeseen_87 : decode cL_isForeseen 87 = .ok (.iload 8, 2) := by decide +kernel
theorem dL_isForeseen_89 : decode cL_isForeseen 89 = .ok (.ifCond .eq 53, 3) := by decide +kernel
theorem dL_isForeseen_92 : decode cL_isForeseen 92 = .ok (.aload_n 0, 1) := by decide +kernel
theorem dL_isForeseen_93 : decode cL_isForeseen 93 = .ok (.iload_n 2, 1) := by decide +kernel
theorem dL_isForeseen_94 : decode cL_isForeseen 94 = .ok (.iconst 0, 1) := by decide +kernel
theorem dL_isForeseen_95 : decode cL_isForeseen 95 = .ok (.invokevirtual 42, 3) := by decide +kernel
theorem dL_isForeseen_98 : decode cL_isForeseen 98 = .ok (.iload_n 3, 1) := by decide +kernel
theorem dL_isForeseen_99 : decode cL_isForeseen 99 = .ok (.iload 6, 2) := by decide +kernel
theorem dL_isForeseen_101 : decode cL_isForeseen 101 = .ok (.isub, 1) := by decide +kernel
theorem dL_isForeseen_102 : decode cL_isForeseen 102 = .ok (.if_icmp .ne 40, 3) := by decide +kernel
theorem dL_isForeseen_105 : decode cL_isForeseen 105 = .ok (.aload_n 0, 1) := by decide +kernel
theorem dL_isForeseen_106 : decode cL_isForeseen 106 = .ok (.iload_n 2, 1) := by decide +kernel
theorem dL_isForeseen_107 : decode cL_isForeseen 107 = .ok (.iconst 3, 1) := by decide +kernel
theorem dL_isForeseen_108 : decode cL_isForeseen 108 = .ok (.invokevirtual 42, 3) := by decide +kernel
theorem dL_isForeseen_111 : decode cL_isForeseen 111 = .ok (.iload 4, 2) := by decide +kernel
theorem dL_isForeseen_113 : decode cL_isForeseen 113 = .ok (.iload 7, 2) := by decide +kernel
theorem dL_isForeseen_115 : decode cL_isForeseen 115 = .ok (.isub, 1) := by decide +kernel
theorem dL_isForeseen_116 : decode cL_isForeseen 116 = .ok (.if_icmp .ne 26, 3) := by decide +kernel
theorem dL_isForeseen_119 : decode cL_isForeseen 119 = .ok (.aload_n 0, 1) := by decide +kernel
theorem dL_isForeseen_120 : decode cL_isForeseen 120 = .ok (.iload_n 2, 1) := by decide +kernel
theorem dL_isForeseen_121 : decode cL_isForeseen 121 = .ok (.bipush 6, 2) := by decide +kernel
theorem dL_isForeseen_123 : decode cL_isForeseen 123 = .ok (.invokevirtual 42, 3) := by decide +kernel
theorem dL_isForeseen_126 : decode cL_isForeseen 126 = .ok (.iload 5, 2) := by decide +kernel
theorem dL_isForeseen_128 : decode cL_isForeseen 128 = .ok (.if_icmp .ne 14, 3) := by decide +kernel
theorem dL_isForeseen_131 : decode cL_isForeseen 131 = .ok (.aload_n 0, 1) := by decide +kernel
theorem dL_isForeseen_132 : decode cL_isForeseen 132 = .ok (.invokevirtual 48, 3) := by decide +kernel
theorem dL_isForeseen_135 : decode cL_isForeseen 135 = .ok (.ifCond .lt 7, 3) := by decide +kernel
theorem dL_isForeseen_138 : decode cL_isForeseen 138 = .ok (.iconst 1, 1) := by decide +kernel
theorem dL_isForeseen_139 : decode cL_isForeseen 139 = .ok (.goto 4, 3) := by decide +kernel
theorem dL_isForeseen_142 : decode cL_isForeseen 142 = .ok (.iconst 0, 1) := by decide +kernel
theorem dL_isForeseen_143 : decode cL_isForeseen 143 = .ok (.ireturn, 1) := by decide +kernel
set_option maxRecDepth 20000 in
theorem ggL_law_X4_init : GoodIn wsL_law wsX4_init := goodIn_r _ [5, 6, 7, 8, 9, 10, 11, 12, 13, 14, 15, 16, 17, 18, 19, 20, 21, 22, 23, 24, 25, 26, 27, 28, 29, 30, 31, 32, 33, 34, 35, 36, 37, 38, 39, 40, 41, 42, 43, 44, 45, 46, 47, 48, 49, 50, 51, 52, 53, 54, 55, 56, 57, 58, 59, 60, 61, 328, 329, 330, 331, 332, 333, 334, 335, 336, 337, 322, 323, 324, 325, 326, 327, 338, 339, 340, 341, 342, 343, 344, 345, 346, 347, 348, 349] (by decide +kernel) (by decide +kernel)
set_option maxRecDepth 20000 in
theorem gL_law_X4_init : GoodIn wsL_law (wsX4_init) := ggL_law_X4_init
set_option maxRecDepth 20000 in
theorem ggL_law_L_cell : GoodIn wsL_law wsL_cell := goodIn_r _ [65, 66] (by decide +kernel) (by decide +kernel)
set_option maxRecDepth 20000 in
theorem gL_law_L_cell : GoodIn wsL_law (va_wsS RL 53 yL_cell wsL_cell) := goodIn_app (goodIn_of _ (by decide +kernel)) ggL_law_L_cell
set_option maxRecDepth 20000 in
theorem ggL_law_L_isStep : GoodIn wsL_law wsL_isStep := goodIn_r _ [69, 70, 71, 64, 72, 73, 74, 75, 76, 2, 77, 17, 12, 78, 79, 80, 16, 81, 82, 83, 84, 85, 86, 55, 87, 88, 89, 90, 91, 92, 93, 94, 11, 95, 36, 96, 97, 98, 99, 38, 100, 40, 101, 41, 42, 102, 43, 44, 103, 104, 105, 46, 106, 107, 108, 109, 110, 111, 112, 113, 114, 115, 116, 117, 118, 119, 120, 121, 122, 123, 124, 125, 126, 127, 128, 129, 130, 131, 132, 133, 134, 135, 136, 137, 138, 139, 140, 141, 142, 143, 144, 145, 146, 147, 148, 149, 150, 151, 152, 153, 154, 155, 156, 157, 158, 159, 160, 161, 162, 163, 164, 165, 166, 167, 168, 169, 170, 171, 172, 173, 174, 175, 176, 177, 178, 179, 180, 181, 182, 183, 184, 185, 186, 187, 188, 189, 190, 191, 192, 193, 194, 195, 196, 197, 198, 199, 200, 201, 202, 203, 204, 205, 206, 207, 208, 209, 210, 211, 212, 213, 214, 215, 216, 217, 218, 219, 220, 221, 222, 223, 224, 225, 226, 227, 228, 229, 230, 231, 232, 233, 234, 235, 236, 237, 238, 239, 240, 241, 242, 243, 244, 245, 246, 247, 248, 249, 250, 322, 323, 324, 325, 326, 327, 338, 339, 340, 328, 329, 330, 331, 332, 333, 334, 335, 336, 337, 343, 344, 345, 346, 347, 348, 349] (by decide +kernel) (by decide +kernel)
set_option maxRecDepth 20000 in
theorem gL_law_L_isStep : GoodIn wsL_law (va_wsS RL 57 yL_isStep wsL_isStep) := goodIn_app (goodIn_of _ (by decide +kernel)) ggL_law_L_isStep
set_option maxRecDepth 20000 in
theorem ggL_law_L_isWell : GoodIn wsL_law wsL_isWell := goodIn_r _ [253, 254, 255, 256, 2, 257, 24, 258, 17, 259, 12, 260, 261, 262, 11, 263, 100, 101, 102, 38, 36, 264, 265, 266, 267, 268, 269, 270, 271, 40, 230, 231, 232, 233, 272, 273, 274, 46, 275, 107, 108, 109, 110, 111, 112, 113, 276, 277, 278, 279, 280, 281, 282, 283, 43, 284, 285, 286, 287, 288, 289, 290, 291, 41, 42, 322, 323, 324, 325, 326, 327, 341, 342, 338, 339, 340, 328, 329, 330, 331, 332, 333, 334, 335, 336, 337, 343, 344, 345, 346, 347, 348, 349] (by decide +kernel) (by decide +kernel)
set_option maxRecDepth 20000 in
theorem gL_law_L_isWell : GoodIn wsL_law (va_wsS RL 61 yL_isWell wsL_isWell) := goodIn_app (goodIn_of _ (by decide +kernel)) ggL_law_L_isWell
set_option maxRecDepth 20000 in
theorem ggL_law_L_up : GoodIn wsL_law wsL_up := goodIn_r _ [72, 73] (by decide +kernel) (by decide +kernel)
set_option maxRecDepth 20000 in
theorem gL_law_L_up : GoodIn wsL_law (va_wsS RL 9 yL_up wsL_up) := goodIn_app (goodIn_of _ (by decide +kernel)) ggL_law_L_up
set_option maxRecDepth 20000 in
theorem ggL_law_L_isForeseen : GoodIn wsL_law wsL_isForeseen := goodIn_r _ [294, 295, 296, 297, 2, 298, 299, 13, 12, 300, 301, 302, 303, 93, 94, 11, 95, 36, 96, 97, 98, 99, 38, 100, 40, 101, 41, 42, 102, 43, 44, 103, 104, 105, 46, 106, 107, 108, 109, 110, 111, 112, 113, 304, 150, 151, 152, 153, 154, 155, 156, 157, 158, 159, 160, 161, 162, 163, 164, 165, 166, 167, 168, 169, 170, 171, 172, 173, 174, 175, 176, 177, 178, 179, 180, 181, 182, 183, 184, 185, 186, 187, 188, 189, 190, 191, 192, 193, 194, 195, 196, 197, 198, 199, 200, 201, 202, 203, 204, 205, 206, 207, 208, 209, 210, 211, 212, 213, 121, 122, 123, 124, 214, 215, 216, 217, 218, 219, 220, 260, 261, 262, 263, 305, 306, 307, 308, 309, 310, 311, 312, 313, 137, 138, 139, 140, 17, 78, 79, 80, 16, 81, 82, 83, 84, 85, 86, 55, 87, 88, 89, 90, 91, 92, 141, 142, 143, 144, 145, 146, 147, 148, 149, 129, 130, 131, 132, 133, 134, 135, 136, 314, 315, 316, 317, 259, 318, 319, 320, 321, 322, 323, 324, 325, 326, 327, 328, 329, 330, 331, 332, 333, 334, 335, 336, 337, 343, 344, 345, 346, 347, 348, 349, 338, 339, 340] (by decide +kernel) (by decide +kernel)
set_option maxRecDepth 20000 in
theorem gL_law_L_isForeseen : GoodIn wsL_law (va_wsS RL 65 yL_isForeseen wsL_isForeseen) := goodIn_app (goodIn_of _ (by decide +kernel)) ggL_law_L_isForeseen
theorem dL_law_0 : decode cL_law 0 = .ok (.new 16, 3) := by decide +kernel
theorem dL_law_3 : decode cL_law 3 = .ok (.dup, 1) := by decide +kernel
theorem dL_law_4 : decode cL_law 4 = .ok (.invokespecial 52, 3) := by decide +kernel
theorem dL_law_7 : decode cL_law 7 = .ok (.astore_n 1, 1) := by decide +kernel
theorem dL_law_8 : decode cL_law 8 = .ok (.new 16, 3) := by decide +kernel
theorem dL_law_11 : decode cL_law 11 = .ok (.dup, 1) := by decide +kernel
theorem dL_law_12 : decode cL_law 12 = .ok (.invokespecial 52, 3) := by decide +kernel
theorem dL_law_15 : decode cL_law 15 = .ok (.astore_n 2, 1) := by decide +kernel
theorem dL_law_16 : decode cL_law 16 = .ok (.iconst 1, 1) := by decide +kernel
theorem dL_law_17 : decode cL_law 17 = .ok (.istore_n 3, 1) := by decide +kernel
theorem dL_law_18 : decode cL_law 18 = .ok (.iconst 0, 1) := by decide +kernel
theorem dL_law_19 : decode cL_law 19 = .ok (.istore 4, 2) := by decide +kernel
theorem dL_law_21 : decode cL_law 21 = .ok (.iload 4, 2) := by decide +kernel
theorem dL_law_23 : decode cL_law 23 = .ok (.bipush 52, 2) := by decide +kernel
theorem dL_law_25 : decode cL_law 25 = .ok (.if_icmp .ge 41, 3) := by decide +kernel
theorem dL_law_28 : decode cL_law 28 = .ok (.iload_n 3, 1) := by decide +kernel
theorem dL_law_29 : decode cL_law 29 = .ok (.ifCond .eq 37, 3) := by decide +kernel
theorem dL_law_32 : decode cL_law 32 = .ok (.aload_n 1, 1) := by decide +kernel
theorem dL_law_33 : decode cL_law 33 = .ok (.aload_n 2, 1) := by decide +kernel
theorem dL_law_34 : decode cL_law 34 = .ok (.aload_n 0, 1) := by decide +kernel
theorem dL_law_35 : decode cL_law 35 = .ok (.iload 4, 2) := by decide +kernel
theorem dL_law_37 : decode cL_law 37 = .ok (.invokestatic 53, 3) := by decide +kernel
theorem dL_law_40 : decode cL_law 40 = .ok (.invokestatic 57, 3) := by decide +kernel
theorem dL_law_43 : decode cL_law 43 = .ok (.ifCond .eq 15, 3) := by decide +kernel
theorem dL_law_46 : decode cL_law 46 = .ok (.aload_n 1, 1) := by decide +kernel
theorem dL_law_47 : decode cL_law 47 = .ok (.aload_n 2, 1) := by decide +kernel
theorem dL_law_48 : decode cL_law 48 = .ok (.invokestatic 61, 3) := by decide +kernel
theorem dL_law_51 : decode cL_law 51 = .ok (.ifCond .eq 7, 3) := by decide +kernel
theorem dL_law_54 : decode cL_law 54 = .ok (.iconst 1, 1) := by decide +kernel
theorem dL_law_55 : decode cL_law 55 = .ok (.goto 4, 3) := by decide +kernel
theorem dL_law_58 : decode cL_law 58 = .ok (.iconst 0, 1) := by decide +kernel
theorem dL_law_59 : decode cL_law 59 = .ok (.istore_n 3, 1) := by decide +kernel
theorem dL_law_60 : decode cL_law 60 = .ok (.iinc 4 1, 3) := by decide +kernel
theorem dL_law_63 : decode cL_law 63 = .ok (.goto (-42), 3) := by decide +kernel
theorem dL_law_66 : decode cL_law 66 = .ok (.iload_n 3, 1) := by decide +kernel
theorem dL_law_67 : decode cL_law 67 = .ok (.ifCond .eq 40, 3) := by decide +kernel
theorem dL_law_70 : decode cL_law 70 = .ok (.aload_n 1, 1) := by decide +kernel
theorem dL_law_71 : decode cL_law 71 = .ok (.iconst 1, 1) := by decide +kernel
theorem dL_law_72 : decode cL_law 72 = .ok (.aload_n 0, 1) := by decide +kernel
theorem dL_law_73 : decode cL_law 73 = .ok (.bipush 52, 2) := by decide +kernel
theorem dL_law_75 : decode cL_law 75 = .ok (.invokestatic 53, 3) := by decide +kernel
theorem dL_law_78 : decode cL_law 78 = .ok (.bipush 30, 2) := by decide +kernel
theorem dL_law_80 : decode cL_law 80 = .ok (.invokestatic 9, 3) := by decide +kernel
theorem dL_law_83 : decode cL_law 83 = .ok (.iadd, 1) := by decide +kernel
theorem dL_law_84 : decode cL_law 84 = .ok (.iconst 1, 1) := by decide +kernel
theorem dL_law_85 : decode cL_law 85 = .ok (.aload_n 0, 1) := by decide +kernel
theorem dL_law_86 : decode cL_law 86 = .ok (.bipush 53, 2) := by decide +kernel
theorem dL_law_88 : decode cL_law 88 = .ok (.invokestatic 53, 3) := by decide +kernel
theorem dL_law_91 : decode cL_law 91 = .ok (.bipush 30, 2) := by decide +kernel
theorem dL_law_93 : decode cL_law 93 = .ok (.invokestatic 9, 3) := by decide +kernel
theorem dL_law_96 : decode cL_law 96 = .ok (.iadd, 1) := by decide +kernel
theorem dL_law_97 : decode cL_law 97 = .ok (.invokestatic 65, 3) := by decide +kernel
theorem dL_law_100 : decode cL_law 100 = .ok (.ifCond .eq 7, 3) := by decide +kernel
theorem dL_law_103 : decode cL_law 103 = .ok (.iconst 1, 1) := by decide +kernel
theorem dL_law_104 : decode cL_law 104 = .ok (.goto 4, 3) := by decide +kernel
theorem dL_law_107 : decode cL_law 107 = .ok (.iconst 0, 1) := by decide +kernel
theorem dL_law_108 : decode cL_law 108 = .ok (.ireturn, 1) := by decide +kernel
end
section
/-! worlds by code numbers: cell i stands at the address ad i and holds f i -/
def wl (N : Nat) (ad : Nat → Nat) (f : Nat → va_E) : va_W := (List.range N).map (fun i => (ad i, f i))
theorem wl_get {N : Nat} {ad : Nat → Nat} {f : Nat → va_E} {i : Nat} (h : i < N) : (wl N ad f)[i]? = some (ad i, f i) := by simp [wl, h]
theorem wl_set {N : Nat} {ad : Nat → Nat} {f : Nat → va_E} {i : Nat} {e : va_E} (h : i < N) : (wl N ad f).set i (ad i, e) = wl N ad (va_up f i e) := by
  apply List.ext_getElem?
  intro k
  rw [List.getElem?_set]
  by_cases hk : i = k
  · subst hk
    simp [wl, h, va_up]
  · simp only [hk, if_false]
    by_cases hN : k < N
    · rw [wl_get hN, wl_get hN]
      simp [va_up, Ne.symm hk]
    · simp [wl, hN]
theorem wl_push {N : Nat} {ad : Nat → Nat} {f : Nat → va_E} {q : Nat} {e : va_E} : wl N ad f ++ [(q, e)] = wl (N + 1) (va_up ad N q) (va_up f N e) := by
  unfold wl
  rw [List.range_succ, List.map_append]
  congr 1
  · apply List.map_congr_left
    intro i hi
    have h := List.mem_range.mp hi
    have h2 : i ≠ N := by omega
    simp [va_up, h2]
  · simp [va_up]
def ix (i : Int32) (k n : Nat) : Prop := vp_in i n ∧ i.toNatClampNeg = k
theorem ix_nI {j n : Nat} (h : j < n) (hn : n < 2 ^ 31) : ix (nI j) j n := ⟨vp_in_nI h hn, nI_clamp (Nat.lt_trans h hn)⟩
theorem ix_of {i : Int32} {j n : Nat} (e : i = nI j) (h : j < n) (hn : n < 2 ^ 31) : ix i j n := by rw [e]; exact ix_nI h hn
theorem ix_c {i : Int32} {k n : Nat} (h : (decide (¬ (i < 0 ∨ n ≤ i.toNatClampNeg)) && decide (i.toNatClampNeg = k)) = true) : ix i k n := by
  simp only [Bool.and_eq_true, decide_eq_true_eq] at h
  exact h
/-! what is the same all along: the classes' numbers and slots, the array classes, where the law's own cells begin, the static arrays -/
abbrev GE : Type := va_G × (Nat → ClassId) × Nat × (Nat → Nat)
def gT (g : GE) : List (ClassId × FieldType) := [(g.2.1 0, .int), (g.2.1 1, .char), (g.2.1 2, .boolean), (g.2.1 3, .object RX0), (g.2.1 4, .object RX1)]
def gA (g : GE) : Nat → Prop := fun q => g.2.2.1 ≤ q
def lstA (l : List Int32) : Nat → Int32 := fun j => l.getD j 0
def SF1 (g : GE) (k : Nat) (C n : String) (N : Nat) (l : List Int32) (U : State) : Prop := va_Z C n "[I" (.ref (g.2.2.2 k)) (gA g) U U.heap ∧ va_T .int (g.2.2.2 k) N (fun j => .int (lstA l j)) (gA g) U U.heap
def SF (g : GE) (U : State) : Prop := SF1 g 0 RX0 "LOWEST" 8 [0, 0, 0, 0, 1, 1, 0, 0] U ∧ SF1 g 1 RX0 "HIGHEST" 8 [9, 5, 5, 20, 20, 60, 9, 9] U ∧ SF1 g 2 RX0 "AT_FIRST" 8 [3, 2, 2, 4, 6, 20, 1, 2] U ∧ SF1 g 3 RX4 "FORESEEN" 6 [3, 4, 5, 9, 6, 7] U ∧ ∃ cell : Cell, U.heap[g.2.2.2 2]? = some cell ∧ cell.vm.isStatics = false ∧ cell.vm ≠ .unknown ∧ ({ cls := cell.cls, slots := cell.slots } : Cell) = vp_cell (g.2.1 0) (8, .inl (lstA [3, 2, 2, 4, 6, 20, 1, 2]))
def NF (U : State) : Prop := va_Nw (.methodLinkNest RX0 44 yX1_init "BeltMarks") U ∧ va_Nw (.methodLinkNest RX4 36 yX3_init "BeltMarks") U ∧ va_Nw (.castable "[I" "java/lang/Cloneable") U ∧ va_AO RX0 U ∧ va_AO RX1 U
theorem SF1.go {g : GE} {k : Nat} {C n : String} {N : Nat} {l : List Int32} {u U : State} (h : SF1 g k C n N l u) (hvm : u.vm.Alike U.vm) (hq : ∀ a : Nat, a < u.heap.size → ¬ gA g a → U.heap[a]? = u.heap[a]?) : SF1 g k C n N l U := ⟨(h.1.kept hq).moved hvm, (h.2.kept hq).moved hvm⟩
theorem SF.go {g : GE} {u U : State} (h : SF g u) (hvm : u.vm.Alike U.vm) (hq : ∀ a : Nat, a < u.heap.size → ¬ gA g a → U.heap[a]? = u.heap[a]?) : SF g U := by
  refine ⟨h.1.go hvm hq, h.2.1.go hvm hq, h.2.2.1.go hvm hq, h.2.2.2.1.go hvm hq, ?_⟩
  obtain ⟨cell, h1, h2, h3, h4, h5, h6, h7⟩ := h.2.2.1.2
  obtain ⟨cell2, k1, k2⟩ := h.2.2.2.2
  exact ⟨cell2, (hq _ (Array.getElem?_eq_some_iff.mp h1).1 h7).trans k1, k2⟩
/-- what holds of a world at a call, and behind it -/
def WC (g : GE) (N : Nat) (ad : Nat → Nat) (f : Nat → va_E) (U : State) : Prop := va_P g.1 vwCl (wl N ad f) U.heap ∧ va_K g.1 vwCl (gT g) U ∧ va_D (gA g) (wl N ad f) ∧ g.2.2.1 ≤ U.heap.size ∧ SF g U ∧ NF U
def Qg (g : GE) (post : Option Value → Nat → (Nat → Nat) → (Nat → va_E) → Prop) : Array Value → State → Outcome → State → Prop := fun _ st o t => (∃ (r : Option Value) (N' : Nat) (ad' : Nat → Nat) (u : Nat → va_E), o = .returned r ∧ post r N' ad' u ∧ va_P g.1 vwCl (wl N' ad' u) t.heap ∧ va_D (gA g) (wl N' ad' u)) ∧ va_F (gA g) st t
/-- a method's contract -/
def Ct (g : GE) (l : Launch) (y : MethodName) (ws : List Cond) (rm : Room) (N : Nat) (ad : Nat → Nat) (av : List Value) (f : Nat → va_E) (post : Option Value → Nat → (Nat → Nat) → (Nat → va_E) → Prop) (mc ms : Nat) : Prop := Met l y ws rm (va_Pc av (WC g N ad f)) (Qg g post) mc ms (gA g)
def pI (N : Nat) (ad : Nat → Nat) (P : Int32 → (Nat → va_E) → Prop) : Option Value → Nat → (Nat → Nat) → (Nat → va_E) → Prop := fun r N' ad' u => N' = N ∧ ad' = ad ∧ ∃ x, r = some (.int x) ∧ P x u
def pV (N : Nat) (ad : Nat → Nat) (P : (Nat → va_E) → Prop) : Option Value → Nat → (Nat → Nat) → (Nat → va_E) → Prop := fun r N' ad' u => N' = N ∧ ad' = ad ∧ r = none ∧ P u
def pR (N : Nat) (ad : Nat → Nat) (P : Nat → (Nat → va_E) → Prop) : Option Value → Nat → (Nat → Nat) → (Nat → va_E) → Prop := fun r N' ad' u => N' = N ∧ ad' = ad ∧ ∃ a, r = some (.ref a) ∧ P a u
/-! the judgement -/
abbrev EV : Type := Program × Launch × Env × Room × State × MethodId × Array Value × List Frame × Method × Code × Nat × (State → Prop)
abbrev eP (E : EV) : Program := E.1
abbrev eL (E : EV) : Launch := E.2.1
abbrev eE (E : EV) : Env := E.2.2.1
abbrev eR (E : EV) : Room := E.2.2.2.1
abbrev eS (E : EV) : State := E.2.2.2.2.1
abbrev eM (E : EV) : MethodId := E.2.2.2.2.2.1
abbrev eA (E : EV) : Array Value := E.2.2.2.2.2.2.1
abbrev eB (E : EV) : List Frame := E.2.2.2.2.2.2.2.1
abbrev eH (E : EV) : Method := E.2.2.2.2.2.2.2.2.1
abbrev eC (E : EV) : Code := E.2.2.2.2.2.2.2.2.2.1
abbrev eN (E : EV) : Nat := E.2.2.2.2.2.2.2.2.2.2.1
abbrev eQ (E : EV) : State → Prop := E.2.2.2.2.2.2.2.2.2.2.2
def lvo : Nat → List (Option Value) → List (Nat × Value)
  | _, [] => []
  | i, none :: t => lvo (i + 1) t
  | i, some v :: t => (i, v) :: lvo (i + 1) t
theorem lvo_mem : ∀ (lo : List (Option Value)) (b i : Nat) (v : Value), (i, v) ∈ lvo b lo ↔ ∃ j, i = b + j ∧ lo[j]? = some (some v)
  | [], b, i, v => by simp [lvo]
  | none :: t, b, i, v => by
    rw [lvo, lvo_mem t (b + 1) i v]
    constructor
    · rintro ⟨j, h1, h2⟩
      exact ⟨j + 1, by omega, by simpa using h2⟩
    · rintro ⟨j, h1, h2⟩
      cases j with
      | zero => simp at h2
      | succ j => exact ⟨j, by omega, by simpa using h2⟩
  | some w :: t, b, i, v => by
    rw [lvo, List.mem_cons, lvo_mem t (b + 1) i v]
    constructor
    · rintro (h | ⟨j, h1, h2⟩)
      · cases h
        exact ⟨0, by omega, by simp⟩
      · exact ⟨j + 1, by omega, by simpa using h2⟩
    · rintro ⟨j, h1, h2⟩
      cases j with
      | zero =>
        simp at h2
        exact Or.inl (by rw [h1, h2]; rfl)
      | succ j => exact Or.inr ⟨j, by omega, by simpa using h2⟩
def V (E : EV) (g : GE) (N : Nat) (ad : Nat → Nat) (ce sl : Nat) (f : Nat → va_E) (pc : Nat) (lo : List (Option Value)) (st : List Value) : Prop :=
  ∀ (H : Heap) (locs : List Loc) (ls : Array Slot), va_P g.1 vwCl (wl N ad f) H → va_D (gA g) (wl N ad f) → va_S (gA g) (eS E).heap H locs → lv_has ls (eN E) (lvo 0 lo) → W (eP E) (eL E) (eE E) (eR E) (eS E) (eM E) (eA E) (eB E) (eH E) (eC E) H locs ce sl (eQ E) (F0 (eM E) pc ls st)
def CX (E : EV) (g : GE) (cc : ByteArray) (Ts : List Cond) (own : String) (rm : Room) : Prop :=
  (eP E).tables.exec = Jvm.exec ∧ (eC E).code = cc ∧ (eC E).maxLocals = eN E ∧ (eS E).vm.findClass own = some (eM E).cls ∧ (∀ w ∈ Ts, w.before (eA E) (eS E) = true) ∧ va_K g.1 vwCl (gT g) (eS E) ∧ g.2.2.1 ≤ (eS E).heap.size ∧ SF g (eS E) ∧ NF (eS E) ∧ eR E = rm
def RT (E : EV) (g : GE) (mc ms : Nat) (ret : Option FieldType) (post : Option Value → Nat → (Nat → Nat) → (Nat → va_E) → Prop) : Prop := (eH E).sig.returnType = ret ∧ (eH E).locks = false ∧ eQ E = MQ (eB E) (Qg g post) (eA E) (eS E) mc ms (gA g)
theorem lvo_at {ls : Array Slot} {nL : Nat} {lo : List (Option Value)} (h : lv_has ls nL (lvo 0 lo)) {i : Nat} {v : Value} (hk : lo[i]? = some (some v)) : ls[i]? = some (.val v) := h.2.2 (i, v) ((lvo_mem lo 0 i v).mpr ⟨i, by omega, hk⟩)
def c1 : Option Value → Bool
  | none => true
  | some v => v.category == 1
/-- a store of one word, over the list of locals -/
theorem lvo_put {ls : Array Slot} {nL : Nat} {lo : List (Option Value)} (h : lv_has ls nL (lvo 0 lo)) (i : Nat) (v : Value) (hp : ∀ v', i ≠ 0 → lo[i - 1]? = some (some v') → v'.category = 1) : ∀ q ∈ lvo 0 (lo.set i (some v)), q ∈ (i, v) :: (lvo 0 lo).filter (fun q => !(q.1 == i) && !(q.1 + 1 == i && q.2.category == 2)) := by
  rintro ⟨j, w⟩ hq
  obtain ⟨j', h1, h2⟩ := (lvo_mem _ _ _ _).mp hq
  have hj : j' = j := by omega
  subst hj
  rw [List.getElem?_set] at h2
  by_cases hij : i = j'
  · subst hij
    rw [if_pos rfl] at h2
    split at h2
    · cases h2
      exact List.mem_cons_self
    · cases h2
  · rw [if_neg hij] at h2
    refine List.mem_cons_of_mem _ (List.mem_filter.mpr ⟨(lvo_mem _ _ _ _).mpr ⟨j', h1, h2⟩, ?_⟩)
    have h3 : (j' == i) = false := by simp; omega
    simp only [h3, Bool.not_false, Bool.true_and]
    by_cases h4 : j' + 1 = i
    · have h5 := hp w (by omega) (by rw [← h4]; exact h2)
      simp [h5]
    · simp [h4]
theorem lvo_sub {ls : Array Slot} {nL : Nat} {l l' : List (Nat × Value)} (h : lv_has ls nL l) (hs : ∀ q ∈ l', q ∈ l) : lv_has ls nL l' := ⟨h.1, h.2.1, fun q hq => h.2.2 q (hs q hq)⟩
section
variable {E : EV} {g : GE} {N : Nat} {ad : Nat → Nat} {ce sl : Nat} {f : Nat → va_E} {pc : Nat} {lo : List (Option Value)} {st : List Value} {cc : ByteArray} {Ts : List Cond} {own : String} {rm : Room}
theorem V_iconst (hC : CX E g cc Ts own rm) (v : Int32) {n : Int} (hd : decode cc pc = .ok (.iconst n, 1)) (hv : Int32.ofInt n = v) (k : V E g N ad ce sl f (pc + 1) lo (.int v :: st)) : V E g N ad ce sl f pc lo st := by
  intro H locs ls hP hD hS hl
  exact lv_iconst hC.1 hC.2.1 hd hv (k H locs ls hP hD hS hl)
theorem V_bipush (hC : CX E g cc Ts own rm) (v : Int32) {n : Int} (hd : decode cc pc = .ok (.bipush n, 2)) (hv : (Int8.ofInt n).toInt32 = v) (k : V E g N ad ce sl f (pc + 2) lo (.int v :: st)) : V E g N ad ce sl f pc lo st := by
  intro H locs ls hP hD hS hl
  exact lv_bipush hC.1 hC.2.1 hd hv (k H locs ls hP hD hS hl)
theorem V_sipush (hC : CX E g cc Ts own rm) (v : Int32) {n : Int} (hd : decode cc pc = .ok (.sipush n, 3)) (hv : (Int16.ofInt n).toInt32 = v) (k : V E g N ad ce sl f (pc + 3) lo (.int v :: st)) : V E g N ad ce sl f pc lo st := by
  intro H locs ls hP hD hS hl
  exact lv_sipush hC.1 hC.2.1 hd hv (k H locs ls hP hD hS hl)
theorem V_lconst (hC : CX E g cc Ts own rm) (v : Int64) {n : Fin 2} (hd : decode cc pc = .ok (.lconst n, 1)) (hv : Int64.ofNat (n : Nat) = v) (k : V E g N ad ce sl f (pc + 1) lo (.long v :: st)) : V E g N ad ce sl f pc lo st := by
  intro H locs ls hP hD hS hl
  exact lv_lconst hC.1 hC.2.1 hd hv (k H locs ls hP hD hS hl)
theorem V_iadd (hC : CX E g cc Ts own rm) {x y : Int32} (hd : decode cc pc = .ok (.iadd, 1))  (k : V E g N ad ce sl f (pc + 1) lo (.int (x + y) :: st)) : V E g N ad ce sl f pc lo (.int y :: .int x :: st) := by
  intro H locs ls hP hD hS hl
  exact lv_iadd hC.1 hC.2.1 hd (k H locs ls hP hD hS hl)
theorem V_isub (hC : CX E g cc Ts own rm) {x y : Int32} (hd : decode cc pc = .ok (.isub, 1))  (k : V E g N ad ce sl f (pc + 1) lo (.int (x - y) :: st)) : V E g N ad ce sl f pc lo (.int y :: .int x :: st) := by
  intro H locs ls hP hD hS hl
  exact lv_isub hC.1 hC.2.1 hd (k H locs ls hP hD hS hl)
theorem V_imul (hC : CX E g cc Ts own rm) {x y : Int32} (hd : decode cc pc = .ok (.imul, 1))  (k : V E g N ad ce sl f (pc + 1) lo (.int (x * y) :: st)) : V E g N ad ce sl f pc lo (.int y :: .int x :: st) := by
  intro H locs ls hP hD hS hl
  exact lv_imul hC.1 hC.2.1 hd (k H locs ls hP hD hS hl)
theorem V_iand (hC : CX E g cc Ts own rm) {x y : Int32} (hd : decode cc pc = .ok (.iand, 1))  (k : V E g N ad ce sl f (pc + 1) lo (.int (x &&& y) :: st)) : V E g N ad ce sl f pc lo (.int y :: .int x :: st) := by
  intro H locs ls hP hD hS hl
  exact lv_iand hC.1 hC.2.1 hd (k H locs ls hP hD hS hl)
theorem V_ixor (hC : CX E g cc Ts own rm) {x y : Int32} (hd : decode cc pc = .ok (.ixor, 1))  (k : V E g N ad ce sl f (pc + 1) lo (.int (x ^^^ y) :: st)) : V E g N ad ce sl f pc lo (.int y :: .int x :: st) := by
  intro H locs ls hP hD hS hl
  exact lv_ixor hC.1 hC.2.1 hd (k H locs ls hP hD hS hl)
theorem V_ineg (hC : CX E g cc Ts own rm) {x : Int32} (hd : decode cc pc = .ok (.ineg, 1))  (k : V E g N ad ce sl f (pc + 1) lo (.int (-x) :: st)) : V E g N ad ce sl f pc lo (.int x :: st) := by
  intro H locs ls hP hD hS hl
  exact lv_ineg hC.1 hC.2.1 hd (k H locs ls hP hD hS hl)
theorem V_land (hC : CX E g cc Ts own rm) {x y : Int64} (hd : decode cc pc = .ok (.land, 1))  (k : V E g N ad ce sl f (pc + 1) lo (.long (x &&& y) :: st)) : V E g N ad ce sl f pc lo (.long y :: .long x :: st) := by
  intro H locs ls hP hD hS hl
  exact lv_land hC.1 hC.2.1 hd (k H locs ls hP hD hS hl)
theorem V_lor (hC : CX E g cc Ts own rm) {x y : Int64} (hd : decode cc pc = .ok (.lor, 1))  (k : V E g N ad ce sl f (pc + 1) lo (.long (x ||| y) :: st)) : V E g N ad ce sl f pc lo (.long y :: .long x :: st) := by
  intro H locs ls hP hD hS hl
  exact lv_lor hC.1 hC.2.1 hd (k H locs ls hP hD hS hl)
theorem V_lsub (hC : CX E g cc Ts own rm) {x y : Int64} (hd : decode cc pc = .ok (.lsub, 1))  (k : V E g N ad ce sl f (pc + 1) lo (.long (x - y) :: st)) : V E g N ad ce sl f pc lo (.long y :: .long x :: st) := by
  intro H locs ls hP hD hS hl
  exact lv_lsub hC.1 hC.2.1 hd (k H locs ls hP hD hS hl)
theorem V_i2l (hC : CX E g cc Ts own rm) {x : Int32} (hd : decode cc pc = .ok (.i2l, 1))  (k : V E g N ad ce sl f (pc + 1) lo (.long x.toInt64 :: st)) : V E g N ad ce sl f pc lo (.int x :: st) := by
  intro H locs ls hP hD hS hl
  exact lv_i2l hC.1 hC.2.1 hd rfl (k H locs ls hP hD hS hl)
theorem V_l2i (hC : CX E g cc Ts own rm) {x : Int64} (hd : decode cc pc = .ok (.l2i, 1))  (k : V E g N ad ce sl f (pc + 1) lo (.int x.toInt32 :: st)) : V E g N ad ce sl f pc lo (.long x :: st) := by
  intro H locs ls hP hD hS hl
  exact lv_l2i hC.1 hC.2.1 hd rfl (k H locs ls hP hD hS hl)
theorem V_i2c (hC : CX E g cc Ts own rm) {x : Int32} (hd : decode cc pc = .ok (.i2c, 1))  (k : V E g N ad ce sl f (pc + 1) lo (.int (x.toUInt32 % 65536).toInt32 :: st)) : V E g N ad ce sl f pc lo (.int x :: st) := by
  intro H locs ls hP hD hS hl
  exact lv_i2c hC.1 hC.2.1 hd rfl (k H locs ls hP hD hS hl)
theorem V_lushr (hC : CX E g cc Ts own rm) {x : Int64} {y : Int32} (hd : decode cc pc = .ok (.lushr, 1))  (k : V E g N ad ce sl f (pc + 1) lo (.long (x.toUInt64 >>> (y.toInt64.toUInt64 &&& Int64.toUInt64 63)).toInt64 :: st)) : V E g N ad ce sl f pc lo (.int y :: .long x :: st) := by
  intro H locs ls hP hD hS hl
  exact lv_lushr hC.1 hC.2.1 hd rfl (k H locs ls hP hD hS hl)
theorem V_lshl (hC : CX E g cc Ts own rm) {x : Int64} {y : Int32} (hd : decode cc pc = .ok (.lshl, 1))  (k : V E g N ad ce sl f (pc + 1) lo (.long (x <<< (y.toInt64 &&& 63)) :: st)) : V E g N ad ce sl f pc lo (.int y :: .long x :: st) := by
  intro H locs ls hP hD hS hl
  exact lv_lshl hC.1 hC.2.1 hd rfl (k H locs ls hP hD hS hl)
theorem V_lcmp (hC : CX E g cc Ts own rm) {x y : Int64} (hd : decode cc pc = .ok (.lcmp, 1))  (k : V E g N ad ce sl f (pc + 1) lo (.int (lg_cmp x y) :: st)) : V E g N ad ce sl f pc lo (.long y :: .long x :: st) := by
  intro H locs ls hP hD hS hl
  exact W.lcmp hC.1 hC.2.1 hd (k H locs ls hP hD hS hl)
theorem V_idiv (hC : CX E g cc Ts own rm) {x y : Int32} (hd : decode cc pc = .ok (.idiv, 1)) (hne : ¬ y = 0) (k : V E g N ad ce sl f (pc + 1) lo (.int (x / y) :: st)) : V E g N ad ce sl f pc lo (.int y :: .int x :: st) := by
  intro H locs ls hP hD hS hl
  exact lv_idiv hC.1 hC.2.1 hd hne (k H locs ls hP hD hS hl)
theorem V_irem (hC : CX E g cc Ts own rm) {x y : Int32} (hd : decode cc pc = .ok (.irem, 1)) (hne : ¬ y = 0) (k : V E g N ad ce sl f (pc + 1) lo (.int (x - x / y * y) :: st)) : V E g N ad ce sl f pc lo (.int y :: .int x :: st) := by
  intro H locs ls hP hD hS hl
  exact lv_irem hC.1 hC.2.1 hd hne (k H locs ls hP hD hS hl)
theorem V_dup (hC : CX E g cc Ts own rm) {a : Value} (hd : decode cc pc = .ok (.dup, 1)) (ha : a.category = 1) (k : V E g N ad ce sl f (pc + 1) lo (a :: a :: st)) : V E g N ad ce sl f pc lo (a :: st) := by
  intro H locs ls hP hD hS hl
  exact lv_dup hC.1 hC.2.1 hd ha (k H locs ls hP hD hS hl)
theorem V_dup_x1 (hC : CX E g cc Ts own rm) {a b : Value} (hd : decode cc pc = .ok (.dup_x1, 1)) (ha : a.category = 1) (hb : b.category = 1) (k : V E g N ad ce sl f (pc + 1) lo (a :: b :: a :: st)) : V E g N ad ce sl f pc lo (a :: b :: st) := by
  intro H locs ls hP hD hS hl
  exact lv_dup_x1 hC.1 hC.2.1 hd ha hb (k H locs ls hP hD hS hl)
theorem V_dup2 (hC : CX E g cc Ts own rm) {a b : Value} (hd : decode cc pc = .ok (.dup2, 1)) (ha : a.category = 1) (hb : b.category = 1) (k : V E g N ad ce sl f (pc + 1) lo (a :: b :: a :: b :: st)) : V E g N ad ce sl f pc lo (a :: b :: st) := by
  intro H locs ls hP hD hS hl
  exact lv_dup2_11 hC.1 hC.2.1 hd ha hb (k H locs ls hP hD hS hl)
theorem V_pop (hC : CX E g cc Ts own rm) {a : Value} (hd : decode cc pc = .ok (.pop, 1)) (ha : a.category = 1) (k : V E g N ad ce sl f (pc + 1) lo (st)) : V E g N ad ce sl f pc lo (a :: st) := by
  intro H locs ls hP hD hS hl
  exact lv_pop hC.1 hC.2.1 hd ha (k H locs ls hP hD hS hl)
theorem V_iload_n (hC : CX E g cc Ts own rm) {k : Fin 4} {i : Nat} {x : Int32} (hd : decode cc pc = .ok (.iload_n k, 1)) (hi : (k : Nat) = i) (hv : lo[i]? = some (some (.int x))) (kk : V E g N ad ce sl f (pc + 1) lo (.int x :: st)) : V E g N ad ce sl f pc lo st := by
  intro H locs ls hP hD hS hl
  exact lv_iload_n hC.1 hC.2.1 hd hi (lvo_at hl hv) (kk H locs ls hP hD hS hl)
theorem V_iload (hC : CX E g cc Ts own rm) {i : Nat} {x : Int32} (hd : decode cc pc = .ok (.iload i, 2)) (hv : lo[i]? = some (some (.int x))) (kk : V E g N ad ce sl f (pc + 2) lo (.int x :: st)) : V E g N ad ce sl f pc lo st := by
  intro H locs ls hP hD hS hl
  exact lv_iload hC.1 hC.2.1 hd (lvo_at hl hv) (kk H locs ls hP hD hS hl)
theorem V_lload_n (hC : CX E g cc Ts own rm) {k : Fin 4} {i : Nat} {x : Int64} (hd : decode cc pc = .ok (.lload_n k, 1)) (hi : (k : Nat) = i) (hv : lo[i]? = some (some (.long x))) (kk : V E g N ad ce sl f (pc + 1) lo (.long x :: st)) : V E g N ad ce sl f pc lo st := by
  intro H locs ls hP hD hS hl
  exact lv_lload_n hC.1 hC.2.1 hd hi (lvo_at hl hv) (kk H locs ls hP hD hS hl)
theorem V_lload (hC : CX E g cc Ts own rm) {i : Nat} {x : Int64} (hd : decode cc pc = .ok (.lload i, 2)) (hv : lo[i]? = some (some (.long x))) (kk : V E g N ad ce sl f (pc + 2) lo (.long x :: st)) : V E g N ad ce sl f pc lo st := by
  intro H locs ls hP hD hS hl
  exact lv_lload hC.1 hC.2.1 hd (lvo_at hl hv) (kk H locs ls hP hD hS hl)
theorem V_aload_n (hC : CX E g cc Ts own rm) {k : Fin 4} {i : Nat} {x : Nat} (hd : decode cc pc = .ok (.aload_n k, 1)) (hi : (k : Nat) = i) (hv : lo[i]? = some (some (.ref x))) (kk : V E g N ad ce sl f (pc + 1) lo (.ref x :: st)) : V E g N ad ce sl f pc lo st := by
  intro H locs ls hP hD hS hl
  exact lv_aload_n hC.1 hC.2.1 hd hi (lvo_at hl hv) (kk H locs ls hP hD hS hl)
theorem V_aload (hC : CX E g cc Ts own rm) {i : Nat} {x : Nat} (hd : decode cc pc = .ok (.aload i, 2)) (hv : lo[i]? = some (some (.ref x))) (kk : V E g N ad ce sl f (pc + 2) lo (.ref x :: st)) : V E g N ad ce sl f pc lo st := by
  intro H locs ls hP hD hS hl
  exact lv_aload hC.1 hC.2.1 hd (lvo_at hl hv) (kk H locs ls hP hD hS hl)
theorem V_istore_n0 (hC : CX E g cc Ts own rm) {x : Int32} {v0 : Option Value} {t : List (Option Value)} {k : Fin 4} (hd : decode cc pc = .ok (.istore_n k, 1)) (hk : (k : Nat) = 0) (hn : 0 < eN E)  (kk : V E g N ad ce sl f (pc + 1) (some (.int x) :: t) st) : V E g N ad ce sl f pc (v0 :: t) (.int x :: st) := by
  intro H locs ls hP hD hS hl
  exact lv_istore_n hC.1 hC.2.1 hd hk hl hn rfl (fun ls hl2 => kk H locs ls hP hD hS (lvo_sub hl2 (lvo_put hl 0 _ (fun v h0 _ => absurd rfl h0))))
theorem V_istore0 (hC : CX E g cc Ts own rm) {x : Int32} {v0 : Option Value} {t : List (Option Value)}  (hd : decode cc pc = .ok (.istore 0, 2))  (hn : 0 < eN E)  (kk : V E g N ad ce sl f (pc + 2) (some (.int x) :: t) st) : V E g N ad ce sl f pc (v0 :: t) (.int x :: st) := by
  intro H locs ls hP hD hS hl
  exact lv_istore hC.1 hC.2.1 hd  hl hn rfl (fun ls hl2 => kk H locs ls hP hD hS (lvo_sub hl2 (lvo_put hl 0 _ (fun v h0 _ => absurd rfl h0))))
theorem V_astore_n0 (hC : CX E g cc Ts own rm) {x : Nat} {v0 : Option Value} {t : List (Option Value)} {k : Fin 4} (hd : decode cc pc = .ok (.astore_n k, 1)) (hk : (k : Nat) = 0) (hn : 0 < eN E)  (kk : V E g N ad ce sl f (pc + 1) (some (.ref x) :: t) st) : V E g N ad ce sl f pc (v0 :: t) (.ref x :: st) := by
  intro H locs ls hP hD hS hl
  exact lv_astore_n hC.1 hC.2.1 hd hk hl hn rfl (fun ls hl2 => kk H locs ls hP hD hS (lvo_sub hl2 (lvo_put hl 0 _ (fun v h0 _ => absurd rfl h0))))
theorem V_astore0 (hC : CX E g cc Ts own rm) {x : Nat} {v0 : Option Value} {t : List (Option Value)}  (hd : decode cc pc = .ok (.astore 0, 2))  (hn : 0 < eN E)  (kk : V E g N ad ce sl f (pc + 2) (some (.ref x) :: t) st) : V E g N ad ce sl f pc (v0 :: t) (.ref x :: st) := by
  intro H locs ls hP hD hS hl
  exact lv_astore hC.1 hC.2.1 hd  hl hn rfl (fun ls hl2 => kk H locs ls hP hD hS (lvo_sub hl2 (lvo_put hl 0 _ (fun v h0 _ => absurd rfl h0))))
theorem V_iinc0 (hC : CX E g cc Ts own rm) {x : Int32} {z : Option Value} {t : List (Option Value)} {n : Int} (v : Int32) (hd : decode cc pc = .ok (.iinc 0 n, 3)) (hv : x + Int32.ofInt n = v) (hn : 0 < eN E)  (kk : V E g N ad ce sl f (pc + 3) (some (.int v) :: t) st) : V E g N ad ce sl f pc (some (.int x) :: t) st := by
  intro H locs ls hP hD hS hl
  obtain ⟨k, hk⟩ := List.getElem?_of_mem ((lvo_mem (some (.int x) :: t) 0 0 (.int x)).mpr ⟨0, by omega, rfl⟩)
  exact lv_iinc hC.1 hC.2.1 hd hl hk hv hn rfl (fun ls hl2 => kk H locs ls hP hD hS (lvo_sub hl2 (lvo_put hl 0 _ (fun v h0 _ => absurd rfl h0))))
theorem V_istore_n1 (hC : CX E g cc Ts own rm) {x : Int32} {v0 v1 : Option Value} {t : List (Option Value)} {k : Fin 4} (hd : decode cc pc = .ok (.istore_n k, 1)) (hk : (k : Nat) = 1) (hn : 1 < eN E) (hc : c1 v0 = true) (kk : V E g N ad ce sl f (pc + 1) (v0 :: some (.int x) :: t) st) : V E g N ad ce sl f pc (v0 :: v1 :: t) (.int x :: st) := by
  intro H locs ls hP hD hS hl
  exact lv_istore_n hC.1 hC.2.1 hd hk hl hn rfl (fun ls hl2 => kk H locs ls hP hD hS (lvo_sub hl2 (lvo_put hl 1 _ (fun v _ h => by have h : v0 = some v := (by simpa using h); subst h; simpa [c1] using hc))))
theorem V_istore1 (hC : CX E g cc Ts own rm) {x : Int32} {v0 v1 : Option Value} {t : List (Option Value)}  (hd : decode cc pc = .ok (.istore 1, 2))  (hn : 1 < eN E) (hc : c1 v0 = true) (kk : V E g N ad ce sl f (pc + 2) (v0 :: some (.int x) :: t) st) : V E g N ad ce sl f pc (v0 :: v1 :: t) (.int x :: st) := by
  intro H locs ls hP hD hS hl
  exact lv_istore hC.1 hC.2.1 hd  hl hn rfl (fun ls hl2 => kk H locs ls hP hD hS (lvo_sub hl2 (lvo_put hl 1 _ (fun v _ h => by have h : v0 = some v := (by simpa using h); subst h; simpa [c1] using hc))))
theorem V_astore_n1 (hC : CX E g cc Ts own rm) {x : Nat} {v0 v1 : Option Value} {t : List (Option Value)} {k : Fin 4} (hd : decode cc pc = .ok (.astore_n k, 1)) (hk : (k : Nat) = 1) (hn : 1 < eN E) (hc : c1 v0 = true) (kk : V E g N ad ce sl f (pc + 1) (v0 :: some (.ref x) :: t) st) : V E g N ad ce sl f pc (v0 :: v1 :: t) (.ref x :: st) := by
  intro H locs ls hP hD hS hl
  exact lv_astore_n hC.1 hC.2.1 hd hk hl hn rfl (fun ls hl2 => kk H locs ls hP hD hS (lvo_sub hl2 (lvo_put hl 1 _ (fun v _ h => by have h : v0 = some v := (by simpa using h); subst h; simpa [c1] using hc))))
theorem V_astore1 (hC : CX E g cc Ts own rm) {x : Nat} {v0 v1 : Option Value} {t : List (Option Value)}  (hd : decode cc pc = .ok (.astore 1, 2))  (hn : 1 < eN E) (hc : c1 v0 = true) (kk : V E g N ad ce sl f (pc + 2) (v0 :: some (.ref x) :: t) st) : V E g N ad ce sl f pc (v0 :: v1 :: t) (.ref x :: st) := by
  intro H locs ls hP hD hS hl
  exact lv_astore hC.1 hC.2.1 hd  hl hn rfl (fun ls hl2 => kk H locs ls hP hD hS (lvo_sub hl2 (lvo_put hl 1 _ (fun v _ h => by have h : v0 = some v := (by simpa using h); subst h; simpa [c1] using hc))))
theorem V_iinc1 (hC : CX E g cc Ts own rm) {x : Int32} {v0 : Option Value} {t : List (Option Value)} {n : Int} (v : Int32) (hd : decode cc pc = .ok (.iinc 1 n, 3)) (hv : x + Int32.ofInt n = v) (hn : 1 < eN E) (hc : c1 v0 = true) (kk : V E g N ad ce sl f (pc + 3) (v0 :: some (.int v) :: t) st) : V E g N ad ce sl f pc (v0 :: some (.int x) :: t) st := by
  intro H locs ls hP hD hS hl
  obtain ⟨k, hk⟩ := List.getElem?_of_mem ((lvo_mem (v0 :: some (.int x) :: t) 0 1 (.int x)).mpr ⟨1, by omega, rfl⟩)
  exact lv_iinc hC.1 hC.2.1 hd hl hk hv hn rfl (fun ls hl2 => kk H locs ls hP hD hS (lvo_sub hl2 (lvo_put hl 1 _ (fun v _ h => by have h : v0 = some v := (by simpa using h); subst h; simpa [c1] using hc))))
theorem V_istore_n2 (hC : CX E g cc Ts own rm) {x : Int32} {v0 v1 v2 : Option Value} {t : List (Option Value)} {k : Fin 4} (hd : decode cc pc = .ok (.istore_n k, 1)) (hk : (k : Nat) = 2) (hn : 2 < eN E) (hc : c1 v1 = true) (kk : V E g N ad ce sl f (pc + 1) (v0 :: v1 :: some (.int x) :: t) st) : V E g N ad ce sl f pc (v0 :: v1 :: v2 :: t) (.int x :: st) := by
  intro H locs ls hP hD hS hl
  exact lv_istore_n hC.1 hC.2.1 hd hk hl hn rfl (fun ls hl2 => kk H locs ls hP hD hS (lvo_sub hl2 (lvo_put hl 2 _ (fun v _ h => by have h : v1 = some v := (by simpa using h); subst h; simpa [c1] using hc))))
theorem V_istore2 (hC : CX E g cc Ts own rm) {x : Int32} {v0 v1 v2 : Option Value} {t : List (Option Value)}  (hd : decode cc pc = .ok (.istore 2, 2))  (hn : 2 < eN E) (hc : c1 v1 = true) (kk : V E g N ad ce sl f (pc + 2) (v0 :: v1 :: some (.int x) :: t) st) : V E g N ad ce sl f pc (v0 :: v1 :: v2 :: t) (.int x :: st) := by
  intro H locs ls hP hD hS hl
  exact lv_istore hC.1 hC.2.1 hd  hl hn rfl (fun ls hl2 => kk H locs ls hP hD hS (lvo_sub hl2 (lvo_put hl 2 _ (fun v _ h => by have h : v1 = some v := (by simpa using h); subst h; simpa [c1] using hc))))
theorem V_astore_n2 (hC : CX E g cc Ts own rm) {x : Nat} {v0 v1 v2 : Option Value} {t : List (Option Value)} {k : Fin 4} (hd : decode cc pc = .ok (.astore_n k, 1)) (hk : (k : Nat) = 2) (hn : 2 < eN E) (hc : c1 v1 = true) (kk : V E g N ad ce sl f (pc + 1) (v0 :: v1 :: some (.ref x) :: t) st) : V E g N ad ce sl f pc (v0 :: v1 :: v2 :: t) (.ref x :: st) := by
  intro H locs ls hP hD hS hl
  exact lv_astore_n hC.1 hC.2.1 hd hk hl hn rfl (fun ls hl2 => kk H locs ls hP hD hS (lvo_sub hl2 (lvo_put hl 2 _ (fun v _ h => by have h : v1 = some v := (by simpa using h); subst h; simpa [c1] using hc))))
theorem V_astore2 (hC : CX E g cc Ts own rm) {x : Nat} {v0 v1 v2 : Option Value} {t : List (Option Value)}  (hd : decode cc pc = .ok (.astore 2, 2))  (hn : 2 < eN E) (hc : c1 v1 = true) (kk : V E g N ad ce sl f (pc + 2) (v0 :: v1 :: some (.ref x) :: t) st) : V E g N ad ce sl f pc (v0 :: v1 :: v2 :: t) (.ref x :: st) := by
  intro H locs ls hP hD hS hl
  exact lv_astore hC.1 hC.2.1 hd  hl hn rfl (fun ls hl2 => kk H locs ls hP hD hS (lvo_sub hl2 (lvo_put hl 2 _ (fun v _ h => by have h : v1 = some v := (by simpa using h); subst h; simpa [c1] using hc))))
theorem V_iinc2 (hC : CX E g cc Ts own rm) {x : Int32} {v0 v1 : Option Value} {t : List (Option Value)} {n : Int} (v : Int32) (hd : decode cc pc = .ok (.iinc 2 n, 3)) (hv : x + Int32.ofInt n = v) (hn : 2 < eN E) (hc : c1 v1 = true) (kk : V E g N ad ce sl f (pc + 3) (v0 :: v1 :: some (.int v) :: t) st) : V E g N ad ce sl f pc (v0 :: v1 :: some (.int x) :: t) st := by
  intro H locs ls hP hD hS hl
  obtain ⟨k, hk⟩ := List.getElem?_of_mem ((lvo_mem (v0 :: v1 :: some (.int x) :: t) 0 2 (.int x)).mpr ⟨2, by omega, rfl⟩)
  exact lv_iinc hC.1 hC.2.1 hd hl hk hv hn rfl (fun ls hl2 => kk H locs ls hP hD hS (lvo_sub hl2 (lvo_put hl 2 _ (fun v _ h => by have h : v1 = some v := (by simpa using h); subst h; simpa [c1] using hc))))
theorem V_istore_n3 (hC : CX E g cc Ts own rm) {x : Int32} {v0 v1 v2 v3 : Option Value} {t : List (Option Value)} {k : Fin 4} (hd : decode cc pc = .ok (.istore_n k, 1)) (hk : (k : Nat) = 3) (hn : 3 < eN E) (hc : c1 v2 = true) (kk : V E g N ad ce sl f (pc + 1) (v0 :: v1 :: v2 :: some (.int x) :: t) st) : V E g N ad ce sl f pc (v0 :: v1 :: v2 :: v3 :: t) (.int x :: st) := by
  intro H locs ls hP hD hS hl
  exact lv_istore_n hC.1 hC.2.1 hd hk hl hn rfl (fun ls hl2 => kk H locs ls hP hD hS (lvo_sub hl2 (lvo_put hl 3 _ (fun v _ h => by have h : v2 = some v := (by simpa using h); subst h; simpa [c1] using hc))))
theorem V_istore3 (hC : CX E g cc Ts own rm) {x : Int32} {v0 v1 v2 v3 : Option Value} {t : List (Option Value)}  (hd : decode cc pc = .ok (.istore 3, 2))  (hn : 3 < eN E) (hc : c1 v2 = true) (kk : V E g N ad ce sl f (pc + 2) (v0 :: v1 :: v2 :: some (.int x) :: t) st) : V E g N ad ce sl f pc (v0 :: v1 :: v2 :: v3 :: t) (.int x :: st) := by
  intro H locs ls hP hD hS hl
  exact lv_istore hC.1 hC.2.1 hd  hl hn rfl (fun ls hl2 => kk H locs ls hP hD hS (lvo_sub hl2 (lvo_put hl 3 _ (fun v _ h => by have h : v2 = some v := (by simpa using h); subst h; simpa [c1] using hc))))
theorem V_astore_n3 (hC : CX E g cc Ts own rm) {x : Nat} {v0 v1 v2 v3 : Option Value} {t : List (Option Value)} {k : Fin 4} (hd : decode cc pc = .ok (.astore_n k, 1)) (hk : (k : Nat) = 3) (hn : 3 < eN E) (hc : c1 v2 = true) (kk : V E g N ad ce sl f (pc + 1) (v0 :: v1 :: v2 :: some (.ref x) :: t) st) : V E g N ad ce sl f pc (v0 :: v1 :: v2 :: v3 :: t) (.ref x :: st) := by
  intro H locs ls hP hD hS hl
  exact lv_astore_n hC.1 hC.2.1 hd hk hl hn rfl (fun ls hl2 => kk H locs ls hP hD hS (lvo_sub hl2 (lvo_put hl 3 _ (fun v _ h => by have h : v2 = some v := (by simpa using h); subst h; simpa [c1] using hc))))
theorem V_astore3 (hC : CX E g cc Ts own rm) {x : Nat} {v0 v1 v2 v3 : Option Value} {t : List (Option Value)}  (hd : decode cc pc = .ok (.astore 3, 2))  (hn : 3 < eN E) (hc : c1 v2 = true) (kk : V E g N ad ce sl f (pc + 2) (v0 :: v1 :: v2 :: some (.ref x) :: t) st) : V E g N ad ce sl f pc (v0 :: v1 :: v2 :: v3 :: t) (.ref x :: st) := by
  intro H locs ls hP hD hS hl
  exact lv_astore hC.1 hC.2.1 hd  hl hn rfl (fun ls hl2 => kk H locs ls hP hD hS (lvo_sub hl2 (lvo_put hl 3 _ (fun v _ h => by have h : v2 = some v := (by simpa using h); subst h; simpa [c1] using hc))))
theorem V_iinc3 (hC : CX E g cc Ts own rm) {x : Int32} {v0 v1 v2 : Option Value} {t : List (Option Value)} {n : Int} (v : Int32) (hd : decode cc pc = .ok (.iinc 3 n, 3)) (hv : x + Int32.ofInt n = v) (hn : 3 < eN E) (hc : c1 v2 = true) (kk : V E g N ad ce sl f (pc + 3) (v0 :: v1 :: v2 :: some (.int v) :: t) st) : V E g N ad ce sl f pc (v0 :: v1 :: v2 :: some (.int x) :: t) st := by
  intro H locs ls hP hD hS hl
  obtain ⟨k, hk⟩ := List.getElem?_of_mem ((lvo_mem (v0 :: v1 :: v2 :: some (.int x) :: t) 0 3 (.int x)).mpr ⟨3, by omega, rfl⟩)
  exact lv_iinc hC.1 hC.2.1 hd hl hk hv hn rfl (fun ls hl2 => kk H locs ls hP hD hS (lvo_sub hl2 (lvo_put hl 3 _ (fun v _ h => by have h : v2 = some v := (by simpa using h); subst h; simpa [c1] using hc))))
theorem V_istore4 (hC : CX E g cc Ts own rm) {x : Int32} {v0 v1 v2 v3 v4 : Option Value} {t : List (Option Value)}  (hd : decode cc pc = .ok (.istore 4, 2))  (hn : 4 < eN E) (hc : c1 v3 = true) (kk : V E g N ad ce sl f (pc + 2) (v0 :: v1 :: v2 :: v3 :: some (.int x) :: t) st) : V E g N ad ce sl f pc (v0 :: v1 :: v2 :: v3 :: v4 :: t) (.int x :: st) := by
  intro H locs ls hP hD hS hl
  exact lv_istore hC.1 hC.2.1 hd  hl hn rfl (fun ls hl2 => kk H locs ls hP hD hS (lvo_sub hl2 (lvo_put hl 4 _ (fun v _ h => by have h : v3 = some v := (by simpa using h); subst h; simpa [c1] using hc))))
theorem V_astore4 (hC : CX E g cc Ts own rm) {x : Nat} {v0 v1 v2 v3 v4 : Option Value} {t : List (Option Value)}  (hd : decode cc pc = .ok (.astore 4, 2))  (hn : 4 < eN E) (hc : c1 v3 = true) (kk : V E g N ad ce sl f (pc + 2) (v0 :: v1 :: v2 :: v3 :: some (.ref x) :: t) st) : V E g N ad ce sl f pc (v0 :: v1 :: v2 :: v3 :: v4 :: t) (.ref x :: st) := by
  intro H locs ls hP hD hS hl
  exact lv_astore hC.1 hC.2.1 hd  hl hn rfl (fun ls hl2 => kk H locs ls hP hD hS (lvo_sub hl2 (lvo_put hl 4 _ (fun v _ h => by have h : v3 = some v := (by simpa using h); subst h; simpa [c1] using hc))))
theorem V_iinc4 (hC : CX E g cc Ts own rm) {x : Int32} {v0 v1 v2 v3 : Option Value} {t : List (Option Value)} {n : Int} (v : Int32) (hd : decode cc pc = .ok (.iinc 4 n, 3)) (hv : x + Int32.ofInt n = v) (hn : 4 < eN E) (hc : c1 v3 = true) (kk : V E g N ad ce sl f (pc + 3) (v0 :: v1 :: v2 :: v3 :: some (.int v) :: t) st) : V E g N ad ce sl f pc (v0 :: v1 :: v2 :: v3 :: some (.int x) :: t) st := by
  intro H locs ls hP hD hS hl
  obtain ⟨k, hk⟩ := List.getElem?_of_mem ((lvo_mem (v0 :: v1 :: v2 :: v3 :: some (.int x) :: t) 0 4 (.int x)).mpr ⟨4, by omega, rfl⟩)
  exact lv_iinc hC.1 hC.2.1 hd hl hk hv hn rfl (fun ls hl2 => kk H locs ls hP hD hS (lvo_sub hl2 (lvo_put hl 4 _ (fun v _ h => by have h : v3 = some v := (by simpa using h); subst h; simpa [c1] using hc))))
theorem V_istore5 (hC : CX E g cc Ts own rm) {x : Int32} {v0 v1 v2 v3 v4 v5 : Option Value} {t : List (Option Value)}  (hd : decode cc pc = .ok (.istore 5, 2))  (hn : 5 < eN E) (hc : c1 v4 = true) (kk : V E g N ad ce sl f (pc + 2) (v0 :: v1 :: v2 :: v3 :: v4 :: some (.int x) :: t) st) : V E g N ad ce sl f pc (v0 :: v1 :: v2 :: v3 :: v4 :: v5 :: t) (.int x :: st) := by
  intro H locs ls hP hD hS hl
  exact lv_istore hC.1 hC.2.1 hd  hl hn rfl (fun ls hl2 => kk H locs ls hP hD hS (lvo_sub hl2 (lvo_put hl 5 _ (fun v _ h => by have h : v4 = some v := (by simpa using h); subst h; simpa [c1] using hc))))
theorem V_astore5 (hC : CX E g cc Ts own rm) {x : Nat} {v0 v1 v2 v3 v4 v5 : Option Value} {t : List (Option Value)}  (hd : decode cc pc = .ok (.astore 5, 2))  (hn : 5 < eN E) (hc : c1 v4 = true) (kk : V E g N ad ce sl f (pc + 2) (v0 :: v1 :: v2 :: v3 :: v4 :: some (.ref x) :: t) st) : V E g N ad ce sl f pc (v0 :: v1 :: v2 :: v3 :: v4 :: v5 :: t) (.ref x :: st) := by
  intro H locs ls hP hD hS hl
  exact lv_astore hC.1 hC.2.1 hd  hl hn rfl (fun ls hl2 => kk H locs ls hP hD hS (lvo_sub hl2 (lvo_put hl 5 _ (fun v _ h => by have h : v4 = some v := (by simpa using h); subst h; simpa [c1] using hc))))
theorem V_iinc5 (hC : CX E g cc Ts own rm) {x : Int32} {v0 v1 v2 v3 v4 : Option Value} {t : List (Option Value)} {n : Int} (v : Int32) (hd : decode cc pc = .ok (.iinc 5 n, 3)) (hv : x + Int32.ofInt n = v) (hn : 5 < eN E) (hc : c1 v4 = true) (kk : V E g N ad ce sl f (pc + 3) (v0 :: v1 :: v2 :: v3 :: v4 :: some (.int v) :: t) st) : V E g N ad ce sl f pc (v0 :: v1 :: v2 :: v3 :: v4 :: some (.int x) :: t) st := by
  intro H locs ls hP hD hS hl
  obtain ⟨k, hk⟩ := List.getElem?_of_mem ((lvo_mem (v0 :: v1 :: v2 :: v3 :: v4 :: some (.int x) :: t) 0 5 (.int x)).mpr ⟨5, by omega, rfl⟩)
  exact lv_iinc hC.1 hC.2.1 hd hl hk hv hn rfl (fun ls hl2 => kk H locs ls hP hD hS (lvo_sub hl2 (lvo_put hl 5 _ (fun v _ h => by have h : v4 = some v := (by simpa using h); subst h; simpa [c1] using hc))))
theorem V_istore6 (hC : CX E g cc Ts own rm) {x : Int32} {v0 v1 v2 v3 v4 v5 v6 : Option Value} {t : List (Option Value)}  (hd : decode cc pc = .ok (.istore 6, 2))  (hn : 6 < eN E) (hc : c1 v5 = true) (kk : V E g N ad ce sl f (pc + 2) (v0 :: v1 :: v2 :: v3 :: v4 :: v5 :: some (.int x) :: t) st) : V E g N ad ce sl f pc (v0 :: v1 :: v2 :: v3 :: v4 :: v5 :: v6 :: t) (.int x :: st) := by
  intro H locs ls hP hD hS hl
  exact lv_istore hC.1 hC.2.1 hd  hl hn rfl (fun ls hl2 => kk H locs ls hP hD hS (lvo_sub hl2 (lvo_put hl 6 _ (fun v _ h => by have h : v5 = some v := (by simpa using h); subst h; simpa [c1] using hc))))
theorem V_astore6 (hC : CX E g cc Ts own rm) {x : Nat} {v0 v1 v2 v3 v4 v5 v6 : Option Value} {t : List (Option Value)}  (hd : decode cc pc = .ok (.astore 6, 2))  (hn : 6 < eN E) (hc : c1 v5 = true) (kk : V E g N ad ce sl f (pc + 2) (v0 :: v1 :: v2 :: v3 :: v4 :: v5 :: some (.ref x) :: t) st) : V E g N ad ce sl f pc (v0 :: v1 :: v2 :: v3 :: v4 :: v5 :: v6 :: t) (.ref x :: st) := by
  intro H locs ls hP hD hS hl
  exact lv_astore hC.1 hC.2.1 hd  hl hn rfl (fun ls hl2 => kk H locs ls hP hD hS (lvo_sub hl2 (lvo_put hl 6 _ (fun v _ h => by have h : v5 = some v := (by simpa using h); subst h; simpa [c1] using hc))))
theorem V_iinc6 (hC : CX E g cc Ts own rm) {x : Int32} {v0 v1 v2 v3 v4 v5 : Option Value} {t : List (Option Value)} {n : Int} (v : Int32) (hd : decode cc pc = .ok (.iinc 6 n, 3)) (hv : x + Int32.ofInt n = v) (hn : 6 < eN E) (hc : c1 v5 = true) (kk : V E g N ad ce sl f (pc + 3) (v0 :: v1 :: v2 :: v3 :: v4 :: v5 :: some (.int v) :: t) st) : V E g N ad ce sl f pc (v0 :: v1 :: v2 :: v3 :: v4 :: v5 :: some (.int x) :: t) st := by
  intro H locs ls hP hD hS hl
  obtain ⟨k, hk⟩ := List.getElem?_of_mem ((lvo_mem (v0 :: v1 :: v2 :: v3 :: v4 :: v5 :: some (.int x) :: t) 0 6 (.int x)).mpr ⟨6, by omega, rfl⟩)
  exact lv_iinc hC.1 hC.2.1 hd hl hk hv hn rfl (fun ls hl2 => kk H locs ls hP hD hS (lvo_sub hl2 (lvo_put hl 6 _ (fun v _ h => by have h : v5 = some v := (by simpa using h); subst h; simpa [c1] using hc))))
theorem V_istore7 (hC : CX E g cc Ts own rm) {x : Int32} {v0 v1 v2 v3 v4 v5 v6 v7 : Option Value} {t : List (Option Value)}  (hd : decode cc pc = .ok (.istore 7, 2))  (hn : 7 < eN E) (hc : c1 v6 = true) (kk : V E g N ad ce sl f (pc + 2) (v0 :: v1 :: v2 :: v3 :: v4 :: v5 :: v6 :: some (.int x) :: t) st) : V E g N ad ce sl f pc (v0 :: v1 :: v2 :: v3 :: v4 :: v5 :: v6 :: v7 :: t) (.int x :: st) := by
  intro H locs ls hP hD hS hl
  exact lv_istore hC.1 hC.2.1 hd  hl hn rfl (fun ls hl2 => kk H locs ls hP hD hS (lvo_sub hl2 (lvo_put hl 7 _ (fun v _ h => by have h : v6 = some v := (by simpa using h); subst h; simpa [c1] using hc))))
theorem V_astore7 (hC : CX E g cc Ts own rm) {x : Nat} {v0 v1 v2 v3 v4 v5 v6 v7 : Option Value} {t : List (Option Value)}  (hd : decode cc pc = .ok (.astore 7, 2))  (hn : 7 < eN E) (hc : c1 v6 = true) (kk : V E g N ad ce sl f (pc + 2) (v0 :: v1 :: v2 :: v3 :: v4 :: v5 :: v6 :: some (.ref x) :: t) st) : V E g N ad ce sl f pc (v0 :: v1 :: v2 :: v3 :: v4 :: v5 :: v6 :: v7 :: t) (.ref x :: st) := by
  intro H locs ls hP hD hS hl
  exact lv_astore hC.1 hC.2.1 hd  hl hn rfl (fun ls hl2 => kk H locs ls hP hD hS (lvo_sub hl2 (lvo_put hl 7 _ (fun v _ h => by have h : v6 = some v := (by simpa using h); subst h; simpa [c1] using hc))))
theorem V_iinc7 (hC : CX E g cc Ts own rm) {x : Int32} {v0 v1 v2 v3 v4 v5 v6 : Option Value} {t : List (Option Value)} {n : Int} (v : Int32) (hd : decode cc pc = .ok (.iinc 7 n, 3)) (hv : x + Int32.ofInt n = v) (hn : 7 < eN E) (hc : c1 v6 = true) (kk : V E g N ad ce sl f (pc + 3) (v0 :: v1 :: v2 :: v3 :: v4 :: v5 :: v6 :: some (.int v) :: t) st) : V E g N ad ce sl f pc (v0 :: v1 :: v2 :: v3 :: v4 :: v5 :: v6 :: some (.int x) :: t) st := by
  intro H locs ls hP hD hS hl
  obtain ⟨k, hk⟩ := List.getElem?_of_mem ((lvo_mem (v0 :: v1 :: v2 :: v3 :: v4 :: v5 :: v6 :: some (.int x) :: t) 0 7 (.int x)).mpr ⟨7, by omega, rfl⟩)
  exact lv_iinc hC.1 hC.2.1 hd hl hk hv hn rfl (fun ls hl2 => kk H locs ls hP hD hS (lvo_sub hl2 (lvo_put hl 7 _ (fun v _ h => by have h : v6 = some v := (by simpa using h); subst h; simpa [c1] using hc))))
theorem V_if_eq (hC : CX E g cc Ts own rm) {x : Int32} {off : Int} (tgt : Nat) (hd : decode cc pc = .ok (.ifCond .eq off, 3)) (ht : (pc : Int) + off = (tgt : Int)) (kt : x = 0 → V E g N ad ce sl f tgt lo st) (kf : ¬ x = 0 → V E g N ad ce sl f (pc + 3) lo st) : V E g N ad ce sl f pc lo (.int x :: st) := by
  intro H locs ls hP hD hS hl
  exact lv_if_eq hC.1 hC.2.1 hd ht (fun h => kt h H locs ls hP hD hS hl) (fun h => kf h H locs ls hP hD hS hl)
theorem V_icmp_eq (hC : CX E g cc Ts own rm) {x y : Int32} {off : Int} (tgt : Nat) (hd : decode cc pc = .ok (.if_icmp .eq off, 3)) (ht : (pc : Int) + off = (tgt : Int)) (kt : x = y → V E g N ad ce sl f tgt lo st) (kf : ¬ x = y → V E g N ad ce sl f (pc + 3) lo st) : V E g N ad ce sl f pc lo (.int y :: .int x :: st) := by
  intro H locs ls hP hD hS hl
  exact lv_icmp_eq hC.1 hC.2.1 hd ht (fun h => kt h H locs ls hP hD hS hl) (fun h => kf h H locs ls hP hD hS hl)
theorem V_if_eq_t (hC : CX E g cc Ts own rm) {x : Int32} {off : Int} (tgt : Nat) (hd : decode cc pc = .ok (.ifCond .eq off, 3)) (ht : (pc : Int) + off = (tgt : Int)) (h : x = 0) (kt : V E g N ad ce sl f tgt lo st) : V E g N ad ce sl f pc lo (.int x :: st) := V_if_eq hC tgt hd ht (fun _ => kt) (fun q => absurd h (by first | exact q | exact fun z => z q))
theorem V_icmp_eq_t (hC : CX E g cc Ts own rm) {x y : Int32} {off : Int} (tgt : Nat) (hd : decode cc pc = .ok (.if_icmp .eq off, 3)) (ht : (pc : Int) + off = (tgt : Int)) (h : x = y) (kt : V E g N ad ce sl f tgt lo st) : V E g N ad ce sl f pc lo (.int y :: .int x :: st) := V_icmp_eq hC tgt hd ht (fun _ => kt) (fun q => absurd h (by first | exact q | exact fun z => z q))
theorem V_if_eq_f (hC : CX E g cc Ts own rm) {x : Int32} {off : Int} {tgt : Nat} (hd : decode cc pc = .ok (.ifCond .eq off, 3)) (ht : (pc : Int) + off = (tgt : Int)) (h : ¬ x = 0) (kf : V E g N ad ce sl f (pc + 3) lo st) : V E g N ad ce sl f pc lo (.int x :: st) := V_if_eq hC tgt hd ht (fun q => absurd q (by first | exact h | exact fun z => z h)) (fun _ => kf)
theorem V_icmp_eq_f (hC : CX E g cc Ts own rm) {x y : Int32} {off : Int} {tgt : Nat} (hd : decode cc pc = .ok (.if_icmp .eq off, 3)) (ht : (pc : Int) + off = (tgt : Int)) (h : ¬ x = y) (kf : V E g N ad ce sl f (pc + 3) lo st) : V E g N ad ce sl f pc lo (.int y :: .int x :: st) := V_icmp_eq hC tgt hd ht (fun q => absurd q (by first | exact h | exact fun z => z h)) (fun _ => kf)
theorem V_if_ne (hC : CX E g cc Ts own rm) {x : Int32} {off : Int} (tgt : Nat) (hd : decode cc pc = .ok (.ifCond .ne off, 3)) (ht : (pc : Int) + off = (tgt : Int)) (kt : ¬ x = 0 → V E g N ad ce sl f tgt lo st) (kf : x = 0 → V E g N ad ce sl f (pc + 3) lo st) : V E g N ad ce sl f pc lo (.int x :: st) := by
  intro H locs ls hP hD hS hl
  exact lv_if_ne hC.1 hC.2.1 hd ht (fun h => kt h H locs ls hP hD hS hl) (fun h => kf h H locs ls hP hD hS hl)
theorem V_icmp_ne (hC : CX E g cc Ts own rm) {x y : Int32} {off : Int} (tgt : Nat) (hd : decode cc pc = .ok (.if_icmp .ne off, 3)) (ht : (pc : Int) + off = (tgt : Int)) (kt : ¬ x = y → V E g N ad ce sl f tgt lo st) (kf : x = y → V E g N ad ce sl f (pc + 3) lo st) : V E g N ad ce sl f pc lo (.int y :: .int x :: st) := by
  intro H locs ls hP hD hS hl
  exact lv_icmp_ne hC.1 hC.2.1 hd ht (fun h => kt h H locs ls hP hD hS hl) (fun h => kf h H locs ls hP hD hS hl)
theorem V_if_ne_t (hC : CX E g cc Ts own rm) {x : Int32} {off : Int} (tgt : Nat) (hd : decode cc pc = .ok (.ifCond .ne off, 3)) (ht : (pc : Int) + off = (tgt : Int)) (h : ¬ x = 0) (kt : V E g N ad ce sl f tgt lo st) : V E g N ad ce sl f pc lo (.int x :: st) := V_if_ne hC tgt hd ht (fun _ => kt) (fun q => absurd h (by first | exact q | exact fun z => z q))
theorem V_icmp_ne_t (hC : CX E g cc Ts own rm) {x y : Int32} {off : Int} (tgt : Nat) (hd : decode cc pc = .ok (.if_icmp .ne off, 3)) (ht : (pc : Int) + off = (tgt : Int)) (h : ¬ x = y) (kt : V E g N ad ce sl f tgt lo st) : V E g N ad ce sl f pc lo (.int y :: .int x :: st) := V_icmp_ne hC tgt hd ht (fun _ => kt) (fun q => absurd h (by first | exact q | exact fun z => z q))
theorem V_if_ne_f (hC : CX E g cc Ts own rm) {x : Int32} {off : Int} {tgt : Nat} (hd : decode cc pc = .ok (.ifCond .ne off, 3)) (ht : (pc : Int) + off = (tgt : Int)) (h : x = 0) (kf : V E g N ad ce sl f (pc + 3) lo st) : V E g N ad ce sl f pc lo (.int x :: st) := V_if_ne hC tgt hd ht (fun q => absurd q (by first | exact h | exact fun z => z h)) (fun _ => kf)
theorem V_icmp_ne_f (hC : CX E g cc Ts own rm) {x y : Int32} {off : Int} {tgt : Nat} (hd : decode cc pc = .ok (.if_icmp .ne off, 3)) (ht : (pc : Int) + off = (tgt : Int)) (h : x = y) (kf : V E g N ad ce sl f (pc + 3) lo st) : V E g N ad ce sl f pc lo (.int y :: .int x :: st) := V_icmp_ne hC tgt hd ht (fun q => absurd q (by first | exact h | exact fun z => z h)) (fun _ => kf)
theorem V_if_lt (hC : CX E g cc Ts own rm) {x : Int32} {off : Int} (tgt : Nat) (hd : decode cc pc = .ok (.ifCond .lt off, 3)) (ht : (pc : Int) + off = (tgt : Int)) (kt : x < 0 → V E g N ad ce sl f tgt lo st) (kf : ¬ x < 0 → V E g N ad ce sl f (pc + 3) lo st) : V E g N ad ce sl f pc lo (.int x :: st) := by
  intro H locs ls hP hD hS hl
  exact lv_if_lt hC.1 hC.2.1 hd ht (fun h => kt h H locs ls hP hD hS hl) (fun h => kf h H locs ls hP hD hS hl)
theorem V_icmp_lt (hC : CX E g cc Ts own rm) {x y : Int32} {off : Int} (tgt : Nat) (hd : decode cc pc = .ok (.if_icmp .lt off, 3)) (ht : (pc : Int) + off = (tgt : Int)) (kt : x < y → V E g N ad ce sl f tgt lo st) (kf : ¬ x < y → V E g N ad ce sl f (pc + 3) lo st) : V E g N ad ce sl f pc lo (.int y :: .int x :: st) := by
  intro H locs ls hP hD hS hl
  exact lv_icmp_lt hC.1 hC.2.1 hd ht (fun h => kt h H locs ls hP hD hS hl) (fun h => kf h H locs ls hP hD hS hl)
theorem V_if_lt_t (hC : CX E g cc Ts own rm) {x : Int32} {off : Int} (tgt : Nat) (hd : decode cc pc = .ok (.ifCond .lt off, 3)) (ht : (pc : Int) + off = (tgt : Int)) (h : x < 0) (kt : V E g N ad ce sl f tgt lo st) : V E g N ad ce sl f pc lo (.int x :: st) := V_if_lt hC tgt hd ht (fun _ => kt) (fun q => absurd h (by first | exact q | exact fun z => z q))
theorem V_icmp_lt_t (hC : CX E g cc Ts own rm) {x y : Int32} {off : Int} (tgt : Nat) (hd : decode cc pc = .ok (.if_icmp .lt off, 3)) (ht : (pc : Int) + off = (tgt : Int)) (h : x < y) (kt : V E g N ad ce sl f tgt lo st) : V E g N ad ce sl f pc lo (.int y :: .int x :: st) := V_icmp_lt hC tgt hd ht (fun _ => kt) (fun q => absurd h (by first | exact q | exact fun z => z q))
theorem V_if_lt_f (hC : CX E g cc Ts own rm) {x : Int32} {off : Int} {tgt : Nat} (hd : decode cc pc = .ok (.ifCond .lt off, 3)) (ht : (pc : Int) + off = (tgt : Int)) (h : ¬ x < 0) (kf : V E g N ad ce sl f (pc + 3) lo st) : V E g N ad ce sl f pc lo (.int x :: st) := V_if_lt hC tgt hd ht (fun q => absurd q (by first | exact h | exact fun z => z h)) (fun _ => kf)
theorem V_icmp_lt_f (hC : CX E g cc Ts own rm) {x y : Int32} {off : Int} {tgt : Nat} (hd : decode cc pc = .ok (.if_icmp .lt off, 3)) (ht : (pc : Int) + off = (tgt : Int)) (h : ¬ x < y) (kf : V E g N ad ce sl f (pc + 3) lo st) : V E g N ad ce sl f pc lo (.int y :: .int x :: st) := V_icmp_lt hC tgt hd ht (fun q => absurd q (by first | exact h | exact fun z => z h)) (fun _ => kf)
theorem V_if_ge (hC : CX E g cc Ts own rm) {x : Int32} {off : Int} (tgt : Nat) (hd : decode cc pc = .ok (.ifCond .ge off, 3)) (ht : (pc : Int) + off = (tgt : Int)) (kt : 0 ≤ x → V E g N ad ce sl f tgt lo st) (kf : ¬ 0 ≤ x → V E g N ad ce sl f (pc + 3) lo st) : V E g N ad ce sl f pc lo (.int x :: st) := by
  intro H locs ls hP hD hS hl
  exact lv_if_ge hC.1 hC.2.1 hd ht (fun h => kt h H locs ls hP hD hS hl) (fun h => kf h H locs ls hP hD hS hl)
theorem V_icmp_ge (hC : CX E g cc Ts own rm) {x y : Int32} {off : Int} (tgt : Nat) (hd : decode cc pc = .ok (.if_icmp .ge off, 3)) (ht : (pc : Int) + off = (tgt : Int)) (kt : y ≤ x → V E g N ad ce sl f tgt lo st) (kf : ¬ y ≤ x → V E g N ad ce sl f (pc + 3) lo st) : V E g N ad ce sl f pc lo (.int y :: .int x :: st) := by
  intro H locs ls hP hD hS hl
  exact lv_icmp_ge hC.1 hC.2.1 hd ht (fun h => kt h H locs ls hP hD hS hl) (fun h => kf h H locs ls hP hD hS hl)
theorem V_if_ge_t (hC : CX E g cc Ts own rm) {x : Int32} {off : Int} (tgt : Nat) (hd : decode cc pc = .ok (.ifCond .ge off, 3)) (ht : (pc : Int) + off = (tgt : Int)) (h : 0 ≤ x) (kt : V E g N ad ce sl f tgt lo st) : V E g N ad ce sl f pc lo (.int x :: st) := V_if_ge hC tgt hd ht (fun _ => kt) (fun q => absurd h (by first | exact q | exact fun z => z q))
theorem V_icmp_ge_t (hC : CX E g cc Ts own rm) {x y : Int32} {off : Int} (tgt : Nat) (hd : decode cc pc = .ok (.if_icmp .ge off, 3)) (ht : (pc : Int) + off = (tgt : Int)) (h : y ≤ x) (kt : V E g N ad ce sl f tgt lo st) : V E g N ad ce sl f pc lo (.int y :: .int x :: st) := V_icmp_ge hC tgt hd ht (fun _ => kt) (fun q => absurd h (by first | exact q | exact fun z => z q))
theorem V_if_ge_f (hC : CX E g cc Ts own rm) {x : Int32} {off : Int} {tgt : Nat} (hd : decode cc pc = .ok (.ifCond .ge off, 3)) (ht : (pc : Int) + off = (tgt : Int)) (h : ¬ 0 ≤ x) (kf : V E g N ad ce sl f (pc + 3) lo st) : V E g N ad ce sl f pc lo (.int x :: st) := V_if_ge hC tgt hd ht (fun q => absurd q (by first | exact h | exact fun z => z h)) (fun _ => kf)
theorem V_icmp_ge_f (hC : CX E g cc Ts own rm) {x y : Int32} {off : Int} {tgt : Nat} (hd : decode cc pc = .ok (.if_icmp .ge off, 3)) (ht : (pc : Int) + off = (tgt : Int)) (h : ¬ y ≤ x) (kf : V E g N ad ce sl f (pc + 3) lo st) : V E g N ad ce sl f pc lo (.int y :: .int x :: st) := V_icmp_ge hC tgt hd ht (fun q => absurd q (by first | exact h | exact fun z => z h)) (fun _ => kf)
theorem V_if_gt (hC : CX E g cc Ts own rm) {x : Int32} {off : Int} (tgt : Nat) (hd : decode cc pc = .ok (.ifCond .gt off, 3)) (ht : (pc : Int) + off = (tgt : Int)) (kt : 0 < x → V E g N ad ce sl f tgt lo st) (kf : ¬ 0 < x → V E g N ad ce sl f (pc + 3) lo st) : V E g N ad ce sl f pc lo (.int x :: st) := by
  intro H locs ls hP hD hS hl
  exact lv_if_gt hC.1 hC.2.1 hd ht (fun h => kt h H locs ls hP hD hS hl) (fun h => kf h H locs ls hP hD hS hl)
theorem V_icmp_gt (hC : CX E g cc Ts own rm) {x y : Int32} {off : Int} (tgt : Nat) (hd : decode cc pc = .ok (.if_icmp .gt off, 3)) (ht : (pc : Int) + off = (tgt : Int)) (kt : y < x → V E g N ad ce sl f tgt lo st) (kf : ¬ y < x → V E g N ad ce sl f (pc + 3) lo st) : V E g N ad ce sl f pc lo (.int y :: .int x :: st) := by
  intro H locs ls hP hD hS hl
  exact lv_icmp_gt hC.1 hC.2.1 hd ht (fun h => kt h H locs ls hP hD hS hl) (fun h => kf h H locs ls hP hD hS hl)
theorem V_if_gt_t (hC : CX E g cc Ts own rm) {x : Int32} {off : Int} (tgt : Nat) (hd : decode cc pc = .ok (.ifCond .gt off, 3)) (ht : (pc : Int) + off = (tgt : Int)) (h : 0 < x) (kt : V E g N ad ce sl f tgt lo st) : V E g N ad ce sl f pc lo (.int x :: st) := V_if_gt hC tgt hd ht (fun _ => kt) (fun q => absurd h (by first | exact q | exact fun z => z q))
theorem V_icmp_gt_t (hC : CX E g cc Ts own rm) {x y : Int32} {off : Int} (tgt : Nat) (hd : decode cc pc = .ok (.if_icmp .gt off, 3)) (ht : (pc : Int) + off = (tgt : Int)) (h : y < x) (kt : V E g N ad ce sl f tgt lo st) : V E g N ad ce sl f pc lo (.int y :: .int x :: st) := V_icmp_gt hC tgt hd ht (fun _ => kt) (fun q => absurd h (by first | exact q | exact fun z => z q))
theorem V_if_gt_f (hC : CX E g cc Ts own rm) {x : Int32} {off : Int} {tgt : Nat} (hd : decode cc pc = .ok (.ifCond .gt off, 3)) (ht : (pc : Int) + off = (tgt : Int)) (h : ¬ 0 < x) (kf : V E g N ad ce sl f (pc + 3) lo st) : V E g N ad ce sl f pc lo (.int x :: st) := V_if_gt hC tgt hd ht (fun q => absurd q (by first | exact h | exact fun z => z h)) (fun _ => kf)
theorem V_icmp_gt_f (hC : CX E g cc Ts own rm) {x y : Int32} {off : Int} {tgt : Nat} (hd : decode cc pc = .ok (.if_icmp .gt off, 3)) (ht : (pc : Int) + off = (tgt : Int)) (h : ¬ y < x) (kf : V E g N ad ce sl f (pc + 3) lo st) : V E g N ad ce sl f pc lo (.int y :: .int x :: st) := V_icmp_gt hC tgt hd ht (fun q => absurd q (by first | exact h | exact fun z => z h)) (fun _ => kf)
theorem V_if_le (hC : CX E g cc Ts own rm) {x : Int32} {off : Int} (tgt : Nat) (hd : decode cc pc = .ok (.ifCond .le off, 3)) (ht : (pc : Int) + off = (tgt : Int)) (kt : x ≤ 0 → V E g N ad ce sl f tgt lo st) (kf : ¬ x ≤ 0 → V E g N ad ce sl f (pc + 3) lo st) : V E g N ad ce sl f pc lo (.int x :: st) := by
  intro H locs ls hP hD hS hl
  exact lv_if_le hC.1 hC.2.1 hd ht (fun h => kt h H locs ls hP hD hS hl) (fun h => kf h H locs ls hP hD hS hl)
theorem V_icmp_le (hC : CX E g cc Ts own rm) {x y : Int32} {off : Int} (tgt : Nat) (hd : decode cc pc = .ok (.if_icmp .le off, 3)) (ht : (pc : Int) + off = (tgt : Int)) (kt : x ≤ y → V E g N ad ce sl f tgt lo st) (kf : ¬ x ≤ y → V E g N ad ce sl f (pc + 3) lo st) : V E g N ad ce sl f pc lo (.int y :: .int x :: st) := by
  intro H locs ls hP hD hS hl
  exact lv_icmp_le hC.1 hC.2.1 hd ht (fun h => kt h H locs ls hP hD hS hl) (fun h => kf h H locs ls hP hD hS hl)
theorem V_if_le_t (hC : CX E g cc Ts own rm) {x : Int32} {off : Int} (tgt : Nat) (hd : decode cc pc = .ok (.ifCond .le off, 3)) (ht : (pc : Int) + off = (tgt : Int)) (h : x ≤ 0) (kt : V E g N ad ce sl f tgt lo st) : V E g N ad ce sl f pc lo (.int x :: st) := V_if_le hC tgt hd ht (fun _ => kt) (fun q => absurd h (by first | exact q | exact fun z => z q))
theorem V_icmp_le_t (hC : CX E g cc Ts own rm) {x y : Int32} {off : Int} (tgt : Nat) (hd : decode cc pc = .ok (.if_icmp .le off, 3)) (ht : (pc : Int) + off = (tgt : Int)) (h : x ≤ y) (kt : V E g N ad ce sl f tgt lo st) : V E g N ad ce sl f pc lo (.int y :: .int x :: st) := V_icmp_le hC tgt hd ht (fun _ => kt) (fun q => absurd h (by first | exact q | exact fun z => z q))
theorem V_if_le_f (hC : CX E g cc Ts own rm) {x : Int32} {off : Int} {tgt : Nat} (hd : decode cc pc = .ok (.ifCond .le off, 3)) (ht : (pc : Int) + off = (tgt : Int)) (h : ¬ x ≤ 0) (kf : V E g N ad ce sl f (pc + 3) lo st) : V E g N ad ce sl f pc lo (.int x :: st) := V_if_le hC tgt hd ht (fun q => absurd q (by first | exact h | exact fun z => z h)) (fun _ => kf)
theorem V_icmp_le_f (hC : CX E g cc Ts own rm) {x y : Int32} {off : Int} {tgt : Nat} (hd : decode cc pc = .ok (.if_icmp .le off, 3)) (ht : (pc : Int) + off = (tgt : Int)) (h : ¬ x ≤ y) (kf : V E g N ad ce sl f (pc + 3) lo st) : V E g N ad ce sl f pc lo (.int y :: .int x :: st) := V_icmp_le hC tgt hd ht (fun q => absurd q (by first | exact h | exact fun z => z h)) (fun _ => kf)
theorem V_goto (hC : CX E g cc Ts own rm) {off : Int} (tgt : Nat) (hd : decode cc pc = .ok (.goto off, 3)) (ht : (pc : Int) + off = (tgt : Int)) (k : V E g N ad ce sl f tgt lo st) : V E g N ad ce sl f pc lo st := by
  intro H locs ls hP hD hS hl
  exact lv_goto hC.1 hC.2.1 hd ht (k H locs ls hP hD hS hl)
theorem V_lookup (hC : CX E g cc Ts own rm) {x : Int32} {dflt : Int} {ps : Array (Int × Int)} {len : Nat} {off : Int} (tgt : Nat) (hd : decode cc pc = .ok (.lookupswitch dflt ps, len)) (hp : (ps.toList.zip (ps.toList.drop 1)).all (fun (a, next) => a.1 < next.1) = true) (ho : Op.lookupswitch.offset ps.toList dflt x.toInt = off) (ht : (pc : Int) + off = (tgt : Int)) (k : V E g N ad ce sl f tgt lo st) : V E g N ad ce sl f pc lo (.int x :: st) := by
  intro H locs ls hP hD hS hl
  exact lv_lookup hC.1 hC.2.1 hd hp ho ht (k H locs ls hP hD hS hl)
theorem V_tableOut (hC : CX E g cc Ts own rm) {x : Int32} {dflt a b : Int} {offs : Array Int} {len : Nat} (tgt : Nat) (hd : decode cc pc = .ok (.tableswitch dflt a b offs, len)) (h : x.toInt < a ∨ b < x.toInt) (ht : (pc : Int) + dflt = (tgt : Int)) (k : V E g N ad ce sl f tgt lo st) : V E g N ad ce sl f pc lo (.int x :: st) := by
  intro H locs ls hP hD hS hl
  exact lv_tableOut hC.1 hC.2.1 hd h ht (k H locs ls hP hD hS hl)
theorem V_tableIn (hC : CX E g cc Ts own rm) {x : Int32} {dflt a b : Int} {offs : Array Int} {len : Nat} {off : Int} (tgt : Nat) (hd : decode cc pc = .ok (.tableswitch dflt a b offs, len)) (h1 : ¬ x.toInt < a) (h2 : ¬ b < x.toInt) (ho : offs[(x.toInt - a).toNat]? = some off) (ht : (pc : Int) + off = (tgt : Int)) (k : V E g N ad ce sl f tgt lo st) : V E g N ad ce sl f pc lo (.int x :: st) := by
  intro H locs ls hP hD hS hl
  exact lv_tableIn hC.1 hC.2.1 hd h1 h2 ho ht (k H locs ls hP hD hS hl)
theorem V_ldc2 (hC : CX E g cc Ts own rm) {index : Nat} {v : Int64} (hd : decode cc pc = .ok (.ldc2_w index, 3)) (hw : Cond.constantLong own index v ∈ Ts) (k : V E g N ad ce sl f (pc + 3) lo (.long v :: st)) : V E g N ad ce sl f pc lo st := by
  intro H locs ls hP hD hS hl
  exact lv_ldc2 hC.1 hC.2.1 hC.2.2.2.1 (hC.2.2.2.2.1 _ hw) hd (k H locs ls hP hD hS hl)
/-! names for values, so that terms stay small -/
theorem V_top {x : Int32} (k : ∀ y : Int32, y = x → V E g N ad ce sl f pc lo (.int y :: st)) : V E g N ad ce sl f pc lo (.int x :: st) := k x rfl
theorem V_eqt {x : Int32} (y : Int32) (h : x = y) (k : V E g N ad ce sl f pc lo (.int y :: st)) : V E g N ad ce sl f pc lo (.int x :: st) := h ▸ k
theorem V_st {st2 : List Value} (h : st = st2) (k : V E g N ad ce sl f pc lo st2) : V E g N ad ce sl f pc lo st := h ▸ k
theorem V_lo {lo2 : List (Option Value)} (h : ∀ q ∈ lvo 0 lo2, q ∈ lvo 0 lo) (k : V E g N ad ce sl f pc lo2 st) : V E g N ad ce sl f pc lo st := fun H locs ls hP hD hS hl => k H locs ls hP hD hS (lvo_sub hl h)
theorem V_f {f2 : Nat → va_E} (h : f = f2) (k : V E g N ad ce sl f2 pc lo st) : V E g N ad ce sl f pc lo st := h ▸ k
/-! fields -/
theorem V_get (hC : CX E g cc Ts own rm) {i ci : Nat} {fs : List Value} {C : String} {T : u_T} {Nf index : Nat} {v : Value} (k : Nat) (hd : decode cc pc = .ok (.getfield index, 3)) (hi : i < N) (hf : f i = .inr (ci, fs)) (hc : vwCl[ci]? = some (C, T, Nf)) (hk : k < Nf) (hin : ∀ w ∈ u_ws C T Nf, w ∈ Ts) (hlink : Cond.fieldLink own index (T k).1 (T k).2.1 (T k).2.2.1 ∈ Ts) (hv : fs[k]? = some v)
    (kk : V E g N ad ce sl f (pc + 3) lo (v :: st)) : V E g N ad ce sl f pc lo (.ref (ad i) :: st) := by
  intro H locs ls hP hD hS hl
  exact va_get hC.1 hC.2.1 hC.2.2.2.2.1 hin hC.2.2.2.1 hC.2.2.2.2.2.1 hP i (fs := fs) (by rw [wl_get hi, hf]) hc k hk (hC.2.2.2.2.1 _ hlink) (fun _ h => h) hv hd (kk H locs ls hP hD hS hl)
theorem V_put (hC : CX E g cc Ts own rm) {i ci : Nat} {fs : List Value} {C : String} {T : u_T} {Nf index : Nat} {v : Value} {ty0 : Nat → FieldType} {ty : FieldType} (k : Nat) (hd : decode cc pc = .ok (.putfield index, 3)) (hi : i < N) (hf : f i = .inr (ci, fs)) (hc : vwCl[ci]? = some (C, T, Nf)) (hk : k < Nf) (hin : ∀ w ∈ u_ws C T Nf, w ∈ Ts) (hlink : Cond.fieldLink own index (T k).1 (T k).2.1 (T k).2.2.1 ∈ Ts)
    (hty : ∀ k, k < Nf → parseFieldDescriptor (T k).2.2.1 = some (ty0 k)) (hnm : ∀ a, a < Nf → ∀ b, b < Nf → a ≠ b → (T a).2.1 ≠ (T b).2.1) (hfin : (T k).2.2.2 = false) (hp : parseFieldDescriptor (T k).2.2.1 = some ty) (hn : narrow ty v = v) (hfit : fits ty v = true) (hlen : k < fs.length)
    (kk : V E g N ad ce sl (va_up f i (.inr (ci, fs.set k v))) (pc + 3) lo st) : V E g N ad ce sl f pc lo (v :: .ref (ad i) :: st) := by
  intro H locs ls hP hD hS hl
  refine va_put hC.1 hC.2.1 hC.2.2.2.2.1 hin ty0 hty hnm hC.2.2.2.1 hC.2.2.2.2.2.1 hP hD hS i (fs := fs) (by rw [wl_get hi, hf]) hc k hk (hC.2.2.2.2.1 _ hlink) (fun _ h => h) hfin hp hn hfit hlen hd (fun H1 locs1 hP1 hD1 hS1 => ?_)
  rw [wl_set hi] at hP1 hD1
  exact kk H1 locs1 ls hP1 hD1 hS1 hl
theorem V_putF (hC : CX E g cc Ts own rm) (hin2 : (eH E).name = "<init>") {i ci : Nat} {fs : List Value} {C : String} {T : u_T} {Nf index : Nat} {v : Value} {ty0 : Nat → FieldType} {ty : FieldType} (k : Nat) (hd : decode cc pc = .ok (.putfield index, 3)) (hi : i < N) (hf : f i = .inr (ci, fs)) (hc : vwCl[ci]? = some (C, T, Nf)) (hk : k < Nf) (hin : ∀ w ∈ u_ws C T Nf, w ∈ Ts) (hlink : Cond.fieldLink own index (T k).1 (T k).2.1 (T k).2.2.1 ∈ Ts)
    (hty : ∀ k, k < Nf → parseFieldDescriptor (T k).2.2.1 = some (ty0 k)) (hnm : ∀ a, a < Nf → ∀ b, b < Nf → a ≠ b → (T a).2.1 ≠ (T b).2.1) (hfin : (T k).2.2.2 = true) (hdecl : (T k).1 = own) (hp : parseFieldDescriptor (T k).2.2.1 = some ty) (hn : narrow ty v = v) (hfit : fits ty v = true) (hlen : k < fs.length)
    (kk : V E g N ad ce sl (va_up f i (.inr (ci, fs.set k v))) (pc + 3) lo st) : V E g N ad ce sl f pc lo (v :: .ref (ad i) :: st) := by
  intro H locs ls hP hD hS hl
  refine va_putF hC.1 hC.2.1 hC.2.2.2.2.1 hin ty0 hty hnm hC.2.2.2.1 hC.2.2.2.2.2.1 hP hD hS i (fs := fs) (by rw [wl_get hi, hf]) hc k hk (hC.2.2.2.2.1 _ hlink) (fun _ h => h) hfin hin2 hdecl hp hn hfit hlen hd (fun H1 locs1 hP1 hD1 hS1 => ?_)
  rw [wl_set hi] at hP1 hD1
  exact kk H1 locs1 ls hP1 hD1 hS1 hl
/-! arrays -/
theorem V_iald (hC : CX E g cc Ts own rm) {i n k : Nat} {j : Int32} {a : Nat → Int32} (hd : decode cc pc = .ok (.iaload, 1)) (hi : i < N) (hf : f i = .inl (g.2.1 0, n, .inl a)) (hx : ix j k n) (kk : V E g N ad ce sl f (pc + 1) lo (.int (a k) :: st)) : V E g N ad ce sl f pc lo (.int j :: .ref (ad i) :: st) := by
  intro H locs ls hP hD hS hl
  obtain ⟨h1, h2⟩ := hx
  subst h2
  exact va_iald hC.1 hC.2.1 hC.2.2.2.2.2.1 hP i 0 (by rw [wl_get hi, hf]) rfl h1 hd (kk H locs ls hP hD hS hl)
theorem V_cald (hC : CX E g cc Ts own rm) {i n k : Nat} {j : Int32} {a : Nat → Int32} (hd : decode cc pc = .ok (.caload, 1)) (hi : i < N) (hf : f i = .inl (g.2.1 1, n, .inl a)) (hx : ix j k n) (kk : V E g N ad ce sl f (pc + 1) lo (.int (a k) :: st)) : V E g N ad ce sl f pc lo (.int j :: .ref (ad i) :: st) := by
  intro H locs ls hP hD hS hl
  obtain ⟨h1, h2⟩ := hx
  subst h2
  exact va_cald hC.1 hC.2.1 hC.2.2.2.2.2.1 hP i 1 (by rw [wl_get hi, hf]) rfl h1 hd (kk H locs ls hP hD hS hl)
theorem V_zald (hC : CX E g cc Ts own rm) {i n k : Nat} {j : Int32} {a : Nat → Int32} (hd : decode cc pc = .ok (.baload, 1)) (hi : i < N) (hf : f i = .inl (g.2.1 2, n, .inl a)) (hx : ix j k n) (kk : V E g N ad ce sl f (pc + 1) lo (.int (a k) :: st)) : V E g N ad ce sl f pc lo (.int j :: .ref (ad i) :: st) := by
  intro H locs ls hP hD hS hl
  obtain ⟨h1, h2⟩ := hx
  subst h2
  exact va_zald hC.1 hC.2.1 hC.2.2.2.2.2.1 hP i 2 (by rw [wl_get hi, hf]) rfl h1 hd (kk H locs ls hP hD hS hl)
theorem V_iast (hC : CX E g cc Ts own rm) {i n k : Nat} {j x : Int32} {a : Nat → Int32} (hd : decode cc pc = .ok (.iastore, 1)) (hi : i < N) (hf : f i = .inl (g.2.1 0, n, .inl a)) (hx : ix j k n) (kk : V E g N ad ce sl (va_up f i (.inl (g.2.1 0, n, .inl (upd a k x)))) (pc + 1) lo st) : V E g N ad ce sl f pc lo (.int x :: .int j :: .ref (ad i) :: st) := by
  intro H locs ls hP hD hS hl
  obtain ⟨h1, h2⟩ := hx
  subst h2
  refine va_iast hC.1 hC.2.1 hC.2.2.2.2.2.1 hP hD hS i 0 (by rw [wl_get hi, hf]) rfl h1 hd (fun H1 locs1 hP1 hD1 hS1 => ?_)
  rw [wl_set hi] at hP1 hD1
  exact kk H1 locs1 ls hP1 hD1 hS1 hl
theorem V_cast (hC : CX E g cc Ts own rm) {i n k : Nat} {j x : Int32} {a : Nat → Int32} (hd : decode cc pc = .ok (.castore, 1)) (hi : i < N) (hf : f i = .inl (g.2.1 1, n, .inl a)) (hx : ix j k n) (kk : V E g N ad ce sl (va_up f i (.inl (g.2.1 1, n, .inl (upd a k (vp_nar .char x))))) (pc + 1) lo st) : V E g N ad ce sl f pc lo (.int x :: .int j :: .ref (ad i) :: st) := by
  intro H locs ls hP hD hS hl
  obtain ⟨h1, h2⟩ := hx
  subst h2
  refine va_cast hC.1 hC.2.1 hC.2.2.2.2.2.1 hP hD hS i 1 (by rw [wl_get hi, hf]) rfl h1 hd (fun H1 locs1 hP1 hD1 hS1 => ?_)
  rw [wl_set hi] at hP1 hD1
  exact kk H1 locs1 ls hP1 hD1 hS1 hl
theorem V_zast (hC : CX E g cc Ts own rm) {i n k : Nat} {j x : Int32} {a : Nat → Int32} (hd : decode cc pc = .ok (.bastore, 1)) (hi : i < N) (hf : f i = .inl (g.2.1 2, n, .inl a)) (hx : ix j k n) (kk : V E g N ad ce sl (va_up f i (.inl (g.2.1 2, n, .inl (upd a k (vp_nar .boolean x))))) (pc + 1) lo st) : V E g N ad ce sl f pc lo (.int x :: .int j :: .ref (ad i) :: st) := by
  intro H locs ls hP hD hS hl
  obtain ⟨h1, h2⟩ := hx
  subst h2
  refine va_zast hC.1 hC.2.1 hC.2.2.2.2.2.1 hP hD hS i 2 (by rw [wl_get hi, hf]) rfl h1 hd (fun H1 locs1 hP1 hD1 hS1 => ?_)
  rw [wl_set hi] at hP1 hD1
  exact kk H1 locs1 ls hP1 hD1 hS1 hl
theorem V_alen (hC : CX E g cc Ts own rm) {i t0 : Nat} {ty : FieldType} {cA : ClassId} {x : vp_A} (v : Int32) (hd : decode cc pc = .ok (.arraylength, 1)) (hi : i < N) (hf : f i = .inl (cA, x)) (ht : (gT g)[t0]? = some (cA, ty)) (hv : Int32.ofNat x.1 = v) (kk : V E g N ad ce sl f (pc + 1) lo (.int v :: st)) : V E g N ad ce sl f pc lo (.ref (ad i) :: st) := by
  intro H locs ls hP hD hS hl
  exact va_alen hC.1 hC.2.1 hC.2.2.2.2.2.1 hP i t0 (by rw [wl_get hi, hf]) ht hv hd (kk H locs ls hP hD hS hl)
theorem V_aald (hC : CX E g cc Ts own rm) {i n k t0 : Nat} {C : String} {cA : ClassId} {j : Int32} {a : Nat → Option Nat} (hd : decode cc pc = .ok (.aaload, 1)) (hi : i < N) (hf : f i = .inl (cA, n, .inr (.inr (.inr (.inr a))))) (ht : (gT g)[t0]? = some (cA, .object C)) (hx : ix j k n) {v : Nat} (hv : a k = some v) (kk : V E g N ad ce sl f (pc + 1) lo (.ref v :: st)) : V E g N ad ce sl f pc lo (.int j :: .ref (ad i) :: st) := by
  intro H locs ls hP hD hS hl
  obtain ⟨h1, h2⟩ := hx
  subst h2
  refine va_aldq hC.1 hC.2.1 hC.2.2.2.2.2.1 hP i t0 (by rw [wl_get hi, hf]) ht h1 hd ?_
  rw [hv]
  exact kk H locs ls hP hD hS hl
theorem V_aast (hC : CX E g cc Ts own rm) {i n k t0 q ci : Nat} {r : vw_C} {vs : List Value} {cA : ClassId} {j : Int32} {a : Nat → Option Nat} (hd : decode cc pc = .ok (.aastore, 1)) (hi : i < N) (hf : f i = .inl (cA, n, .inr (.inr (.inr (.inr a))))) (ht : (gT g)[t0]? = some (cA, .object r.1)) (hq : q < N) (hfq : f q = .inr (ci, vs)) (hc : vwCl[ci]? = some r) (hx : ix j k n)
    (kk : V E g N ad ce sl (va_up f i (.inl (cA, n, .inr (.inr (.inr (.inr (va_up a k (some (ad q)))))))))  (pc + 1) lo st) : V E g N ad ce sl f pc lo (.ref (ad q) :: .int j :: .ref (ad i) :: st) := by
  intro H locs ls hP hD hS hl
  obtain ⟨h1, h2⟩ := hx
  subst h2
  refine va_astq hC.1 hC.2.1 hC.2.2.2.2.2.1 hP hD hS i t0 q ci (vs := vs) (by rw [wl_get hi, hf]) ht (by rw [wl_get hq, hfq]) hc h1 hd (fun H1 locs1 hP1 hD1 hS1 => ?_)
  rw [wl_set hi] at hP1 hD1
  exact kk H1 locs1 ls hP1 hD1 hS1 hl
theorem V_copy (hC : CX E g cc Ts own rm) {i0 i1 n0 n1 k : Nat} {a b : Nat → Int32} {index : Nat} {n : Int32} (hd : decode cc pc = .ok (.invokestatic index, 3)) (hw1 : Cond.methodLink own index arraycopyName ∈ Ts) (hw2 : Cond.native arraycopyName ∈ Ts) (hw3 : Cond.static arraycopyName ∈ Ts) (hw4 : Cond.initialized "java/lang/System" ∈ Ts)
    (hi0 : i0 < N) (hf0 : f i0 = .inl (g.2.1 0, n0, .inl a)) (hi1 : i1 < N) (hf1 : f i1 = .inl (g.2.1 0, n1, .inl b)) (hn : ¬ n < 0) (hk : n.toNatClampNeg = k) (h4 : k ≤ n0) (h5 : k ≤ n1) (hR : 1 ≤ rm.frames) (hR2 : (st.map fun v => v.category).sum + (nativeFrameWords "java/lang/System" "arraycopy" 5 + 11) ≤ rm.locals)
    (kk : V E g N ad ce sl (va_up f i1 (.inl (g.2.1 0, n1, .inl (va_cpy a b 0 0 k)))) (pc + 3) lo st) : V E g N ad ce sl f pc lo (.int n :: .int 0 :: .ref (ad i1) :: .int 0 :: .ref (ad i0) :: st) := by
  intro H locs ls hP hD hS hl
  obtain ⟨c1, c2, c3, c4, c5, c6, c7, c8, c9, c10⟩ := hC
  subst hk
  refine va_copyi c1 c2 (c3.trans hl.1.symm) c4 (c5 _ hw1) (c5 _ hw2) (c5 _ hw3) (c5 _ hw4) c6 hP hD hS i0 i1 0 0 (by rw [wl_get hi0, hf0]) (by rw [wl_get hi1, hf1]) rfl rfl rfl (sp := 0) (dp := 0) (by decide) (by decide) hn (by simpa using h4) (by simpa using h5) (fun _ _ => rfl) (by rw [c10]; exact hR) (by rw [c10]; exact hR2) hd (fun H1 locs1 hP1 hD1 hS1 => ?_)
  rw [wl_set hi1] at hP1 hD1
  exact kk H1 locs1 ls hP1 hD1 hS1 hl
/-! static arrays -/
theorem V_gets (hC : CX E g cc Ts own rm) {k index Nk : Nat} {C n : String} {l : List Int32} (hs : SF1 g k C n Nk l (eS E)) (hd : decode cc pc = .ok (.getstatic index, 3)) (hlink : Cond.fieldLink own index C n "[I" ∈ Ts) (kk : V E g N ad ce sl f (pc + 3) lo (.ref (g.2.2.2 k) :: st)) : V E g N ad ce sl f pc lo st := by
  intro H locs ls hP hD hS hl
  exact va_gets hC.1 hC.2.1 hs.1 hS hC.2.2.2.1 (hC.2.2.2.2.1 _ hlink) (fun _ h => h) hd (kk H locs ls hP hD hS hl)
theorem V_tald (hC : CX E g cc Ts own rm) {k j Nk : Nat} {C n : String} {l : List Int32} {i : Int32} (hs : SF1 g k C n Nk l (eS E)) (hd : decode cc pc = .ok (.iaload, 1)) (hx : ix i j Nk) (kk : V E g N ad ce sl f (pc + 1) lo (.int (lstA l j) :: st)) : V E g N ad ce sl f pc lo (.int i :: .ref (g.2.2.2 k) :: st) := by
  intro H locs ls hP hD hS hl
  obtain ⟨h1, h2⟩ := hx
  subst h2
  exact va_ti hC.1 hC.2.1 hs.2 hS h1 rfl hd (kk H locs ls hP hD hS hl)
theorem V_talen (hC : CX E g cc Ts own rm) {k Nk : Nat} {C n : String} {l : List Int32} (hs : SF1 g k C n Nk l (eS E)) (v : Int32) (hv : Int32.ofNat Nk = v) (hd : decode cc pc = .ok (.arraylength, 1)) (kk : V E g N ad ce sl f (pc + 1) lo (.int v :: st)) : V E g N ad ce sl f pc lo (.ref (g.2.2.2 k) :: st) := by
  intro H locs ls hP hD hS hl
  obtain ⟨cell, h1, h2, h3, h4, h5, h6, h7⟩ := hs.2
  exact W.alen (n := v) hC.1 hC.2.1 (by rw [hS.2.1 _ (Array.getElem?_eq_some_iff.mp h1).1 h7]; exact h1) h2 (by rw [h5, hv]) rfl rfl hd (kk H locs ls hP hD hS hl)
/-! Math.min, Math.abs -/
theorem V_min (hC : CX E g cc Ts own rm) {index : Nat} {x y : Int32} (hd : decode cc pc = .ok (.invokestatic index, 3)) (hw1 : Cond.methodLink own index Lib.Math.min.name ∈ Ts) (hw2 : Cond.static Lib.Math.min.name ∈ Ts) (hw3 : Cond.initialized "java/lang/Math" ∈ Ts) (hw4 : Cond.code Lib.Math.min.name Lib.Math.min.code 2 (some .int) ∈ Ts) (hR : 1 ≤ rm.frames) (hR2 : (st.map fun v => v.category).sum + 13 ≤ rm.locals) (hR3 : ce ≤ rm.cells ∧ sl ≤ rm.slots) (kk : V E g N ad ce sl f (pc + 3) lo (.int (if y < x then y else x) :: st)) : V E g N ad ce sl f pc lo (.int y :: .int x :: st) := by
  intro H locs ls hP hD hS hl
  obtain ⟨c1, c2, c3, c4, c5, c6, c7, c8, c9, c10⟩ := hC
  subst c10
  exact va_mmin c1 c2 (c3.trans hl.1.symm) c4 (c5 _ hw1) (c5 _ hw2) (c5 _ hw3) (c5 _ hw4) hR hR2 hR3.1 hR3.2 hd (kk H locs ls hP hD hS hl)
theorem V_abs (hC : CX E g cc Ts own rm) {index : Nat} {x : Int32} (hd : decode cc pc = .ok (.invokestatic index, 3)) (hw1 : Cond.methodLink own index Lib.Math.abs.name ∈ Ts) (hw2 : Cond.static Lib.Math.abs.name ∈ Ts) (hw3 : Cond.initialized "java/lang/Math" ∈ Ts) (hw4 : Cond.code Lib.Math.abs.name Lib.Math.abs.code 1 (some .int) ∈ Ts) (hR : 1 ≤ rm.frames) (hR2 : (st.map fun v => v.category).sum + 13 ≤ rm.locals) (hR3 : ce ≤ rm.cells ∧ sl ≤ rm.slots) (kk : V E g N ad ce sl f (pc + 3) lo (.int (if 0 ≤ x then x else 0 - x) :: st)) : V E g N ad ce sl f pc lo (.int x :: st) := by
  intro H locs ls hP hD hS hl
  obtain ⟨c1, c2, c3, c4, c5, c6, c7, c8, c9, c10⟩ := hC
  subst c10
  exact va_mabs c1 c2 (c3.trans hl.1.symm) c4 (c5 _ hw1) (c5 _ hw2) (c5 _ hw3) (c5 _ hw4) hR hR2 hR3.1 hR3.2 hd (kk H locs ls hP hD hS hl)

/-! calls -/
theorem WC.blind {g : GE} {N : Nat} {ad : Nat → Nat} {f : Nat → va_E} {av : List Value} : FrameBlind (va_Pc av (WC g N ad f)) := by
  intro a U gf mk q
  obtain ⟨q0, qP, qK, qD, qz, qS, q1, q2, q3, q4, q5⟩ := q
  exact ⟨q0, qP, va_K.moved (u := U) (U := U.calling gf mk a) (Vm.Alike.refl U.vm) qK, qD, qz, SF.go (u := U) (U := U.calling gf mk a) qS (Vm.Alike.refl U.vm) (fun _ _ _ => rfl), va_Nw.same rfl rfl q1, va_Nw.same rfl rfl q2, va_Nw.same rfl rfl q3, va_AO.moved (u := U) (U := U.calling gf mk a) (Vm.Alike.refl U.vm) q4, va_AO.moved (u := U) (U := U.calling gf mk a) (Vm.Alike.refl U.vm) q5⟩
theorem WC.at (hC : CX E g cc Ts own rm) {H : Heap} {locs : List Loc} (hP : va_P g.1 vwCl (wl N ad f) H) (hD : va_D (gA g) (wl N ad f)) (hS : va_S (gA g) (eS E).heap H locs) {U : State} (hU : U.heap = H) (hW : (eS E).WarmedH U.vm) : WC g N ad f U := by
  obtain ⟨c1, c2, c3, c4, c5, c6, c7, c8, ⟨d1, d2, d3, d4, d5⟩, c10⟩ := hC
  refine ⟨by rw [hU]; exact hP, va_K.moved hW.alike c6, hD, by rw [hU]; exact Nat.le_trans c7 hS.1, c8.go hW.alike (fun a h1 h2 => by rw [hU]; exact hS.2.1 a h1 h2), d1.warmM hW, d2.warmM hW, ?_, d4.moved hW.alike, d5.moved hW.alike⟩
  exact va_tabs rfl (rfl : ((eS E).setVm U.vm).vm = U.vm) ((Cond.castable_setVm (args := #[]) hW.alike "[I" "java/lang/Cloneable").trans d3)
theorem V_run (hC : CX E g cc Ts own rm) {post : Option Value → Nat → (Nat → Nat) → (Nat → va_E) → Prop} {mc ms : Nat} {a : Array Value} {rest : List Value}
    (hr : ∀ (H : Heap) (locs : List Loc) (ls : Array Slot), va_P g.1 vwCl (wl N ad f) H → va_D (gA g) (wl N ad f) → va_S (gA g) (eS E).heap H locs → ls.size = eN E → va_Run (eP E) (eL E) (eE E) (eR E) (eS E) (eM E) (eA E) (eB E) (eH E) (eC E) H locs ce sl mc ms (F0 (eM E) pc ls st) rest (Qg g post a) (gA g))
    (kk : ∀ (r : Option Value) (N' : Nat) (ad' : Nat → Nat) (u : Nat → va_E), post r N' ad' u → V E g N' ad' (ce + mc) (sl + ms) u (pc + 3) lo (r.toList ++ rest)) : V E g N ad ce sl f pc lo st := by
  intro H locs ls hP hD hS hl T hT X
  obtain ⟨v, st₀, t, T', L, h0, X', hL, e1, e2, ⟨⟨r, N', ad', u, hv, hp, hP1, hD1⟩, hz, hk⟩, sx⟩ := hr H locs ls hP hD hS hl.1 T hT X
  cases hv
  rw [h0] at hz hk
  obtain ⟨t2, a1, b1⟩ := kk _ N' ad' u hp T'.heap (locs ++ L) ls (by rw [e1]; exact hP1) hD1 ⟨Nat.le_trans hS.1 (by rw [e1]; exact hz), fun q h1 h2 => by rw [e1, hk q (Nat.lt_of_lt_of_le h1 hS.1) h2]; exact hS.2.1 q h1 h2, fun q hq => by
    rcases List.mem_append.mp hq with h | h
    · exact hS.2.2 q h
    · exact hL q h⟩ hl T' rfl X'
  exact ⟨t2, sx t2 a1, b1⟩
theorem V_cv (hC : CX E g cc Ts own rm) {y : MethodName} {ws ws' : List Cond} {rm2 : Room} {post : Option Value → Nat → (Nat → Nat) → (Nat → va_E) → Prop} {mc ms n index maxL i ci Nf : Nat} {As rest : List Value} {C : String} {T : u_T} {fs : List Value} {bytes : ByteArray} {ret : Option FieldType}
    (hM : Ct g (eL E) y ws rm2 N ad (.ref (ad i) :: As) f post mc ms) (hn : As.length = n) (hG : GoodIn Ts (wsV own index C y ws)) (hw : ws = Cond.code y bytes maxL ret :: ws') (hrc : rm2.cells = mc ∧ rm2.slots = ms) (hd2 : y.cls = C ∧ y.cls ≠ "java/lang/invoke/MethodHandle" ∧ y.cls ≠ "java/lang/invoke/VarHandle" ∧ (parseMethodDescriptor y.desc).map (fun d => d.parameters.length) = some n)
    (hR : rm2.frames + 1 ≤ rm.frames ∧ 8 + (maxL + 11) + rm2.locals ≤ rm.locals) (hi : i < N) (hf : f i = .inr (ci, fs)) (hcl : vwCl[ci]? = some (C, T, Nf)) (hst : st = As.reverse ++ .ref (ad i) :: rest) (hcat : (rest.map fun v => v.category).sum ≤ 8) (hd : decode cc pc = .ok (.invokevirtual index, 3)) (hf2 : ce + mc ≤ rm.cells ∧ sl + ms ≤ rm.slots)
    (kk : ∀ (r : Option Value) (N' : Nat) (ad' : Nat → Nat) (u : Nat → va_E), post r N' ad' u → V E g N' ad' (ce + mc) (sl + ms) u (pc + 3) lo (r.toList ++ rest)) : V E g N ad ce sl f pc lo st := by
  have hC0 := hC
  obtain ⟨c1, c2, c3, c4, c5, c6, c7, c8, c9, c10⟩ := hC
  subst c10
  refine V_run (post := post) (a := (Value.ref (ad i) :: As).toArray) hC0 (fun H locs ls hP hD hS hsz => ?_) kk
  exact va_runV (As := As) (rest := rest) ⟨c1, c2, c3, c4, c5⟩ hM (cwV n c5 hG hw hrc.1 hrc.2 hd2 hR) ⟨WC.blind, va_recv c6 hP (ci := ci) (q0 := i) hcl (by rw [wl_get hi, hf]), fun U hU hW => ⟨rfl, WC.at hC0 hP hD hS hU hW⟩⟩ rfl hn hsz hst (lv_room hcat) hd hf2
theorem V_cs (hC : CX E g cc Ts own rm) {y : MethodName} {ws ws' : List Cond} {rm2 : Room} {post : Option Value → Nat → (Nat → Nat) → (Nat → va_E) → Prop} {mc ms n index maxL : Nat} {As rest : List Value} {bytes : ByteArray} {ret : Option FieldType}
    (hM : Ct g (eL E) y ws rm2 N ad As f post mc ms) (hn : As.length = n) (hG : GoodIn Ts (va_wsS own index y ws)) (hw : ws = Cond.code y bytes maxL ret :: ws') (hrc : rm2.cells = mc ∧ rm2.slots = ms) (hd2 : y.cls ≠ "java/lang/invoke/MethodHandle" ∧ y.cls ≠ "java/lang/invoke/VarHandle" ∧ (parseMethodDescriptor y.desc).map (fun d => d.parameters.length) = some n)
    (hR : rm2.frames + 1 ≤ rm.frames ∧ 8 + (maxL + 11) + rm2.locals ≤ rm.locals) (hst : st = As.reverse ++ rest) (hcat : (rest.map fun v => v.category).sum ≤ 8) (hd : decode cc pc = .ok (.invokestatic index, 3)) (hf2 : ce + mc ≤ rm.cells ∧ sl + ms ≤ rm.slots)
    (kk : ∀ (r : Option Value) (N' : Nat) (ad' : Nat → Nat) (u : Nat → va_E), post r N' ad' u → V E g N' ad' (ce + mc) (sl + ms) u (pc + 3) lo (r.toList ++ rest)) : V E g N ad ce sl f pc lo st := by
  have hC0 := hC
  obtain ⟨c1, c2, c3, c4, c5, c6, c7, c8, c9, c10⟩ := hC
  subst c10
  refine V_run (post := post) (a := As.toArray) hC0 (fun H locs ls hP hD hS hsz => ?_) kk
  exact va_runS (As := As) (rest := rest) ⟨c1, c2, c3, c4, c5⟩ hM (va_cwS n c5 hG hw hrc.1 hrc.2 hd2 hR) ⟨WC.blind, fun U hU hW => ⟨rfl, WC.at hC0 hP hD hS hU hW⟩⟩ rfl hn hsz hst (lv_room hcat) hd hf2

theorem V_cvI (hC : CX E g cc Ts own rm) {y : MethodName} {ws ws' : List Cond} {rm2 : Room} {n index maxL i ci Nf : Nat} {As rest : List Value} {C : String} {T : u_T} {fs : List Value} {bytes : ByteArray} {ret : Option FieldType} {P : Int32 → (Nat → va_E) → Prop}
    (hM : Ct g (eL E) y ws rm2 N ad (.ref (ad i) :: As) f (pI N ad P) 0 0) (hd : decode cc pc = .ok (.invokevirtual index, 3)) (hG : GoodIn Ts (wsV own index C y ws)) (hst : st = As.reverse ++ .ref (ad i) :: rest) (hn : As.length = n) (hw : ws = Cond.code y bytes maxL ret :: ws') (hrc : rm2.cells = 0 ∧ rm2.slots = 0) (hd2 : y.cls = C ∧ y.cls ≠ "java/lang/invoke/MethodHandle" ∧ y.cls ≠ "java/lang/invoke/VarHandle" ∧ (parseMethodDescriptor y.desc).map (fun d => d.parameters.length) = some n)
    (hR : rm2.frames + 1 ≤ rm.frames ∧ 8 + (maxL + 11) + rm2.locals ≤ rm.locals) (hi : i < N) (hf : f i = .inr (ci, fs)) (hcl : vwCl[ci]? = some (C, T, Nf)) (hcat : (rest.map fun v => v.category).sum ≤ 8) (hf2 : ce ≤ rm.cells ∧ sl ≤ rm.slots) (kk : ∀ (x : Int32) (u : Nat → va_E), P x u → V E g N ad ce sl u (pc + 3) lo (.int x :: rest)) : V E g N ad ce sl f pc lo st := by
  refine V_cv hC hM hn hG hw hrc hd2 hR hi hf hcl hst hcat hd hf2 (fun r N' ad' u h => ?_)
  obtain ⟨rfl, rfl, x, rfl, h⟩ := h
  exact kk x u h
theorem V_cvV (hC : CX E g cc Ts own rm) {y : MethodName} {ws ws' : List Cond} {rm2 : Room} {n index maxL i ci Nf : Nat} {As rest : List Value} {C : String} {T : u_T} {fs : List Value} {bytes : ByteArray} {ret : Option FieldType} {P : (Nat → va_E) → Prop}
    (hM : Ct g (eL E) y ws rm2 N ad (.ref (ad i) :: As) f (pV N ad P) 0 0) (hd : decode cc pc = .ok (.invokevirtual index, 3)) (hG : GoodIn Ts (wsV own index C y ws)) (hst : st = As.reverse ++ .ref (ad i) :: rest) (hn : As.length = n) (hw : ws = Cond.code y bytes maxL ret :: ws') (hrc : rm2.cells = 0 ∧ rm2.slots = 0) (hd2 : y.cls = C ∧ y.cls ≠ "java/lang/invoke/MethodHandle" ∧ y.cls ≠ "java/lang/invoke/VarHandle" ∧ (parseMethodDescriptor y.desc).map (fun d => d.parameters.length) = some n)
    (hR : rm2.frames + 1 ≤ rm.frames ∧ 8 + (maxL + 11) + rm2.locals ≤ rm.locals) (hi : i < N) (hf : f i = .inr (ci, fs)) (hcl : vwCl[ci]? = some (C, T, Nf)) (hcat : (rest.map fun v => v.category).sum ≤ 8) (hf2 : ce ≤ rm.cells ∧ sl ≤ rm.slots) (kk : ∀ (u : Nat → va_E), P u → V E g N ad ce sl u (pc + 3) lo rest) : V E g N ad ce sl f pc lo st := by
  refine V_cv hC hM hn hG hw hrc hd2 hR hi hf hcl hst hcat hd hf2 (fun r N' ad' u h => ?_)
  obtain ⟨rfl, rfl, rfl, h⟩ := h
  exact kk u h
theorem V_cvR (hC : CX E g cc Ts own rm) {y : MethodName} {ws ws' : List Cond} {rm2 : Room} {n index maxL i ci Nf : Nat} {As rest : List Value} {C : String} {T : u_T} {fs : List Value} {bytes : ByteArray} {ret : Option FieldType} {P : Nat → (Nat → va_E) → Prop}
    (hM : Ct g (eL E) y ws rm2 N ad (.ref (ad i) :: As) f (pR N ad P) 0 0) (hd : decode cc pc = .ok (.invokevirtual index, 3)) (hG : GoodIn Ts (wsV own index C y ws)) (hst : st = As.reverse ++ .ref (ad i) :: rest) (hn : As.length = n) (hw : ws = Cond.code y bytes maxL ret :: ws') (hrc : rm2.cells = 0 ∧ rm2.slots = 0) (hd2 : y.cls = C ∧ y.cls ≠ "java/lang/invoke/MethodHandle" ∧ y.cls ≠ "java/lang/invoke/VarHandle" ∧ (parseMethodDescriptor y.desc).map (fun d => d.parameters.length) = some n)
    (hR : rm2.frames + 1 ≤ rm.frames ∧ 8 + (maxL + 11) + rm2.locals ≤ rm.locals) (hi : i < N) (hf : f i = .inr (ci, fs)) (hcl : vwCl[ci]? = some (C, T, Nf)) (hcat : (rest.map fun v => v.category).sum ≤ 8) (hf2 : ce ≤ rm.cells ∧ sl ≤ rm.slots) (kk : ∀ (x : Nat) (u : Nat → va_E), P x u → V E g N ad ce sl u (pc + 3) lo (.ref x :: rest)) : V E g N ad ce sl f pc lo st := by
  refine V_cv hC hM hn hG hw hrc hd2 hR hi hf hcl hst hcat hd hf2 (fun r N' ad' u h => ?_)
  obtain ⟨rfl, rfl, x, rfl, h⟩ := h
  exact kk x u h
theorem V_csI (hC : CX E g cc Ts own rm) {y : MethodName} {ws ws' : List Cond} {rm2 : Room} {n index maxL : Nat} {As rest : List Value} {bytes : ByteArray} {ret : Option FieldType} {P : Int32 → (Nat → va_E) → Prop}
    (hM : Ct g (eL E) y ws rm2 N ad As f (pI N ad P) 0 0) (hd : decode cc pc = .ok (.invokestatic index, 3)) (hG : GoodIn Ts (va_wsS own index y ws)) (hst : st = As.reverse ++ rest) (hn : As.length = n) (hw : ws = Cond.code y bytes maxL ret :: ws') (hrc : rm2.cells = 0 ∧ rm2.slots = 0) (hd2 : y.cls ≠ "java/lang/invoke/MethodHandle" ∧ y.cls ≠ "java/lang/invoke/VarHandle" ∧ (parseMethodDescriptor y.desc).map (fun d => d.parameters.length) = some n)
    (hR : rm2.frames + 1 ≤ rm.frames ∧ 8 + (maxL + 11) + rm2.locals ≤ rm.locals) (hcat : (rest.map fun v => v.category).sum ≤ 8) (hf2 : ce ≤ rm.cells ∧ sl ≤ rm.slots) (kk : ∀ (x : Int32) (u : Nat → va_E), P x u → V E g N ad ce sl u (pc + 3) lo (.int x :: rest)) : V E g N ad ce sl f pc lo st := by
  refine V_cs hC hM hn hG hw hrc hd2 hR hst hcat hd hf2 (fun r N' ad' u h => ?_)
  obtain ⟨rfl, rfl, x, rfl, h⟩ := h
  exact kk x u h
theorem V_csV (hC : CX E g cc Ts own rm) {y : MethodName} {ws ws' : List Cond} {rm2 : Room} {n index maxL : Nat} {As rest : List Value} {bytes : ByteArray} {ret : Option FieldType} {P : (Nat → va_E) → Prop}
    (hM : Ct g (eL E) y ws rm2 N ad As f (pV N ad P) 0 0) (hd : decode cc pc = .ok (.invokestatic index, 3)) (hG : GoodIn Ts (va_wsS own index y ws)) (hst : st = As.reverse ++ rest) (hn : As.length = n) (hw : ws = Cond.code y bytes maxL ret :: ws') (hrc : rm2.cells = 0 ∧ rm2.slots = 0) (hd2 : y.cls ≠ "java/lang/invoke/MethodHandle" ∧ y.cls ≠ "java/lang/invoke/VarHandle" ∧ (parseMethodDescriptor y.desc).map (fun d => d.parameters.length) = some n)
    (hR : rm2.frames + 1 ≤ rm.frames ∧ 8 + (maxL + 11) + rm2.locals ≤ rm.locals) (hcat : (rest.map fun v => v.category).sum ≤ 8) (hf2 : ce ≤ rm.cells ∧ sl ≤ rm.slots) (kk : ∀ (u : Nat → va_E), P u → V E g N ad ce sl u (pc + 3) lo rest) : V E g N ad ce sl f pc lo st := by
  refine V_cs hC hM hn hG hw hrc hd2 hR hst hcat hd hf2 (fun r N' ad' u h => ?_)
  obtain ⟨rfl, rfl, rfl, h⟩ := h
  exact kk u h
theorem V_csR (hC : CX E g cc Ts own rm) {y : MethodName} {ws ws' : List Cond} {rm2 : Room} {n index maxL : Nat} {As rest : List Value} {bytes : ByteArray} {ret : Option FieldType} {P : Nat → (Nat → va_E) → Prop}
    (hM : Ct g (eL E) y ws rm2 N ad As f (pR N ad P) 0 0) (hd : decode cc pc = .ok (.invokestatic index, 3)) (hG : GoodIn Ts (va_wsS own index y ws)) (hst : st = As.reverse ++ rest) (hn : As.length = n) (hw : ws = Cond.code y bytes maxL ret :: ws') (hrc : rm2.cells = 0 ∧ rm2.slots = 0) (hd2 : y.cls ≠ "java/lang/invoke/MethodHandle" ∧ y.cls ≠ "java/lang/invoke/VarHandle" ∧ (parseMethodDescriptor y.desc).map (fun d => d.parameters.length) = some n)
    (hR : rm2.frames + 1 ≤ rm.frames ∧ 8 + (maxL + 11) + rm2.locals ≤ rm.locals) (hcat : (rest.map fun v => v.category).sum ≤ 8) (hf2 : ce ≤ rm.cells ∧ sl ≤ rm.slots) (kk : ∀ (x : Nat) (u : Nat → va_E), P x u → V E g N ad ce sl u (pc + 3) lo (.ref x :: rest)) : V E g N ad ce sl f pc lo st := by
  refine V_cs hC hM hn hG hw hrc hd2 hR hst hcat hd hf2 (fun r N' ad' u h => ?_)
  obtain ⟨rfl, rfl, x, rfl, h⟩ := h
  exact kk x u h
/-! the ends -/
theorem V_iret (hC : CX E g cc Ts own rm) {post : Option Value → Nat → (Nat → Nat) → (Nat → va_E) → Prop} {v : Int32} (hR : RT E g ce sl (some .int) post) (hd : decode cc pc = .ok (.ireturn, 1)) (hp : post (some (.int v)) N ad f) : V E g N ad ce sl f pc lo [.int v] := by
  intro H locs ls hP hD hS hl
  rw [hR.2.2]
  exact W.iret hC.1 hC.2.1 hR.1 (fun t ht _ => ⟨⟨_, N, ad, f, rfl, hp, by rw [ht]; exact hP, hD⟩, hS.F ht⟩) hS.2.2 hd hR.2.1
theorem V_zret (hC : CX E g cc Ts own rm) {post : Option Value → Nat → (Nat → Nat) → (Nat → va_E) → Prop} {v : Int32} {ty : FieldType} (hR : RT E g ce sl (some ty) post) (hn : narrow ty (.int v) = .int v) (hd : decode cc pc = .ok (.ireturn, 1)) (hp : post (some (.int v)) N ad f) : V E g N ad ce sl f pc lo [.int v] := by
  intro H locs ls hP hD hS hl
  rw [hR.2.2]
  exact W.zret hC.1 hC.2.1 hR.1 hn (fun t ht _ => ⟨⟨_, N, ad, f, rfl, hp, by rw [ht]; exact hP, hD⟩, hS.F ht⟩) hS.2.2 hd hR.2.1
theorem V_vret (hC : CX E g cc Ts own rm) {post : Option Value → Nat → (Nat → Nat) → (Nat → va_E) → Prop} (hR : RT E g ce sl none post) (hd : decode cc pc = .ok (.return_, 1)) (hp : post none N ad f) : V E g N ad ce sl f pc lo [] := by
  intro H locs ls hP hD hS hl
  rw [hR.2.2]
  exact W.vret hC.1 hC.2.1 hR.1 (fun t ht _ => ⟨⟨_, N, ad, f, rfl, hp, by rw [ht]; exact hP, hD⟩, hS.F ht⟩) hS.2.2 hd hR.2.1
theorem V_aret (hC : CX E g cc Ts own rm) {post : Option Value → Nat → (Nat → Nat) → (Nat → va_E) → Prop} {a : Nat} {rt : FieldType} (hR : RT E g ce sl (some rt) post) (hrt : (∃ n, rt = .object n) ∨ ∃ t, rt = .array t) (hd : decode cc pc = .ok (.areturn, 1)) (hp : post (some (.ref a)) N ad f) : V E g N ad ce sl f pc lo [.ref a] := by
  intro H locs ls hP hD hS hl
  rw [hR.2.2]
  exact W.aret hC.1 hC.2.1 hR.1 hrt (Or.inr ⟨a, rfl⟩) (fun t ht _ => ⟨⟨_, N, ad, f, rfl, hp, by rw [ht]; exact hP, hD⟩, hS.F ht⟩) hS.2.2 hd hR.2.1
theorem V_widen {ce2 sl2 : Nat} (h1 : ce ≤ ce2) (h2 : sl ≤ sl2) (k : V E g N ad ce2 sl2 f pc lo st) : V E g N ad ce sl f pc lo st := fun H locs ls hP hD hS hl => W.widen h1 h2 (k H locs ls hP hD hS hl)
end
/-- a contract out of a walk -/
theorem Ct.of {g : GE} {l : Launch} {y : MethodName} {ws ws' : List Cond} {rm : Room} {N : Nat} {ad : Nat → Nat} {av : List Value} {f : Nat → va_E} {post : Option Value → Nat → (Nat → Nat) → (Nat → va_E) → Prop} {mc ms : Nat} {cc : ByteArray} {maxL : Nat} {ret : Option FieldType} (hw : ws = Cond.code y cc maxL ret :: ws') (hy : plainName y.cls = true) (lo : List (Option Value)) (hav : (lg_sl av).length ≤ maxL) (hlo : ∀ q ∈ lvo 0 lo, q ∈ lv_args 0 av)
    (body : ∀ E : EV, eN E = maxL → (eH E).name = y.name → CX E g cc ws y.cls rm → RT E g mc ms ret post → V E g N ad 0 0 f 0 lo []) : Ct g l y ws rm N ad av f post mc ms := by
  refine Met.ofW (cc := cc) (maxL := maxL) (ret := ret) hy hw ?_
  intro p e s m args below meth c s₁ B hml hv
  obtain ⟨rfl, hP, hK, hD, hz, hSF, hNF⟩ := hv
  have hts := atoms_spec (ws := ws) B.pre
  have hown : s.vm.findClass y.cls = some m.cls := findClass_of_methodNamed B.named
  rw [lg_entry_eq]
  have hl := lvo_sub (lv_entry av (n := maxL) hav) hlo
  exact body (p, l, e, rm, s, m, av.toArray, below, meth, c, maxL, MQ below (Qg g post) av.toArray s mc ms (gA g)) rfl (name_of_methodNamed B.named B.method).1 ⟨B.exec, B.bytes, hml, hown, hts, hK, hz, hSF, hNF, rfl⟩ ⟨B.returns, B.notSynchronized, rfl⟩ s.heap [] _ hP hD va_S.rf hl
end
section
section
variable {E : EV} {g : GE} {N : Nat} {ad : Nat → Nat} {ce sl : Nat} {f : Nat → va_E} {pc : Nat} {lo : List (Option Value)} {st : List Value} {cc : ByteArray} {Ts : List Cond} {own : String} {rm : Room}
end
def zD (g : GE) (ad : Nat → Nat) (f : Nat → va_E) (o : Nat) (sg : Nat → Int32) (ln : Int32) : Nat → va_E := fun q => if q = o then .inr (3, [.ref (ad (o + 1)), .int ln]) else if q = o + 1 then .inl (g.2.1 1, 60, .inl sg) else f q
section
variable {E : EV} {g : GE} {N : Nat} {ad : Nat → Nat} {ce sl : Nat} {f : Nat → va_E} {pc : Nat} {lo : List (Option Value)} {st : List Value} {cc : ByteArray} {Ts : List Cond} {own : String} {rm : Room}
variable {o : Nat} {sg : Nat → Int32} {ln : Int32}
theorem zD_0 : (zD g ad f o sg ln) o = .inr (3, [.ref (ad (o + 1)), .int ln]) := by simp [zD]
theorem zD_a1 : (zD g ad f o sg ln) (o + 1) = .inl (g.2.1 1, 60, .inl sg) := by simp [zD]
theorem zD_out {q : Nat} (h : q < o ∨ o + 2 ≤ q) : (zD g ad f o sg ln) q = f q := by
  unfold zD
  rw [if_neg (by omega), if_neg (by omega)]
theorem V_zD_signs (hC : CX E g cc Ts own rm) (hN : o + 2 ≤ N) {index : Nat} (hd : decode cc pc = .ok (.getfield index, 3)) (hin : ∀ w ∈ wsX30, w ∈ Ts) (hlk : Cond.fieldLink own index "BeltMarks$Pad" "signs" "[C" ∈ Ts) (kk : V E g N ad ce sl (zD g ad f o sg ln) (pc + 3) lo (.ref (ad (o + 1)) :: st)) : V E g N ad ce sl (zD g ad f o sg ln) pc lo (.ref (ad o) :: st) := V_get hC 0 hd (by omega) zD_0 rfl (by decide) hin hlk rfl kk
theorem V_zD_length (hC : CX E g cc Ts own rm) (hN : o + 2 ≤ N) {index : Nat} (hd : decode cc pc = .ok (.getfield index, 3)) (hin : ∀ w ∈ wsX30, w ∈ Ts) (hlk : Cond.fieldLink own index "BeltMarks$Pad" "length" "I" ∈ Ts) (kk : V E g N ad ce sl (zD g ad f o sg ln) (pc + 3) lo (.int ln :: st)) : V E g N ad ce sl (zD g ad f o sg ln) pc lo (.ref (ad o) :: st) := V_get hC 1 hd (by omega) zD_0 rfl (by decide) hin hlk rfl kk
theorem zD_u_length {z : Int32} : va_up (zD g ad f o sg ln) o (.inr (3, [.ref (ad (o + 1)), .int z])) = zD g ad f o sg z := by
  funext q
  unfold va_up zD
  by_cases h : q = o
  · subst h; simp
  · simp [h]
theorem V_zD_put_length (hC : CX E g cc Ts own rm) (hN : o + 2 ≤ N) {index : Nat} {z : Int32} (hd : decode cc pc = .ok (.putfield index, 3)) (hin : ∀ w ∈ wsX30, w ∈ Ts) (hlk : Cond.fieldLink own index "BeltMarks$Pad" "length" "I" ∈ Ts) (kk : V E g N ad ce sl (zD g ad f o sg z) (pc + 3) lo st) : V E g N ad ce sl (zD g ad f o sg ln) pc lo (.int z :: .ref (ad o) :: st) := V_put hC (ty := .int) 1 hd (by omega) zD_0 rfl (by decide) hin hlk tyX3_ok nmX3 rfl rfl rfl rfl (by simp) (V_f zD_u_length kk)
theorem zD_u1 {z : Nat → Int32} : va_up (zD g ad f o sg ln) (o + 1) (.inl (g.2.1 1, 60, .inl z)) = zD g ad f o z ln := by
  funext q
  unfold va_up zD
  by_cases h : q = o + 1
  · subst h; simp
  · simp [h]
theorem V_zD_ld1 (hC : CX E g cc Ts own rm) (hN : o + 2 ≤ N) {j : Int32} {k : Nat} (hd : decode cc pc = .ok (.caload, 1)) (hx : ix j k 60) (kk : V E g N ad ce sl (zD g ad f o sg ln) (pc + 1) lo (.int (sg k) :: st)) : V E g N ad ce sl (zD g ad f o sg ln) pc lo (.int j :: .ref (ad (o + 1)) :: st) := V_cald hC hd (by omega) zD_a1 hx kk
theorem V_zD_st1 (hC : CX E g cc Ts own rm) (hN : o + 2 ≤ N) {j x : Int32} {k : Nat} (hd : decode cc pc = .ok (.castore, 1)) (hx : ix j k 60) (kk : V E g N ad ce sl (zD g ad f o (upd sg k (vp_nar .char x)) ln) (pc + 1) lo st) : V E g N ad ce sl (zD g ad f o sg ln) pc lo (.int x :: .int j :: .ref (ad (o + 1)) :: st) := V_cast hC hd (by omega) zD_a1 hx (V_f zD_u1 kk)
theorem V_zD_len1 (hC : CX E g cc Ts own rm) (hN : o + 2 ≤ N) (v : Int32) (hd : decode cc pc = .ok (.arraylength, 1)) (hv : Int32.ofNat 60 = v) (kk : V E g N ad ce sl (zD g ad f o sg ln) (pc + 1) lo (.int v :: st)) : V E g N ad ce sl (zD g ad f o sg ln) pc lo (.ref (ad (o + 1)) :: st) := V_alen (t0 := 1) (ty := .char) hC v hd (by omega) zD_a1 rfl hv kk
end
def zY (g : GE) (ad : Nat → Nat) (f : Nat → va_E) (o : Nat) (ss : Nat → Option Nat) (ol : Int32) (sz : Int32) : Nat → va_E := fun q => if q = o then .inr (2, [.ref (ad (o + 1)), .int ol, .int sz]) else if q = o + 1 then .inl (g.2.1 3, 7, .inr (.inr (.inr (.inr ss)))) else f q
section
variable {E : EV} {g : GE} {N : Nat} {ad : Nat → Nat} {ce sl : Nat} {f : Nat → va_E} {pc : Nat} {lo : List (Option Value)} {st : List Value} {cc : ByteArray} {Ts : List Cond} {own : String} {rm : Room}
variable {o : Nat} {ss : Nat → Option Nat} {ol : Int32} {sz : Int32}
theorem zY_0 : (zY g ad f o ss ol sz) o = .inr (2, [.ref (ad (o + 1)), .int ol, .int sz]) := by simp [zY]
theorem zY_a1 : (zY g ad f o ss ol sz) (o + 1) = .inl (g.2.1 3, 7, .inr (.inr (.inr (.inr ss)))) := by simp [zY]
theorem zY_out {q : Nat} (h : q < o ∨ o + 2 ≤ q) : (zY g ad f o ss ol sz) q = f q := by
  unfold zY
  rw [if_neg (by omega), if_neg (by omega)]
theorem V_zY_states (hC : CX E g cc Ts own rm) (hN : o + 2 ≤ N) {index : Nat} (hd : decode cc pc = .ok (.getfield index, 3)) (hin : ∀ w ∈ wsX20, w ∈ Ts) (hlk : Cond.fieldLink own index "BeltMarks$History" "states" "[LBeltMarks$Belt;" ∈ Ts) (kk : V E g N ad ce sl (zY g ad f o ss ol sz) (pc + 3) lo (.ref (ad (o + 1)) :: st)) : V E g N ad ce sl (zY g ad f o ss ol sz) pc lo (.ref (ad o) :: st) := V_get hC 0 hd (by omega) zY_0 rfl (by decide) hin hlk rfl kk
theorem V_zY_oldest (hC : CX E g cc Ts own rm) (hN : o + 2 ≤ N) {index : Nat} (hd : decode cc pc = .ok (.getfield index, 3)) (hin : ∀ w ∈ wsX20, w ∈ Ts) (hlk : Cond.fieldLink own index "BeltMarks$History" "oldest" "I" ∈ Ts) (kk : V E g N ad ce sl (zY g ad f o ss ol sz) (pc + 3) lo (.int ol :: st)) : V E g N ad ce sl (zY g ad f o ss ol sz) pc lo (.ref (ad o) :: st) := V_get hC 1 hd (by omega) zY_0 rfl (by decide) hin hlk rfl kk
theorem zY_u_oldest {z : Int32} : va_up (zY g ad f o ss ol sz) o (.inr (2, [.ref (ad (o + 1)), .int z, .int sz])) = zY g ad f o ss z sz := by
  funext q
  unfold va_up zY
  by_cases h : q = o
  · subst h; simp
  · simp [h]
theorem V_zY_put_oldest (hC : CX E g cc Ts own rm) (hN : o + 2 ≤ N) {index : Nat} {z : Int32} (hd : decode cc pc = .ok (.putfield index, 3)) (hin : ∀ w ∈ wsX20, w ∈ Ts) (hlk : Cond.fieldLink own index "BeltMarks$History" "oldest" "I" ∈ Ts) (kk : V E g N ad ce sl (zY g ad f o ss z sz) (pc + 3) lo st) : V E g N ad ce sl (zY g ad f o ss ol sz) pc lo (.int z :: .ref (ad o) :: st) := V_put hC (ty := .int) 1 hd (by omega) zY_0 rfl (by decide) hin hlk tyX2_ok nmX2 rfl rfl rfl rfl (by simp) (V_f zY_u_oldest kk)
theorem V_zY_size (hC : CX E g cc Ts own rm) (hN : o + 2 ≤ N) {index : Nat} (hd : decode cc pc = .ok (.getfield index, 3)) (hin : ∀ w ∈ wsX20, w ∈ Ts) (hlk : Cond.fieldLink own index "BeltMarks$History" "size" "I" ∈ Ts) (kk : V E g N ad ce sl (zY g ad f o ss ol sz) (pc + 3) lo (.int sz :: st)) : V E g N ad ce sl (zY g ad f o ss ol sz) pc lo (.ref (ad o) :: st) := V_get hC 2 hd (by omega) zY_0 rfl (by decide) hin hlk rfl kk
theorem zY_u_size {z : Int32} : va_up (zY g ad f o ss ol sz) o (.inr (2, [.ref (ad (o + 1)), .int ol, .int z])) = zY g ad f o ss ol z := by
  funext q
  unfold va_up zY
  by_cases h : q = o
  · subst h; simp
  · simp [h]
theorem V_zY_put_size (hC : CX E g cc Ts own rm) (hN : o + 2 ≤ N) {index : Nat} {z : Int32} (hd : decode cc pc = .ok (.putfield index, 3)) (hin : ∀ w ∈ wsX20, w ∈ Ts) (hlk : Cond.fieldLink own index "BeltMarks$History" "size" "I" ∈ Ts) (kk : V E g N ad ce sl (zY g ad f o ss ol z) (pc + 3) lo st) : V E g N ad ce sl (zY g ad f o ss ol sz) pc lo (.int z :: .ref (ad o) :: st) := V_put hC (ty := .int) 2 hd (by omega) zY_0 rfl (by decide) hin hlk tyX2_ok nmX2 rfl rfl rfl rfl (by simp) (V_f zY_u_size kk)
end
def zB0 (g : GE) (ad : Nat → Nat) (f : Nat → va_E) (c : Nat) (s : Nat → Int32) (t : Nat → Int32) (bs : Nat → Option Nat) (bc : Int32) (co : Nat → Int32) (ex : Nat → Int32) (rc : Int32) (pl : Nat → Int32) (pn : Int32) (wy : Nat → Int32) : Nat → va_E := fun q => if q = c then .inr (0, [.ref (ad (c + 1)), .ref (ad (c + 2)), .ref (ad (c + 3)), .int bc, .ref (ad (c + 4)), .ref (ad (c + 5)), .int rc, .ref (ad (c + 6)), .int pn, .ref (ad (c + 7))]) else if q = c + 1 then .inl (g.2.1 0, 8, .inl s) else if q = c + 2 then .inl (g.2.1 0, 14, .inl t) else if q = c + 3 then .inl (g.2.1 4, 8, .inr (.inr (.inr (.inr bs)))) else if q = c + 4 then .inl (g.2.1 0, 32, .inl co) else if q = c + 5 then .inl (g.2.1 0, 32, .inl ex) else if q = c + 6 then .inl (g.2.1 0, 32, .inl pl) else if q = c + 7 then .inl (g.2.1 0, 5, .inl wy) else f q
section
variable {E : EV} {g : GE} {N : Nat} {ad : Nat → Nat} {ce sl : Nat} {f : Nat → va_E} {pc : Nat} {lo : List (Option Value)} {st : List Value} {cc : ByteArray} {Ts : List Cond} {own : String} {rm : Room}
variable {c : Nat} {s : Nat → Int32} {t : Nat → Int32} {bs : Nat → Option Nat} {bc : Int32} {co : Nat → Int32} {ex : Nat → Int32} {rc : Int32} {pl : Nat → Int32} {pn : Int32} {wy : Nat → Int32}
theorem zB0_0 : (zB0 g ad f c s t bs bc co ex rc pl pn wy) c = .inr (0, [.ref (ad (c + 1)), .ref (ad (c + 2)), .ref (ad (c + 3)), .int bc, .ref (ad (c + 4)), .ref (ad (c + 5)), .int rc, .ref (ad (c + 6)), .int pn, .ref (ad (c + 7))]) := by simp [zB0]
theorem zB0_a1 : (zB0 g ad f c s t bs bc co ex rc pl pn wy) (c + 1) = .inl (g.2.1 0, 8, .inl s) := by simp [zB0]
theorem zB0_a2 : (zB0 g ad f c s t bs bc co ex rc pl pn wy) (c + 2) = .inl (g.2.1 0, 14, .inl t) := by simp [zB0]
theorem zB0_a3 : (zB0 g ad f c s t bs bc co ex rc pl pn wy) (c + 3) = .inl (g.2.1 4, 8, .inr (.inr (.inr (.inr bs)))) := by simp [zB0]
theorem zB0_a4 : (zB0 g ad f c s t bs bc co ex rc pl pn wy) (c + 4) = .inl (g.2.1 0, 32, .inl co) := by simp [zB0]
theorem zB0_a5 : (zB0 g ad f c s t bs bc co ex rc pl pn wy) (c + 5) = .inl (g.2.1 0, 32, .inl ex) := by simp [zB0]
theorem zB0_a6 : (zB0 g ad f c s t bs bc co ex rc pl pn wy) (c + 6) = .inl (g.2.1 0, 32, .inl pl) := by simp [zB0]
theorem zB0_a7 : (zB0 g ad f c s t bs bc co ex rc pl pn wy) (c + 7) = .inl (g.2.1 0, 5, .inl wy) := by simp [zB0]
theorem zB0_out {q : Nat} (h : q < c ∨ c + 8 ≤ q) : (zB0 g ad f c s t bs bc co ex rc pl pn wy) q = f q := by
  unfold zB0
  rw [if_neg (by omega), if_neg (by omega), if_neg (by omega), if_neg (by omega), if_neg (by omega), if_neg (by omega), if_neg (by omega), if_neg (by omega)]
theorem V_zB0_settings (hC : CX E g cc Ts own rm) (hN : c + 8 ≤ N) {index : Nat} (hd : decode cc pc = .ok (.getfield index, 3)) (hin : ∀ w ∈ wsX00, w ∈ Ts) (hlk : Cond.fieldLink own index "BeltMarks$Belt" "settings" "[I" ∈ Ts) (kk : V E g N ad ce sl (zB0 g ad f c s t bs bc co ex rc pl pn wy) (pc + 3) lo (.ref (ad (c + 1)) :: st)) : V E g N ad ce sl (zB0 g ad f c s t bs bc co ex rc pl pn wy) pc lo (.ref (ad c) :: st) := V_get hC 0 hd (by omega) zB0_0 rfl (by decide) hin hlk rfl kk
theorem V_zB0_tallies (hC : CX E g cc Ts own rm) (hN : c + 8 ≤ N) {index : Nat} (hd : decode cc pc = .ok (.getfield index, 3)) (hin : ∀ w ∈ wsX00, w ∈ Ts) (hlk : Cond.fieldLink own index "BeltMarks$Belt" "tallies" "[I" ∈ Ts) (kk : V E g N ad ce sl (zB0 g ad f c s t bs bc co ex rc pl pn wy) (pc + 3) lo (.ref (ad (c + 2)) :: st)) : V E g N ad ce sl (zB0 g ad f c s t bs bc co ex rc pl pn wy) pc lo (.ref (ad c) :: st) := V_get hC 1 hd (by omega) zB0_0 rfl (by decide) hin hlk rfl kk
theorem V_zB0_boxes (hC : CX E g cc Ts own rm) (hN : c + 8 ≤ N) {index : Nat} (hd : decode cc pc = .ok (.getfield index, 3)) (hin : ∀ w ∈ wsX00, w ∈ Ts) (hlk : Cond.fieldLink own index "BeltMarks$Belt" "boxes" "[LBeltMarks$Box;" ∈ Ts) (kk : V E g N ad ce sl (zB0 g ad f c s t bs bc co ex rc pl pn wy) (pc + 3) lo (.ref (ad (c + 3)) :: st)) : V E g N ad ce sl (zB0 g ad f c s t bs bc co ex rc pl pn wy) pc lo (.ref (ad c) :: st) := V_get hC 2 hd (by omega) zB0_0 rfl (by decide) hin hlk rfl kk
theorem V_zB0_boxCount (hC : CX E g cc Ts own rm) (hN : c + 8 ≤ N) {index : Nat} (hd : decode cc pc = .ok (.getfield index, 3)) (hin : ∀ w ∈ wsX00, w ∈ Ts) (hlk : Cond.fieldLink own index "BeltMarks$Belt" "boxCount" "I" ∈ Ts) (kk : V E g N ad ce sl (zB0 g ad f c s t bs bc co ex rc pl pn wy) (pc + 3) lo (.int bc :: st)) : V E g N ad ce sl (zB0 g ad f c s t bs bc co ex rc pl pn wy) pc lo (.ref (ad c) :: st) := V_get hC 3 hd (by omega) zB0_0 rfl (by decide) hin hlk rfl kk
theorem zB0_u_boxCount {z : Int32} : va_up (zB0 g ad f c s t bs bc co ex rc pl pn wy) c (.inr (0, [.ref (ad (c + 1)), .ref (ad (c + 2)), .ref (ad (c + 3)), .int z, .ref (ad (c + 4)), .ref (ad (c + 5)), .int rc, .ref (ad (c + 6)), .int pn, .ref (ad (c + 7))])) = zB0 g ad f c s t bs z co ex rc pl pn wy := by
  funext q
  unfold va_up zB0
  by_cases h : q = c
  · subst h; simp
  · simp [h]
theorem V_zB0_put_boxCount (hC : CX E g cc Ts own rm) (hN : c + 8 ≤ N) {index : Nat} {z : Int32} (hd : decode cc pc = .ok (.putfield index, 3)) (hin : ∀ w ∈ wsX00, w ∈ Ts) (hlk : Cond.fieldLink own index "BeltMarks$Belt" "boxCount" "I" ∈ Ts) (kk : V E g N ad ce sl (zB0 g ad f c s t bs z co ex rc pl pn wy) (pc + 3) lo st) : V E g N ad ce sl (zB0 g ad f c s t bs bc co ex rc pl pn wy) pc lo (.int z :: .ref (ad c) :: st) := V_put hC (ty := .int) 3 hd (by omega) zB0_0 rfl (by decide) hin hlk tyX0_ok nmX0 rfl rfl rfl rfl (by simp) (V_f zB0_u_boxCount kk)
theorem V_zB0_comes (hC : CX E g cc Ts own rm) (hN : c + 8 ≤ N) {index : Nat} (hd : decode cc pc = .ok (.getfield index, 3)) (hin : ∀ w ∈ wsX00, w ∈ Ts) (hlk : Cond.fieldLink own index "BeltMarks$Belt" "comes" "[I" ∈ Ts) (kk : V E g N ad ce sl (zB0 g ad f c s t bs bc co ex rc pl pn wy) (pc + 3) lo (.ref (ad (c + 4)) :: st)) : V E g N ad ce sl (zB0 g ad f c s t bs bc co ex rc pl pn wy) pc lo (.ref (ad c) :: st) := V_get hC 4 hd (by omega) zB0_0 rfl (by decide) hin hlk rfl kk
theorem V_zB0_excesses (hC : CX E g cc Ts own rm) (hN : c + 8 ≤ N) {index : Nat} (hd : decode cc pc = .ok (.getfield index, 3)) (hin : ∀ w ∈ wsX00, w ∈ Ts) (hlk : Cond.fieldLink own index "BeltMarks$Belt" "excesses" "[I" ∈ Ts) (kk : V E g N ad ce sl (zB0 g ad f c s t bs bc co ex rc pl pn wy) (pc + 3) lo (.ref (ad (c + 5)) :: st)) : V E g N ad ce sl (zB0 g ad f c s t bs bc co ex rc pl pn wy) pc lo (.ref (ad c) :: st) := V_get hC 5 hd (by omega) zB0_0 rfl (by decide) hin hlk rfl kk
theorem V_zB0_reportCount (hC : CX E g cc Ts own rm) (hN : c + 8 ≤ N) {index : Nat} (hd : decode cc pc = .ok (.getfield index, 3)) (hin : ∀ w ∈ wsX00, w ∈ Ts) (hlk : Cond.fieldLink own index "BeltMarks$Belt" "reportCount" "I" ∈ Ts) (kk : V E g N ad ce sl (zB0 g ad f c s t bs bc co ex rc pl pn wy) (pc + 3) lo (.int rc :: st)) : V E g N ad ce sl (zB0 g ad f c s t bs bc co ex rc pl pn wy) pc lo (.ref (ad c) :: st) := V_get hC 6 hd (by omega) zB0_0 rfl (by decide) hin hlk rfl kk
theorem zB0_u_reportCount {z : Int32} : va_up (zB0 g ad f c s t bs bc co ex rc pl pn wy) c (.inr (0, [.ref (ad (c + 1)), .ref (ad (c + 2)), .ref (ad (c + 3)), .int bc, .ref (ad (c + 4)), .ref (ad (c + 5)), .int z, .ref (ad (c + 6)), .int pn, .ref (ad (c + 7))])) = zB0 g ad f c s t bs bc co ex z pl pn wy := by
  funext q
  unfold va_up zB0
  by_cases h : q = c
  · subst h; simp
  · simp [h]
theorem V_zB0_put_reportCount (hC : CX E g cc Ts own rm) (hN : c + 8 ≤ N) {index : Nat} {z : Int32} (hd : decode cc pc = .ok (.putfield index, 3)) (hin : ∀ w ∈ wsX00, w ∈ Ts) (hlk : Cond.fieldLink own index "BeltMarks$Belt" "reportCount" "I" ∈ Ts) (kk : V E g N ad ce sl (zB0 g ad f c s t bs bc co ex z pl pn wy) (pc + 3) lo st) : V E g N ad ce sl (zB0 g ad f c s t bs bc co ex rc pl pn wy) pc lo (.int z :: .ref (ad c) :: st) := V_put hC (ty := .int) 6 hd (by omega) zB0_0 rfl (by decide) hin hlk tyX0_ok nmX0 rfl rfl rfl rfl (by simp) (V_f zB0_u_reportCount kk)
theorem V_zB0_plans (hC : CX E g cc Ts own rm) (hN : c + 8 ≤ N) {index : Nat} (hd : decode cc pc = .ok (.getfield index, 3)) (hin : ∀ w ∈ wsX00, w ∈ Ts) (hlk : Cond.fieldLink own index "BeltMarks$Belt" "plans" "[I" ∈ Ts) (kk : V E g N ad ce sl (zB0 g ad f c s t bs bc co ex rc pl pn wy) (pc + 3) lo (.ref (ad (c + 6)) :: st)) : V E g N ad ce sl (zB0 g ad f c s t bs bc co ex rc pl pn wy) pc lo (.ref (ad c) :: st) := V_get hC 7 hd (by omega) zB0_0 rfl (by decide) hin hlk rfl kk
theorem V_zB0_planCount (hC : CX E g cc Ts own rm) (hN : c + 8 ≤ N) {index : Nat} (hd : decode cc pc = .ok (.getfield index, 3)) (hin : ∀ w ∈ wsX00, w ∈ Ts) (hlk : Cond.fieldLink own index "BeltMarks$Belt" "planCount" "I" ∈ Ts) (kk : V E g N ad ce sl (zB0 g ad f c s t bs bc co ex rc pl pn wy) (pc + 3) lo (.int pn :: st)) : V E g N ad ce sl (zB0 g ad f c s t bs bc co ex rc pl pn wy) pc lo (.ref (ad c) :: st) := V_get hC 8 hd (by omega) zB0_0 rfl (by decide) hin hlk rfl kk
theorem zB0_u_planCount {z : Int32} : va_up (zB0 g ad f c s t bs bc co ex rc pl pn wy) c (.inr (0, [.ref (ad (c + 1)), .ref (ad (c + 2)), .ref (ad (c + 3)), .int bc, .ref (ad (c + 4)), .ref (ad (c + 5)), .int rc, .ref (ad (c + 6)), .int z, .ref (ad (c + 7))])) = zB0 g ad f c s t bs bc co ex rc pl z wy := by
  funext q
  unfold va_up zB0
  by_cases h : q = c
  · subst h; simp
  · simp [h]
theorem V_zB0_put_planCount (hC : CX E g cc Ts own rm) (hN : c + 8 ≤ N) {index : Nat} {z : Int32} (hd : decode cc pc = .ok (.putfield index, 3)) (hin : ∀ w ∈ wsX00, w ∈ Ts) (hlk : Cond.fieldLink own index "BeltMarks$Belt" "planCount" "I" ∈ Ts) (kk : V E g N ad ce sl (zB0 g ad f c s t bs bc co ex rc pl z wy) (pc + 3) lo st) : V E g N ad ce sl (zB0 g ad f c s t bs bc co ex rc pl pn wy) pc lo (.int z :: .ref (ad c) :: st) := V_put hC (ty := .int) 8 hd (by omega) zB0_0 rfl (by decide) hin hlk tyX0_ok nmX0 rfl rfl rfl rfl (by simp) (V_f zB0_u_planCount kk)
theorem V_zB0_ways (hC : CX E g cc Ts own rm) (hN : c + 8 ≤ N) {index : Nat} (hd : decode cc pc = .ok (.getfield index, 3)) (hin : ∀ w ∈ wsX00, w ∈ Ts) (hlk : Cond.fieldLink own index "BeltMarks$Belt" "ways" "[I" ∈ Ts) (kk : V E g N ad ce sl (zB0 g ad f c s t bs bc co ex rc pl pn wy) (pc + 3) lo (.ref (ad (c + 7)) :: st)) : V E g N ad ce sl (zB0 g ad f c s t bs bc co ex rc pl pn wy) pc lo (.ref (ad c) :: st) := V_get hC 9 hd (by omega) zB0_0 rfl (by decide) hin hlk rfl kk
theorem zB0_u1 {z : Nat → Int32} : va_up (zB0 g ad f c s t bs bc co ex rc pl pn wy) (c + 1) (.inl (g.2.1 0, 8, .inl z)) = zB0 g ad f c z t bs bc co ex rc pl pn wy := by
  funext q
  unfold va_up zB0
  by_cases h : q = c + 1
  · subst h; simp
  · simp [h]
theorem V_zB0_ld1 (hC : CX E g cc Ts own rm) (hN : c + 8 ≤ N) {j : Int32} {k : Nat} (hd : decode cc pc = .ok (.iaload, 1)) (hx : ix j k 8) (kk : V E g N ad ce sl (zB0 g ad f c s t bs bc co ex rc pl pn wy) (pc + 1) lo (.int (s k) :: st)) : V E g N ad ce sl (zB0 g ad f c s t bs bc co ex rc pl pn wy) pc lo (.int j :: .ref (ad (c + 1)) :: st) := V_iald hC hd (by omega) zB0_a1 hx kk
theorem V_zB0_st1 (hC : CX E g cc Ts own rm) (hN : c + 8 ≤ N) {j x : Int32} {k : Nat} (hd : decode cc pc = .ok (.iastore, 1)) (hx : ix j k 8) (kk : V E g N ad ce sl (zB0 g ad f c (upd s k x) t bs bc co ex rc pl pn wy) (pc + 1) lo st) : V E g N ad ce sl (zB0 g ad f c s t bs bc co ex rc pl pn wy) pc lo (.int x :: .int j :: .ref (ad (c + 1)) :: st) := V_iast hC hd (by omega) zB0_a1 hx (V_f zB0_u1 kk)
theorem V_zB0_len1 (hC : CX E g cc Ts own rm) (hN : c + 8 ≤ N) (v : Int32) (hd : decode cc pc = .ok (.arraylength, 1)) (hv : Int32.ofNat 8 = v) (kk : V E g N ad ce sl (zB0 g ad f c s t bs bc co ex rc pl pn wy) (pc + 1) lo (.int v :: st)) : V E g N ad ce sl (zB0 g ad f c s t bs bc co ex rc pl pn wy) pc lo (.ref (ad (c + 1)) :: st) := V_alen (t0 := 0) (ty := .int) hC v hd (by omega) zB0_a1 rfl hv kk
theorem zB0_u2 {z : Nat → Int32} : va_up (zB0 g ad f c s t bs bc co ex rc pl pn wy) (c + 2) (.inl (g.2.1 0, 14, .inl z)) = zB0 g ad f c s z bs bc co ex rc pl pn wy := by
  funext q
  unfold va_up zB0
  by_cases h : q = c + 2
  · subst h; simp
  · simp [h]
theorem V_zB0_ld2 (hC : CX E g cc Ts own rm) (hN : c + 8 ≤ N) {j : Int32} {k : Nat} (hd : decode cc pc = .ok (.iaload, 1)) (hx : ix j k 14) (kk : V E g N ad ce sl (zB0 g ad f c s t bs bc co ex rc pl pn wy) (pc + 1) lo (.int (t k) :: st)) : V E g N ad ce sl (zB0 g ad f c s t bs bc co ex rc pl pn wy) pc lo (.int j :: .ref (ad (c + 2)) :: st) := V_iald hC hd (by omega) zB0_a2 hx kk
theorem V_zB0_st2 (hC : CX E g cc Ts own rm) (hN : c + 8 ≤ N) {j x : Int32} {k : Nat} (hd : decode cc pc = .ok (.iastore, 1)) (hx : ix j k 14) (kk : V E g N ad ce sl (zB0 g ad f c s (upd t k x) bs bc co ex rc pl pn wy) (pc + 1) lo st) : V E g N ad ce sl (zB0 g ad f c s t bs bc co ex rc pl pn wy) pc lo (.int x :: .int j :: .ref (ad (c + 2)) :: st) := V_iast hC hd (by omega) zB0_a2 hx (V_f zB0_u2 kk)
theorem V_zB0_len2 (hC : CX E g cc Ts own rm) (hN : c + 8 ≤ N) (v : Int32) (hd : decode cc pc = .ok (.arraylength, 1)) (hv : Int32.ofNat 14 = v) (kk : V E g N ad ce sl (zB0 g ad f c s t bs bc co ex rc pl pn wy) (pc + 1) lo (.int v :: st)) : V E g N ad ce sl (zB0 g ad f c s t bs bc co ex rc pl pn wy) pc lo (.ref (ad (c + 2)) :: st) := V_alen (t0 := 0) (ty := .int) hC v hd (by omega) zB0_a2 rfl hv kk
theorem zB0_u4 {z : Nat → Int32} : va_up (zB0 g ad f c s t bs bc co ex rc pl pn wy) (c + 4) (.inl (g.2.1 0, 32, .inl z)) = zB0 g ad f c s t bs bc z ex rc pl pn wy := by
  funext q
  unfold va_up zB0
  by_cases h : q = c + 4
  · subst h; simp
  · simp [h]
theorem V_zB0_ld4 (hC : CX E g cc Ts own rm) (hN : c + 8 ≤ N) {j : Int32} {k : Nat} (hd : decode cc pc = .ok (.iaload, 1)) (hx : ix j k 32) (kk : V E g N ad ce sl (zB0 g ad f c s t bs bc co ex rc pl pn wy) (pc + 1) lo (.int (co k) :: st)) : V E g N ad ce sl (zB0 g ad f c s t bs bc co ex rc pl pn wy) pc lo (.int j :: .ref (ad (c + 4)) :: st) := V_iald hC hd (by omega) zB0_a4 hx kk
theorem V_zB0_st4 (hC : CX E g cc Ts own rm) (hN : c + 8 ≤ N) {j x : Int32} {k : Nat} (hd : decode cc pc = .ok (.iastore, 1)) (hx : ix j k 32) (kk : V E g N ad ce sl (zB0 g ad f c s t bs bc (upd co k x) ex rc pl pn wy) (pc + 1) lo st) : V E g N ad ce sl (zB0 g ad f c s t bs bc co ex rc pl pn wy) pc lo (.int x :: .int j :: .ref (ad (c + 4)) :: st) := V_iast hC hd (by omega) zB0_a4 hx (V_f zB0_u4 kk)
theorem V_zB0_len4 (hC : CX E g cc Ts own rm) (hN : c + 8 ≤ N) (v : Int32) (hd : decode cc pc = .ok (.arraylength, 1)) (hv : Int32.ofNat 32 = v) (kk : V E g N ad ce sl (zB0 g ad f c s t bs bc co ex rc pl pn wy) (pc + 1) lo (.int v :: st)) : V E g N ad ce sl (zB0 g ad f c s t bs bc co ex rc pl pn wy) pc lo (.ref (ad (c + 4)) :: st) := V_alen (t0 := 0) (ty := .int) hC v hd (by omega) zB0_a4 rfl hv kk
theorem zB0_u5 {z : Nat → Int32} : va_up (zB0 g ad f c s t bs bc co ex rc pl pn wy) (c + 5) (.inl (g.2.1 0, 32, .inl z)) = zB0 g ad f c s t bs bc co z rc pl pn wy := by
  funext q
  unfold va_up zB0
  by_cases h : q = c + 5
  · subst h; simp
  · simp [h]
theorem V_zB0_ld5 (hC : CX E g cc Ts own rm) (hN : c + 8 ≤ N) {j : Int32} {k : Nat} (hd : decode cc pc = .ok (.iaload, 1)) (hx : ix j k 32) (kk : V E g N ad ce sl (zB0 g ad f c s t bs bc co ex rc pl pn wy) (pc + 1) lo (.int (ex k) :: st)) : V E g N ad ce sl (zB0 g ad f c s t bs bc co ex rc pl pn wy) pc lo (.int j :: .ref (ad (c + 5)) :: st) := V_iald hC hd (by omega) zB0_a5 hx kk
theorem V_zB0_st5 (hC : CX E g cc Ts own rm) (hN : c + 8 ≤ N) {j x : Int32} {k : Nat} (hd : decode cc pc = .ok (.iastore, 1)) (hx : ix j k 32) (kk : V E g N ad ce sl (zB0 g ad f c s t bs bc co (upd ex k x) rc pl pn wy) (pc + 1) lo st) : V E g N ad ce sl (zB0 g ad f c s t bs bc co ex rc pl pn wy) pc lo (.int x :: .int j :: .ref (ad (c + 5)) :: st) := V_iast hC hd (by omega) zB0_a5 hx (V_f zB0_u5 kk)
theorem V_zB0_len5 (hC : CX E g cc Ts own rm) (hN : c + 8 ≤ N) (v : Int32) (hd : decode cc pc = .ok (.arraylength, 1)) (hv : Int32.ofNat 32 = v) (kk : V E g N ad ce sl (zB0 g ad f c s t bs bc co ex rc pl pn wy) (pc + 1) lo (.int v :: st)) : V E g N ad ce sl (zB0 g ad f c s t bs bc co ex rc pl pn wy) pc lo (.ref (ad (c + 5)) :: st) := V_alen (t0 := 0) (ty := .int) hC v hd (by omega) zB0_a5 rfl hv kk
theorem zB0_u6 {z : Nat → Int32} : va_up (zB0 g ad f c s t bs bc co ex rc pl pn wy) (c + 6) (.inl (g.2.1 0, 32, .inl z)) = zB0 g ad f c s t bs bc co ex rc z pn wy := by
  funext q
  unfold va_up zB0
  by_cases h : q = c + 6
  · subst h; simp
  · simp [h]
theorem V_zB0_ld6 (hC : CX E g cc Ts own rm) (hN : c + 8 ≤ N) {j : Int32} {k : Nat} (hd : decode cc pc = .ok (.iaload, 1)) (hx : ix j k 32) (kk : V E g N ad ce sl (zB0 g ad f c s t bs bc co ex rc pl pn wy) (pc + 1) lo (.int (pl k) :: st)) : V E g N ad ce sl (zB0 g ad f c s t bs bc co ex rc pl pn wy) pc lo (.int j :: .ref (ad (c + 6)) :: st) := V_iald hC hd (by omega) zB0_a6 hx kk
theorem V_zB0_st6 (hC : CX E g cc Ts own rm) (hN : c + 8 ≤ N) {j x : Int32} {k : Nat} (hd : decode cc pc = .ok (.iastore, 1)) (hx : ix j k 32) (kk : V E g N ad ce sl (zB0 g ad f c s t bs bc co ex rc (upd pl k x) pn wy) (pc + 1) lo st) : V E g N ad ce sl (zB0 g ad f c s t bs bc co ex rc pl pn wy) pc lo (.int x :: .int j :: .ref (ad (c + 6)) :: st) := V_iast hC hd (by omega) zB0_a6 hx (V_f zB0_u6 kk)
theorem V_zB0_len6 (hC : CX E g cc Ts own rm) (hN : c + 8 ≤ N) (v : Int32) (hd : decode cc pc = .ok (.arraylength, 1)) (hv : Int32.ofNat 32 = v) (kk : V E g N ad ce sl (zB0 g ad f c s t bs bc co ex rc pl pn wy) (pc + 1) lo (.int v :: st)) : V E g N ad ce sl (zB0 g ad f c s t bs bc co ex rc pl pn wy) pc lo (.ref (ad (c + 6)) :: st) := V_alen (t0 := 0) (ty := .int) hC v hd (by omega) zB0_a6 rfl hv kk
theorem zB0_u7 {z : Nat → Int32} : va_up (zB0 g ad f c s t bs bc co ex rc pl pn wy) (c + 7) (.inl (g.2.1 0, 5, .inl z)) = zB0 g ad f c s t bs bc co ex rc pl pn z := by
  funext q
  unfold va_up zB0
  by_cases h : q = c + 7
  · subst h; simp
  · simp [h]
theorem V_zB0_ld7 (hC : CX E g cc Ts own rm) (hN : c + 8 ≤ N) {j : Int32} {k : Nat} (hd : decode cc pc = .ok (.iaload, 1)) (hx : ix j k 5) (kk : V E g N ad ce sl (zB0 g ad f c s t bs bc co ex rc pl pn wy) (pc + 1) lo (.int (wy k) :: st)) : V E g N ad ce sl (zB0 g ad f c s t bs bc co ex rc pl pn wy) pc lo (.int j :: .ref (ad (c + 7)) :: st) := V_iald hC hd (by omega) zB0_a7 hx kk
theorem V_zB0_st7 (hC : CX E g cc Ts own rm) (hN : c + 8 ≤ N) {j x : Int32} {k : Nat} (hd : decode cc pc = .ok (.iastore, 1)) (hx : ix j k 5) (kk : V E g N ad ce sl (zB0 g ad f c s t bs bc co ex rc pl pn (upd wy k x)) (pc + 1) lo st) : V E g N ad ce sl (zB0 g ad f c s t bs bc co ex rc pl pn wy) pc lo (.int x :: .int j :: .ref (ad (c + 7)) :: st) := V_iast hC hd (by omega) zB0_a7 hx (V_f zB0_u7 kk)
theorem V_zB0_len7 (hC : CX E g cc Ts own rm) (hN : c + 8 ≤ N) (v : Int32) (hd : decode cc pc = .ok (.arraylength, 1)) (hv : Int32.ofNat 5 = v) (kk : V E g N ad ce sl (zB0 g ad f c s t bs bc co ex rc pl pn wy) (pc + 1) lo (.int v :: st)) : V E g N ad ce sl (zB0 g ad f c s t bs bc co ex rc pl pn wy) pc lo (.ref (ad (c + 7)) :: st) := V_alen (t0 := 0) (ty := .int) hC v hd (by omega) zB0_a7 rfl hv kk
end
/-! boxes -/
def boxE (y : Nat → Int32) : va_E := .inr (1, [.int (y 0), .int (y 1), .int (y 2), .int (y 3), .int (y 4), .int (y 5), .int (y 6)])
def zX (f : Nat → va_E) (c : Nat) (gx : Nat → Nat → Int32) : Nat → va_E := fun q => if c + 8 ≤ q ∧ q < c + 16 then boxE (gx (q - (c + 8))) else f q
theorem zX_at {f : Nat → va_E} {c j : Nat} {gx : Nat → Nat → Int32} (h : j < 8) : zX f c gx (c + 8 + j) = boxE (gx j) := by
  unfold zX
  rw [if_pos (by omega), Nat.add_sub_cancel_left]
theorem zX_out {f : Nat → va_E} {c q : Nat} {gx : Nat → Nat → Int32} (h : q < c + 8 ∨ c + 16 ≤ q) : zX f c gx q = f q := by
  unfold zX
  rw [if_neg (by omega)]
theorem zX_u {f : Nat → va_E} {c j : Nat} {gx : Nat → Nat → Int32} {y : Nat → Int32} (h : j < 8) : va_up (zX f c gx) (c + 8 + j) (boxE y) = zX f c (va_up gx j y) := by
  funext q
  unfold va_up zX
  by_cases hq : q = c + 8 + j
  · subst hq
    rw [if_pos rfl, if_pos (by omega), Nat.add_sub_cancel_left]
    simp
  · rw [if_neg hq]
    by_cases h2 : c + 8 ≤ q ∧ q < c + 16
    · have h3 : q - (c + 8) ≠ j := by omega
      rw [if_pos h2, if_pos h2]
      simp [h3]
    · rw [if_neg h2, if_neg h2]
/-- a belt: its object and arrays, and its boxes -/
def zB (g : GE) (ad : Nat → Nat) (f : Nat → va_E) (c : Nat) (s t : Nat → Int32) (p : Nat → Nat) (bc : Int32) (co ex : Nat → Int32) (rc : Int32) (pl : Nat → Int32) (pn : Int32) (wy : Nat → Int32) (gx : Nat → Nat → Int32) : Nat → va_E := zB0 g ad (zX f c gx) c s t (fun i => some (ad (c + 8 + p i))) bc co ex rc pl pn wy
theorem zB0_u {g : GE} {ad : Nat → Nat} {f : Nat → va_E} {c q : Nat} {s t : Nat → Int32} {bs : Nat → Option Nat} {bc : Int32} {co ex : Nat → Int32} {rc : Int32} {pl : Nat → Int32} {pn : Int32} {wy : Nat → Int32} {e : va_E} (h : c + 8 ≤ q) : va_up (zB0 g ad f c s t bs bc co ex rc pl pn wy) q e = zB0 g ad (va_up f q e) c s t bs bc co ex rc pl pn wy := by
  funext x
  by_cases hx : x = q
  · subst hx
    rw [zB0_out (by omega)]
    simp [va_up]
  · by_cases h2 : x < c ∨ c + 8 ≤ x
    · rw [zB0_out (by omega)]
      simp only [va_up, hx, if_false]
      rw [zB0_out (by omega)]
    · simp only [va_up, hx, if_false]
      unfold zB0
      simp only [va_up]
      repeat' (first | rfl | (split; rfl) | (split; exfalso; omega))
section
variable {E : EV} {g : GE} {N : Nat} {ad : Nat → Nat} {ce sl : Nat} {f : Nat → va_E} {pc : Nat} {lo : List (Option Value)} {st : List Value} {cc : ByteArray} {Ts : List Cond} {own : String} {rm : Room}
variable {c : Nat} {s t : Nat → Int32} {p : Nat → Nat} {bc : Int32} {co ex : Nat → Int32} {rc : Int32} {pl : Nat → Int32} {pn : Int32} {wy : Nat → Int32} {gx : Nat → Nat → Int32}
theorem zB_box {j : Nat} (h : j < 8) : zB g ad f c s t p bc co ex rc pl pn wy gx (c + 8 + j) = boxE (gx j) := by
  unfold zB
  rw [zB0_out (by omega), zX_at h]
theorem zB_out {q : Nat} (h : q < c ∨ c + 16 ≤ q) : zB g ad f c s t p bc co ex rc pl pn wy gx q = f q := by
  unfold zB
  rw [zB0_out (by omega), zX_out (by omega)]
theorem zB_ubox {j : Nat} {y : Nat → Int32} (h : j < 8) : va_up (zB g ad f c s t p bc co ex rc pl pn wy gx) (c + 8 + j) (boxE y) = zB g ad f c s t p bc co ex rc pl pn wy (va_up gx j y) := by
  unfold zB
  rw [zB0_u (by omega), zX_u h]
/-! a belt's rows -/
theorem V_B_settings (hC : CX E g cc Ts own rm) (hN : c + 16 ≤ N) {index : Nat} (hd : decode cc pc = .ok (.getfield index, 3)) (hin : ∀ w ∈ wsX00, w ∈ Ts) (hlk : Cond.fieldLink own index "BeltMarks$Belt" "settings" "[I" ∈ Ts) (kk : V E g N ad ce sl (zB g ad f c s t p bc co ex rc pl pn wy gx) (pc + 3) lo (.ref (ad (c + 1)) :: st)) : V E g N ad ce sl (zB g ad f c s t p bc co ex rc pl pn wy gx) pc lo (.ref (ad c) :: st) := V_zB0_settings hC (by omega) hd hin hlk kk
theorem V_B_tallies (hC : CX E g cc Ts own rm) (hN : c + 16 ≤ N) {index : Nat} (hd : decode cc pc = .ok (.getfield index, 3)) (hin : ∀ w ∈ wsX00, w ∈ Ts) (hlk : Cond.fieldLink own index "BeltMarks$Belt" "tallies" "[I" ∈ Ts) (kk : V E g N ad ce sl (zB g ad f c s t p bc co ex rc pl pn wy gx) (pc + 3) lo (.ref (ad (c + 2)) :: st)) : V E g N ad ce sl (zB g ad f c s t p bc co ex rc pl pn wy gx) pc lo (.ref (ad c) :: st) := V_zB0_tallies hC (by omega) hd hin hlk kk
theorem V_B_boxes (hC : CX E g cc Ts own rm) (hN : c + 16 ≤ N) {index : Nat} (hd : decode cc pc = .ok (.getfield index, 3)) (hin : ∀ w ∈ wsX00, w ∈ Ts) (hlk : Cond.fieldLink own index "BeltMarks$Belt" "boxes" "[LBeltMarks$Box;" ∈ Ts) (kk : V E g N ad ce sl (zB g ad f c s t p bc co ex rc pl pn wy gx) (pc + 3) lo (.ref (ad (c + 3)) :: st)) : V E g N ad ce sl (zB g ad f c s t p bc co ex rc pl pn wy gx) pc lo (.ref (ad c) :: st) := V_zB0_boxes hC (by omega) hd hin hlk kk
theorem V_B_boxCount (hC : CX E g cc Ts own rm) (hN : c + 16 ≤ N) {index : Nat} (hd : decode cc pc = .ok (.getfield index, 3)) (hin : ∀ w ∈ wsX00, w ∈ Ts) (hlk : Cond.fieldLink own index "BeltMarks$Belt" "boxCount" "I" ∈ Ts) (kk : V E g N ad ce sl (zB g ad f c s t p bc co ex rc pl pn wy gx) (pc + 3) lo (.int bc :: st)) : V E g N ad ce sl (zB g ad f c s t p bc co ex rc pl pn wy gx) pc lo (.ref (ad c) :: st) := V_zB0_boxCount hC (by omega) hd hin hlk kk
theorem V_B_put_boxCount (hC : CX E g cc Ts own rm) (hN : c + 16 ≤ N) {index : Nat} {z : Int32} (hd : decode cc pc = .ok (.putfield index, 3)) (hin : ∀ w ∈ wsX00, w ∈ Ts) (hlk : Cond.fieldLink own index "BeltMarks$Belt" "boxCount" "I" ∈ Ts) (kk : V E g N ad ce sl (zB g ad f c s t p z co ex rc pl pn wy gx) (pc + 3) lo st) : V E g N ad ce sl (zB g ad f c s t p bc co ex rc pl pn wy gx) pc lo (.int z :: .ref (ad c) :: st) := V_zB0_put_boxCount hC (by omega) hd hin hlk kk
theorem V_B_comes (hC : CX E g cc Ts own rm) (hN : c + 16 ≤ N) {index : Nat} (hd : decode cc pc = .ok (.getfield index, 3)) (hin : ∀ w ∈ wsX00, w ∈ Ts) (hlk : Cond.fieldLink own index "BeltMarks$Belt" "comes" "[I" ∈ Ts) (kk : V E g N ad ce sl (zB g ad f c s t p bc co ex rc pl pn wy gx) (pc + 3) lo (.ref (ad (c + 4)) :: st)) : V E g N ad ce sl (zB g ad f c s t p bc co ex rc pl pn wy gx) pc lo (.ref (ad c) :: st) := V_zB0_comes hC (by omega) hd hin hlk kk
theorem V_B_excesses (hC : CX E g cc Ts own rm) (hN : c + 16 ≤ N) {index : Nat} (hd : decode cc pc = .ok (.getfield index, 3)) (hin : ∀ w ∈ wsX00, w ∈ Ts) (hlk : Cond.fieldLink own index "BeltMarks$Belt" "excesses" "[I" ∈ Ts) (kk : V E g N ad ce sl (zB g ad f c s t p bc co ex rc pl pn wy gx) (pc + 3) lo (.ref (ad (c + 5)) :: st)) : V E g N ad ce sl (zB g ad f c s t p bc co ex rc pl pn wy gx) pc lo (.ref (ad c) :: st) := V_zB0_excesses hC (by omega) hd hin hlk kk
theorem V_B_reportCount (hC : CX E g cc Ts own rm) (hN : c + 16 ≤ N) {index : Nat} (hd : decode cc pc = .ok (.getfield index, 3)) (hin : ∀ w ∈ wsX00, w ∈ Ts) (hlk : Cond.fieldLink own index "BeltMarks$Belt" "reportCount" "I" ∈ Ts) (kk : V E g N ad ce sl (zB g ad f c s t p bc co ex rc pl pn wy gx) (pc + 3) lo (.int rc :: st)) : V E g N ad ce sl (zB g ad f c s t p bc co ex rc pl pn wy gx) pc lo (.ref (ad c) :: st) := V_zB0_reportCount hC (by omega) hd hin hlk kk
theorem V_B_put_reportCount (hC : CX E g cc Ts own rm) (hN : c + 16 ≤ N) {index : Nat} {z : Int32} (hd : decode cc pc = .ok (.putfield index, 3)) (hin : ∀ w ∈ wsX00, w ∈ Ts) (hlk : Cond.fieldLink own index "BeltMarks$Belt" "reportCount" "I" ∈ Ts) (kk : V E g N ad ce sl (zB g ad f c s t p bc co ex z pl pn wy gx) (pc + 3) lo st) : V E g N ad ce sl (zB g ad f c s t p bc co ex rc pl pn wy gx) pc lo (.int z :: .ref (ad c) :: st) := V_zB0_put_reportCount hC (by omega) hd hin hlk kk
theorem V_B_plans (hC : CX E g cc Ts own rm) (hN : c + 16 ≤ N) {index : Nat} (hd : decode cc pc = .ok (.getfield index, 3)) (hin : ∀ w ∈ wsX00, w ∈ Ts) (hlk : Cond.fieldLink own index "BeltMarks$Belt" "plans" "[I" ∈ Ts) (kk : V E g N ad ce sl (zB g ad f c s t p bc co ex rc pl pn wy gx) (pc + 3) lo (.ref (ad (c + 6)) :: st)) : V E g N ad ce sl (zB g ad f c s t p bc co ex rc pl pn wy gx) pc lo (.ref (ad c) :: st) := V_zB0_plans hC (by omega) hd hin hlk kk
theorem V_B_planCount (hC : CX E g cc Ts own rm) (hN : c + 16 ≤ N) {index : Nat} (hd : decode cc pc = .ok (.getfield index, 3)) (hin : ∀ w ∈ wsX00, w ∈ Ts) (hlk : Cond.fieldLink own index "BeltMarks$Belt" "planCount" "I" ∈ Ts) (kk : V E g N ad ce sl (zB g ad f c s t p bc co ex rc pl pn wy gx) (pc + 3) lo (.int pn :: st)) : V E g N ad ce sl (zB g ad f c s t p bc co ex rc pl pn wy gx) pc lo (.ref (ad c) :: st) := V_zB0_planCount hC (by omega) hd hin hlk kk
theorem V_B_put_planCount (hC : CX E g cc Ts own rm) (hN : c + 16 ≤ N) {index : Nat} {z : Int32} (hd : decode cc pc = .ok (.putfield index, 3)) (hin : ∀ w ∈ wsX00, w ∈ Ts) (hlk : Cond.fieldLink own index "BeltMarks$Belt" "planCount" "I" ∈ Ts) (kk : V E g N ad ce sl (zB g ad f c s t p bc co ex rc pl z wy gx) (pc + 3) lo st) : V E g N ad ce sl (zB g ad f c s t p bc co ex rc pl pn wy gx) pc lo (.int z :: .ref (ad c) :: st) := V_zB0_put_planCount hC (by omega) hd hin hlk kk
theorem V_B_ways (hC : CX E g cc Ts own rm) (hN : c + 16 ≤ N) {index : Nat} (hd : decode cc pc = .ok (.getfield index, 3)) (hin : ∀ w ∈ wsX00, w ∈ Ts) (hlk : Cond.fieldLink own index "BeltMarks$Belt" "ways" "[I" ∈ Ts) (kk : V E g N ad ce sl (zB g ad f c s t p bc co ex rc pl pn wy gx) (pc + 3) lo (.ref (ad (c + 7)) :: st)) : V E g N ad ce sl (zB g ad f c s t p bc co ex rc pl pn wy gx) pc lo (.ref (ad c) :: st) := V_zB0_ways hC (by omega) hd hin hlk kk
theorem V_B_ld1 (hC : CX E g cc Ts own rm) (hN : c + 16 ≤ N) {j : Int32} {k : Nat} (hd : decode cc pc = .ok (.iaload, 1)) (hx : ix j k 8) (kk : V E g N ad ce sl (zB g ad f c s t p bc co ex rc pl pn wy gx) (pc + 1) lo (.int (s k) :: st)) : V E g N ad ce sl (zB g ad f c s t p bc co ex rc pl pn wy gx) pc lo (.int j :: .ref (ad (c + 1)) :: st) := V_zB0_ld1 hC (by omega) hd hx kk
theorem V_B_st1 (hC : CX E g cc Ts own rm) (hN : c + 16 ≤ N) {j x : Int32} {k : Nat} (hd : decode cc pc = .ok (.iastore, 1)) (hx : ix j k 8) (kk : V E g N ad ce sl (zB g ad f c (upd s k x) t p bc co ex rc pl pn wy gx) (pc + 1) lo st) : V E g N ad ce sl (zB g ad f c s t p bc co ex rc pl pn wy gx) pc lo (.int x :: .int j :: .ref (ad (c + 1)) :: st) := V_zB0_st1 hC (by omega) hd hx kk
theorem V_B_len1 (hC : CX E g cc Ts own rm) (hN : c + 16 ≤ N) (v : Int32) (hd : decode cc pc = .ok (.arraylength, 1)) (hv : Int32.ofNat 8 = v) (kk : V E g N ad ce sl (zB g ad f c s t p bc co ex rc pl pn wy gx) (pc + 1) lo (.int v :: st)) : V E g N ad ce sl (zB g ad f c s t p bc co ex rc pl pn wy gx) pc lo (.ref (ad (c + 1)) :: st) := V_zB0_len1 hC (by omega) v hd hv kk
theorem V_B_ld2 (hC : CX E g cc Ts own rm) (hN : c + 16 ≤ N) {j : Int32} {k : Nat} (hd : decode cc pc = .ok (.iaload, 1)) (hx : ix j k 14) (kk : V E g N ad ce sl (zB g ad f c s t p bc co ex rc pl pn wy gx) (pc + 1) lo (.int (t k) :: st)) : V E g N ad ce sl (zB g ad f c s t p bc co ex rc pl pn wy gx) pc lo (.int j :: .ref (ad (c + 2)) :: st) := V_zB0_ld2 hC (by omega) hd hx kk
theorem V_B_st2 (hC : CX E g cc Ts own rm) (hN : c + 16 ≤ N) {j x : Int32} {k : Nat} (hd : decode cc pc = .ok (.iastore, 1)) (hx : ix j k 14) (kk : V E g N ad ce sl (zB g ad f c s (upd t k x) p bc co ex rc pl pn wy gx) (pc + 1) lo st) : V E g N ad ce sl (zB g ad f c s t p bc co ex rc pl pn wy gx) pc lo (.int x :: .int j :: .ref (ad (c + 2)) :: st) := V_zB0_st2 hC (by omega) hd hx kk
theorem V_B_len2 (hC : CX E g cc Ts own rm) (hN : c + 16 ≤ N) (v : Int32) (hd : decode cc pc = .ok (.arraylength, 1)) (hv : Int32.ofNat 14 = v) (kk : V E g N ad ce sl (zB g ad f c s t p bc co ex rc pl pn wy gx) (pc + 1) lo (.int v :: st)) : V E g N ad ce sl (zB g ad f c s t p bc co ex rc pl pn wy gx) pc lo (.ref (ad (c + 2)) :: st) := V_zB0_len2 hC (by omega) v hd hv kk
theorem V_B_ld4 (hC : CX E g cc Ts own rm) (hN : c + 16 ≤ N) {j : Int32} {k : Nat} (hd : decode cc pc = .ok (.iaload, 1)) (hx : ix j k 32) (kk : V E g N ad ce sl (zB g ad f c s t p bc co ex rc pl pn wy gx) (pc + 1) lo (.int (co k) :: st)) : V E g N ad ce sl (zB g ad f c s t p bc co ex rc pl pn wy gx) pc lo (.int j :: .ref (ad (c + 4)) :: st) := V_zB0_ld4 hC (by omega) hd hx kk
theorem V_B_st4 (hC : CX E g cc Ts own rm) (hN : c + 16 ≤ N) {j x : Int32} {k : Nat} (hd : decode cc pc = .ok (.iastore, 1)) (hx : ix j k 32) (kk : V E g N ad ce sl (zB g ad f c s t p bc (upd co k x) ex rc pl pn wy gx) (pc + 1) lo st) : V E g N ad ce sl (zB g ad f c s t p bc co ex rc pl pn wy gx) pc lo (.int x :: .int j :: .ref (ad (c + 4)) :: st) := V_zB0_st4 hC (by omega) hd hx kk
theorem V_B_len4 (hC : CX E g cc Ts own rm) (hN : c + 16 ≤ N) (v : Int32) (hd : decode cc pc = .ok (.arraylength, 1)) (hv : Int32.ofNat 32 = v) (kk : V E g N ad ce sl (zB g ad f c s t p bc co ex rc pl pn wy gx) (pc + 1) lo (.int v :: st)) : V E g N ad ce sl (zB g ad f c s t p bc co ex rc pl pn wy gx) pc lo (.ref (ad (c + 4)) :: st) := V_zB0_len4 hC (by omega) v hd hv kk
theorem V_B_ld5 (hC : CX E g cc Ts own rm) (hN : c + 16 ≤ N) {j : Int32} {k : Nat} (hd : decode cc pc = .ok (.iaload, 1)) (hx : ix j k 32) (kk : V E g N ad ce sl (zB g ad f c s t p bc co ex rc pl pn wy gx) (pc + 1) lo (.int (ex k) :: st)) : V E g N ad ce sl (zB g ad f c s t p bc co ex rc pl pn wy gx) pc lo (.int j :: .ref (ad (c + 5)) :: st) := V_zB0_ld5 hC (by omega) hd hx kk
theorem V_B_st5 (hC : CX E g cc Ts own rm) (hN : c + 16 ≤ N) {j x : Int32} {k : Nat} (hd : decode cc pc = .ok (.iastore, 1)) (hx : ix j k 32) (kk : V E g N ad ce sl (zB g ad f c s t p bc co (upd ex k x) rc pl pn wy gx) (pc + 1) lo st) : V E g N ad ce sl (zB g ad f c s t p bc co ex rc pl pn wy gx) pc lo (.int x :: .int j :: .ref (ad (c + 5)) :: st) := V_zB0_st5 hC (by omega) hd hx kk
theorem V_B_len5 (hC : CX E g cc Ts own rm) (hN : c + 16 ≤ N) (v : Int32) (hd : decode cc pc = .ok (.arraylength, 1)) (hv : Int32.ofNat 32 = v) (kk : V E g N ad ce sl (zB g ad f c s t p bc co ex rc pl pn wy gx) (pc + 1) lo (.int v :: st)) : V E g N ad ce sl (zB g ad f c s t p bc co ex rc pl pn wy gx) pc lo (.ref (ad (c + 5)) :: st) := V_zB0_len5 hC (by omega) v hd hv kk
theorem V_B_ld6 (hC : CX E g cc Ts own rm) (hN : c + 16 ≤ N) {j : Int32} {k : Nat} (hd : decode cc pc = .ok (.iaload, 1)) (hx : ix j k 32) (kk : V E g N ad ce sl (zB g ad f c s t p bc co ex rc pl pn wy gx) (pc + 1) lo (.int (pl k) :: st)) : V E g N ad ce sl (zB g ad f c s t p bc co ex rc pl pn wy gx) pc lo (.int j :: .ref (ad (c + 6)) :: st) := V_zB0_ld6 hC (by omega) hd hx kk
theorem V_B_st6 (hC : CX E g cc Ts own rm) (hN : c + 16 ≤ N) {j x : Int32} {k : Nat} (hd : decode cc pc = .ok (.iastore, 1)) (hx : ix j k 32) (kk : V E g N ad ce sl (zB g ad f c s t p bc co ex rc (upd pl k x) pn wy gx) (pc + 1) lo st) : V E g N ad ce sl (zB g ad f c s t p bc co ex rc pl pn wy gx) pc lo (.int x :: .int j :: .ref (ad (c + 6)) :: st) := V_zB0_st6 hC (by omega) hd hx kk
theorem V_B_len6 (hC : CX E g cc Ts own rm) (hN : c + 16 ≤ N) (v : Int32) (hd : decode cc pc = .ok (.arraylength, 1)) (hv : Int32.ofNat 32 = v) (kk : V E g N ad ce sl (zB g ad f c s t p bc co ex rc pl pn wy gx) (pc + 1) lo (.int v :: st)) : V E g N ad ce sl (zB g ad f c s t p bc co ex rc pl pn wy gx) pc lo (.ref (ad (c + 6)) :: st) := V_zB0_len6 hC (by omega) v hd hv kk
theorem V_B_ld7 (hC : CX E g cc Ts own rm) (hN : c + 16 ≤ N) {j : Int32} {k : Nat} (hd : decode cc pc = .ok (.iaload, 1)) (hx : ix j k 5) (kk : V E g N ad ce sl (zB g ad f c s t p bc co ex rc pl pn wy gx) (pc + 1) lo (.int (wy k) :: st)) : V E g N ad ce sl (zB g ad f c s t p bc co ex rc pl pn wy gx) pc lo (.int j :: .ref (ad (c + 7)) :: st) := V_zB0_ld7 hC (by omega) hd hx kk
theorem V_B_st7 (hC : CX E g cc Ts own rm) (hN : c + 16 ≤ N) {j x : Int32} {k : Nat} (hd : decode cc pc = .ok (.iastore, 1)) (hx : ix j k 5) (kk : V E g N ad ce sl (zB g ad f c s t p bc co ex rc pl pn (upd wy k x) gx) (pc + 1) lo st) : V E g N ad ce sl (zB g ad f c s t p bc co ex rc pl pn wy gx) pc lo (.int x :: .int j :: .ref (ad (c + 7)) :: st) := V_zB0_st7 hC (by omega) hd hx kk
theorem V_B_len7 (hC : CX E g cc Ts own rm) (hN : c + 16 ≤ N) (v : Int32) (hd : decode cc pc = .ok (.arraylength, 1)) (hv : Int32.ofNat 5 = v) (kk : V E g N ad ce sl (zB g ad f c s t p bc co ex rc pl pn wy gx) (pc + 1) lo (.int v :: st)) : V E g N ad ce sl (zB g ad f c s t p bc co ex rc pl pn wy gx) pc lo (.ref (ad (c + 7)) :: st) := V_zB0_len7 hC (by omega) v hd hv kk
theorem V_B_ld3 (hC : CX E g cc Ts own rm) (hN : c + 16 ≤ N) {j : Int32} {k : Nat} (hd : decode cc pc = .ok (.aaload, 1)) (hx : ix j k 8) (kk : V E g N ad ce sl (zB g ad f c s t p bc co ex rc pl pn wy gx) (pc + 1) lo (.ref (ad (c + 8 + p k)) :: st)) : V E g N ad ce sl (zB g ad f c s t p bc co ex rc pl pn wy gx) pc lo (.int j :: .ref (ad (c + 3)) :: st) := V_aald (t0 := 4) hC hd (by omega) zB0_a3 rfl hx rfl kk
theorem V_B_st3 (hC : CX E g cc Ts own rm) (hN : c + 16 ≤ N) {j : Int32} {k q : Nat} (hd : decode cc pc = .ok (.aastore, 1)) (hx : ix j k 8) (hq : q < 8) (kk : V E g N ad ce sl (zB g ad f c s t (va_up p k q) bc co ex rc pl pn wy gx) (pc + 1) lo st) : V E g N ad ce sl (zB g ad f c s t p bc co ex rc pl pn wy gx) pc lo (.ref (ad (c + 8 + q)) :: .int j :: .ref (ad (c + 3)) :: st) := by
  refine V_aast (t0 := 4) (r := (RX1, TX1, 7)) hC hd (by omega) zB0_a3 rfl (by omega) (zB_box hq) rfl hx (V_f ?_ kk)
  have e : (va_up (fun i => some (ad (c + 8 + p i))) k (some (ad (c + 8 + q)))) = (fun i => some (ad (c + 8 + (va_up p k q) i))) := by
    funext i
    simp only [va_up]
    split <;> rfl
  unfold zB
  rw [← e]
  funext x
  simp only [va_up, zB0]
  by_cases h3 : x = c + 3
  · subst h3
    simp
  · simp [h3]
theorem V_X_front (hC : CX E g cc Ts own rm) {i : Nat} {y : Nat → Int32} (hi : i < N) (hf : f i = boxE y) {index : Nat} (hd : decode cc pc = .ok (.getfield index, 3)) (hin : ∀ w ∈ wsX10, w ∈ Ts) (hlk : Cond.fieldLink own index "BeltMarks$Box" "front" "I" ∈ Ts) (kk : V E g N ad ce sl f (pc + 3) lo (.int (y 0) :: st)) : V E g N ad ce sl f pc lo (.ref (ad i) :: st) := V_get hC 0 hd hi hf rfl (by decide) hin hlk rfl kk
theorem V_X_put_front (hC : CX E g cc Ts own rm) {i : Nat} {y : Nat → Int32} {z : Int32} (hi : i < N) (hf : f i = boxE y) {index : Nat} (hd : decode cc pc = .ok (.putfield index, 3)) (hin : ∀ w ∈ wsX10, w ∈ Ts) (hlk : Cond.fieldLink own index "BeltMarks$Box" "front" "I" ∈ Ts) (kk : V E g N ad ce sl (va_up f i (boxE (upd y 0 z))) (pc + 3) lo st) : V E g N ad ce sl f pc lo (.int z :: .ref (ad i) :: st) := V_put hC (ty := .int) 0 hd hi hf rfl (by decide) hin hlk tyX1_ok nmX1 rfl rfl rfl rfl (by simp) (V_f rfl kk)
theorem V_X_length (hC : CX E g cc Ts own rm) {i : Nat} {y : Nat → Int32} (hi : i < N) (hf : f i = boxE y) {index : Nat} (hd : decode cc pc = .ok (.getfield index, 3)) (hin : ∀ w ∈ wsX10, w ∈ Ts) (hlk : Cond.fieldLink own index "BeltMarks$Box" "length" "I" ∈ Ts) (kk : V E g N ad ce sl f (pc + 3) lo (.int (y 1) :: st)) : V E g N ad ce sl f pc lo (.ref (ad i) :: st) := V_get hC 1 hd hi hf rfl (by decide) hin hlk rfl kk
theorem V_X_put_length (hC : CX E g cc Ts own rm) {i : Nat} {y : Nat → Int32} {z : Int32} (hi : i < N) (hf : f i = boxE y) {index : Nat} (hd : decode cc pc = .ok (.putfield index, 3)) (hin : ∀ w ∈ wsX10, w ∈ Ts) (hlk : Cond.fieldLink own index "BeltMarks$Box" "length" "I" ∈ Ts) (kk : V E g N ad ce sl (va_up f i (boxE (upd y 1 z))) (pc + 3) lo st) : V E g N ad ce sl f pc lo (.int z :: .ref (ad i) :: st) := V_put hC (ty := .int) 1 hd hi hf rfl (by decide) hin hlk tyX1_ok nmX1 rfl rfl rfl rfl (by simp) (V_f rfl kk)
theorem V_X_seen (hC : CX E g cc Ts own rm) {i : Nat} {y : Nat → Int32} (hi : i < N) (hf : f i = boxE y) {index : Nat} (hd : decode cc pc = .ok (.getfield index, 3)) (hin : ∀ w ∈ wsX10, w ∈ Ts) (hlk : Cond.fieldLink own index "BeltMarks$Box" "seen" "Z" ∈ Ts) (kk : V E g N ad ce sl f (pc + 3) lo (.int (y 2) :: st)) : V E g N ad ce sl f pc lo (.ref (ad i) :: st) := V_get hC 2 hd hi hf rfl (by decide) hin hlk rfl kk
theorem V_X_put_seen (hC : CX E g cc Ts own rm) {i : Nat} {y : Nat → Int32} {z : Int32} (hi : i < N) (hf : f i = boxE y) (hz : z = 0 ∨ z = 1) {index : Nat} (hd : decode cc pc = .ok (.putfield index, 3)) (hin : ∀ w ∈ wsX10, w ∈ Ts) (hlk : Cond.fieldLink own index "BeltMarks$Box" "seen" "Z" ∈ Ts) (kk : V E g N ad ce sl (va_up f i (boxE (upd y 2 z))) (pc + 3) lo st) : V E g N ad ce sl f pc lo (.int z :: .ref (ad i) :: st) := V_put hC (ty := .boolean) 2 hd hi hf rfl (by decide) hin hlk tyX1_ok nmX1 rfl rfl (by rcases hz with h | h <;> subst h <;> rfl) (by rcases hz with h | h <;> subst h <;> rfl) (by simp) (V_f rfl kk)
theorem V_X_marked (hC : CX E g cc Ts own rm) {i : Nat} {y : Nat → Int32} (hi : i < N) (hf : f i = boxE y) {index : Nat} (hd : decode cc pc = .ok (.getfield index, 3)) (hin : ∀ w ∈ wsX10, w ∈ Ts) (hlk : Cond.fieldLink own index "BeltMarks$Box" "marked" "Z" ∈ Ts) (kk : V E g N ad ce sl f (pc + 3) lo (.int (y 3) :: st)) : V E g N ad ce sl f pc lo (.ref (ad i) :: st) := V_get hC 3 hd hi hf rfl (by decide) hin hlk rfl kk
theorem V_X_put_marked (hC : CX E g cc Ts own rm) {i : Nat} {y : Nat → Int32} {z : Int32} (hi : i < N) (hf : f i = boxE y) (hz : z = 0 ∨ z = 1) {index : Nat} (hd : decode cc pc = .ok (.putfield index, 3)) (hin : ∀ w ∈ wsX10, w ∈ Ts) (hlk : Cond.fieldLink own index "BeltMarks$Box" "marked" "Z" ∈ Ts) (kk : V E g N ad ce sl (va_up f i (boxE (upd y 3 z))) (pc + 3) lo st) : V E g N ad ce sl f pc lo (.int z :: .ref (ad i) :: st) := V_put hC (ty := .boolean) 3 hd hi hf rfl (by decide) hin hlk tyX1_ok nmX1 rfl rfl (by rcases hz with h | h <;> subst h <;> rfl) (by rcases hz with h | h <;> subst h <;> rfl) (by simp) (V_f rfl kk)
theorem V_X_mark (hC : CX E g cc Ts own rm) {i : Nat} {y : Nat → Int32} (hi : i < N) (hf : f i = boxE y) {index : Nat} (hd : decode cc pc = .ok (.getfield index, 3)) (hin : ∀ w ∈ wsX10, w ∈ Ts) (hlk : Cond.fieldLink own index "BeltMarks$Box" "mark" "I" ∈ Ts) (kk : V E g N ad ce sl f (pc + 3) lo (.int (y 4) :: st)) : V E g N ad ce sl f pc lo (.ref (ad i) :: st) := V_get hC 4 hd hi hf rfl (by decide) hin hlk rfl kk
theorem V_X_put_mark (hC : CX E g cc Ts own rm) {i : Nat} {y : Nat → Int32} {z : Int32} (hi : i < N) (hf : f i = boxE y) {index : Nat} (hd : decode cc pc = .ok (.putfield index, 3)) (hin : ∀ w ∈ wsX10, w ∈ Ts) (hlk : Cond.fieldLink own index "BeltMarks$Box" "mark" "I" ∈ Ts) (kk : V E g N ad ce sl (va_up f i (boxE (upd y 4 z))) (pc + 3) lo st) : V E g N ad ce sl f pc lo (.int z :: .ref (ad i) :: st) := V_put hC (ty := .int) 4 hd hi hf rfl (by decide) hin hlk tyX1_ok nmX1 rfl rfl rfl rfl (by simp) (V_f rfl kk)
theorem V_X_twice (hC : CX E g cc Ts own rm) {i : Nat} {y : Nat → Int32} (hi : i < N) (hf : f i = boxE y) {index : Nat} (hd : decode cc pc = .ok (.getfield index, 3)) (hin : ∀ w ∈ wsX10, w ∈ Ts) (hlk : Cond.fieldLink own index "BeltMarks$Box" "twice" "Z" ∈ Ts) (kk : V E g N ad ce sl f (pc + 3) lo (.int (y 5) :: st)) : V E g N ad ce sl f pc lo (.ref (ad i) :: st) := V_get hC 5 hd hi hf rfl (by decide) hin hlk rfl kk
theorem V_X_put_twice (hC : CX E g cc Ts own rm) {i : Nat} {y : Nat → Int32} {z : Int32} (hi : i < N) (hf : f i = boxE y) (hz : z = 0 ∨ z = 1) {index : Nat} (hd : decode cc pc = .ok (.putfield index, 3)) (hin : ∀ w ∈ wsX10, w ∈ Ts) (hlk : Cond.fieldLink own index "BeltMarks$Box" "twice" "Z" ∈ Ts) (kk : V E g N ad ce sl (va_up f i (boxE (upd y 5 z))) (pc + 3) lo st) : V E g N ad ce sl f pc lo (.int z :: .ref (ad i) :: st) := V_put hC (ty := .boolean) 5 hd hi hf rfl (by decide) hin hlk tyX1_ok nmX1 rfl rfl (by rcases hz with h | h <;> subst h <;> rfl) (by rcases hz with h | h <;> subst h <;> rfl) (by simp) (V_f rfl kk)
theorem V_X_number (hC : CX E g cc Ts own rm) {i : Nat} {y : Nat → Int32} (hi : i < N) (hf : f i = boxE y) {index : Nat} (hd : decode cc pc = .ok (.getfield index, 3)) (hin : ∀ w ∈ wsX10, w ∈ Ts) (hlk : Cond.fieldLink own index "BeltMarks$Box" "number" "I" ∈ Ts) (kk : V E g N ad ce sl f (pc + 3) lo (.int (y 6) :: st)) : V E g N ad ce sl f pc lo (.ref (ad i) :: st) := V_get hC 6 hd hi hf rfl (by decide) hin hlk rfl kk
theorem V_X_put_number (hC : CX E g cc Ts own rm) {i : Nat} {y : Nat → Int32} {z : Int32} (hi : i < N) (hf : f i = boxE y) {index : Nat} (hd : decode cc pc = .ok (.putfield index, 3)) (hin : ∀ w ∈ wsX10, w ∈ Ts) (hlk : Cond.fieldLink own index "BeltMarks$Box" "number" "I" ∈ Ts) (kk : V E g N ad ce sl (va_up f i (boxE (upd y 6 z))) (pc + 3) lo st) : V E g N ad ce sl f pc lo (.int z :: .ref (ad i) :: st) := V_put hC (ty := .int) 6 hd hi hf rfl (by decide) hin hlk tyX1_ok nmX1 rfl rfl rfl rfl (by simp) (V_f rfl kk)
end
end
section
/-! the belt as a mathematical value: h the numbers (by the reference's places 0 to 26; 9, 19, 20 aren't used), the boxes (front, length, seen, mark or -6, twice, number), the reports (when, excess), the plans -/
abbrev MT : Type := (Nat → Int32) × List (Nat → Int32) × List (Int32 × Int32) × List Int32
def hMove (h : Nat → Int32) : Nat → Int32 := fun i => if i = 22 then h 0 else if 23 ≤ i ∧ i ≤ 26 then h (i - 1) else if i = 21 then h 21 + h 0 else h i
def xMove (v : Int32) (x : Nat → Int32) : Nat → Int32 := upd x 0 (x 0 + v)
def mMove (m : MT) : MT := (hMove m.1, m.2.1.map (xMove (m.1 0)), m.2.2.1, m.2.2.2)
def unseen (x : Nat → Int32) : Bool := decide (x 2 = 0) && decide (20 ≤ x 0)
def xSee (x : Nat → Int32) : Nat → Int32 := if unseen x then upd x 2 1 else x
def mkRep (h : Nat → Int32) (x : Nat → Int32) : Int32 × Int32 := (h 8 + h 1, x 0 - 20)
def mSee (m : MT) : MT := (m.1, m.2.1.map xSee, m.2.2.1 ++ (m.2.1.filter unseen).map (mkRep m.1), m.2.2.2)
def mCount (m : MT) : MT := (m.1, m.2.1, m.2.2.1, m.2.2.2.map (fun p => p - m.1 0))
def gwN (h : Nat → Int32) : Nat → Int32
  | 0 => 0
  | n + 1 => gwN h n + h (22 + n)
def gw (h : Nat → Int32) : Int32 := gwN h (h 2).toNatClampNeg
def isDue (h : Nat → Int32) (r : Int32 × Int32) : Bool := decide (r.1 ≤ h 8)
def mkPlan (h : Nat → Int32) (r : Int32 × Int32) : Int32 := 40 + h 3 - r.2 - gw h
def mTake (m : MT) : MT := (m.1, m.2.1, m.2.2.1.filter (fun r => !isDue m.1 r), m.2.2.2 ++ (m.2.2.1.filter (isDue m.1)).map (mkPlan m.1))
def isUnder (x : Nat → Int32) : Bool := decide (60 ≤ x 0) && decide (x 0 - x 1 < 60)
def xMark (x : Nat → Int32) : Nat → Int32 := if x 3 = -6 then upd x 3 (x 0 - 60) else upd (upd x 4 1) 3 (x 0 - 60)
def bMark : List (Nat → Int32) → List (Nat → Int32)
  | [] => []
  | x :: t => if isUnder x then xMark x :: t else x :: bMark t
def hTaken (h : Nat → Int32) : Nat → Int32 := upd h 18 (h 18 - h 4)
def hMarked (h : Nat → Int32) (x : Nat → Int32) : Nat → Int32 := if x 3 = -6 then upd h 14 (h 14 + 1) else upd (upd h 14 (h 14 + 1)) 16 (h 16 + 1)
def mMark (q : (Nat → Int32) × List (Nat → Int32)) : (Nat → Int32) × List (Nat → Int32) :=
  if q.1 18 < q.1 4 then (upd q.1 17 (q.1 17 + 1), q.2)
  else match q.2.find? isUnder with
    | none => (upd (hTaken q.1) 15 (q.1 15 + 1), q.2)
    | some x => (hMarked (hTaken q.1) x, bMark q.2)
def doOne (q : (Nat → Int32) × List (Nat → Int32)) (p : Int32) : (Nat → Int32) × List (Nat → Int32) := if p ≤ 0 then mMark q else q
def mDo (m : MT) : MT := ((m.2.2.2.foldl doOne (m.1, m.2.1)).1, (m.2.2.2.foldl doOne (m.1, m.2.1)).2, m.2.2.1, m.2.2.2.filter (fun p => !decide (p ≤ 0)))
def hFeed (h : Nat → Int32) : Nat → Int32 := upd h 18 (if h 5 < h 18 + h 6 then h 5 else h 18 + h 6)
def mFeed (m : MT) : MT := (hFeed m.1, m.2)
def fate (h : Nat → Int32) (x : Nat → Int32) : Nat := if x 3 = -6 then 13 else if x 4 = 0 ∧ -(h 7) ≤ x 3 - h 3 ∧ x 3 - h 3 ≤ h 7 then 11 else 12
def isOut (x : Nat → Int32) : Bool := decide (100 ≤ x 0 - x 1)
def outOne (h : Nat → Int32) (x : Nat → Int32) : Nat → Int32 := if isOut x then upd h (fate h x) (h (fate h x) + 1) else h
def mLeave (m : MT) : MT := (m.2.1.foldl outOne m.1, m.2.1.filter (fun x => !isOut x), m.2.2)
def mClock (m : MT) : MT := (upd m.1 8 (m.1 8 + 1), m.2)
def mTick (m : MT) : MT := mClock (mLeave (mFeed (mDo (mTake (mCount (mSee (mMove m)))))))
def mTicks : Nat → MT → MT
  | 0, m => m
  | n + 1, m => mTicks n (mTick m)
def sLeft (h : Nat → Int32) : Int32 := h 11 + h 12 + h 13
/-! the changes: the answer, and the value behind it -/
def lowS (k : Nat) : Int32 := lstA [0, 0, 0, 0, 1, 1, 0, 0] k
def highS (k : Nat) : Int32 := lstA [9, 5, 5, 20, 20, 60, 9, 9] k
def okS (k v : Int32) : Bool := decide (0 ≤ k) && decide (k < 8) && decide (lowS k.toNatClampNeg ≤ v) && decide (v ≤ highS k.toNatClampNeg)
def mSet (k v : Int32) (m : MT) : Int32 × MT := if okS k v then (m.1 k.toNatClampNeg, (upd m.1 k.toNatClampNeg v, m.2)) else (-2, m)
def newX (len num : Int32) : Nat → Int32 := fun w => if w = 1 then len else if w = 3 then -6 else if w = 5 then num else 0
def okLen (v : Int32) : Bool := decide (4 ≤ v) && decide (v ≤ 30)
def nearIn (bs : List (Nat → Int32)) : Bool := match bs.getLast? with
  | none => false
  | some x => decide (x 0 - x 1 < 1)
def mArrive (len : Int32) (m : MT) : Int32 × MT :=
  if okLen len then
    if m.2.1.length = 8 then (-4, m)
    else if nearIn m.2.1 then (-5, m)
    else (nI m.2.1.length, (upd m.1 10 (m.1 10 + 1), m.2.1 ++ [newX len (m.1 10)], m.2.2))
  else (-2, m)
def halfD (by_ : Int32) : Int32 := if by_ < 0 then -((1 - by_) / 2) else by_ / 2
def frontT (x : Nat → Int32) (len : Int32) : Int32 := x 0 + halfD (len - x 1)
def xTurn (x : Nat → Int32) (len : Int32) : Nat → Int32 := upd (upd x 0 (frontT x len)) 1 len
/-- is there room for the box x, turned, behind the boxes d and ahead of the boxes r -/
def roomT (d : List (Nat → Int32)) (x : Nat → Int32) (r : List (Nat → Int32)) (len : Int32) : Bool :=
  (match d.getLast? with
    | none => true
    | some y => decide (1 ≤ y 0 - y 1 - frontT x len)) &&
  (match r with
    | [] => true
    | y :: _ => decide (1 ≤ frontT x len - len - y 0))
def mTurnAt (k : Nat) (len : Int32) (m : MT) : Int32 × MT := match m.2.1[k]? with
  | none => (-1, m)
  | some x =>
    if okLen len then
      if roomT (m.2.1.take k) x (m.2.1.drop (k + 1)) len then (frontT x len + 1000, (m.1, m.2.1.take k ++ xTurn x len :: m.2.1.drop (k + 1), m.2.2))
      else (-5, m)
    else (-2, m)
def mTurn (b len : Int32) (m : MT) : Int32 × MT := if b < 0 then (-1, m) else mTurnAt b.toNatClampNeg len m
def okT (t : Int32) : Bool := decide (1 ≤ t) && decide (t ≤ 99)
def mPass (t : Int32) (m : MT) : Int32 × MT :=
  if okT t then
    if 20000 < m.1 8 + t then (-4, m) else (sLeft (mTicks t.toNatClampNeg m).1 - sLeft m.1, mTicks t.toNatClampNeg m)
  else (-2, m)
/-! what there is, what if -/
def mBox (b w : Int32) (m : MT) : Int32 := if b < 0 then -1 else match m.2.1[b.toNatClampNeg]? with
  | none => -1
  | some x => if w = 0 then x 0 + 1000 else if w = 3 then (if x 3 = -6 then -6 else x 3 + 1000) else if w = 1 then x 1 else if w = 2 then x 2 else if w = 4 then x 4 else if w = 5 then x 5 else -2
def mPlan (k : Int32) (m : MT) : Int32 := if k < 0 then -1 else match m.2.2.2[k.toNatClampNeg]? with
  | none => -1
  | some p => p + 1000
def mReport (k w : Int32) (m : MT) : Int32 := if k < 0 then -1 else match m.2.2.1[k.toNatClampNeg]? with
  | none => -1
  | some r => if w = 0 then r.1 - m.1 8 + 1 else if w = 1 then r.2 else -2
/-- the numbers, by the reference's places -/
def hAll (m : MT) (i : Nat) : Int32 := if i = 9 then nI m.2.1.length else if i = 19 then nI m.2.2.1.length else if i = 20 then nI m.2.2.2.length else m.1 i
def brg (n : Nat) (w : Nat) (m : MT) : Int32 := (mTicks n m).1 w - m.1 w
def mIf (t w : Int32) (m : MT) : Int32 := if okT t then
    (if w = 0 then brg t.toNatClampNeg 11 m else if w = 1 then brg t.toNatClampNeg 12 m else if w = 2 then brg t.toNatClampNeg 13 m else if w = 3 then brg t.toNatClampNeg 17 m else if w = 4 then brg t.toNatClampNeg 14 m else if w = 5 then brg t.toNatClampNeg 15 m else if w = 6 then (mTicks t.toNatClampNeg m).1 18 else -2)
  else -2
def withH (m : MT) (i : Nat) (v : Int32) : MT := (upd m.1 i v, m.2)
/-- the best guess among the first k: (the guess, how many) -/
def bestN (n : Nat) (m : MT) : Nat → Int32 × Int32
  | 0 => (0, -1)
  | k + 1 => if (bestN n m k).2 < brg n 11 (withH m 2 (nI k)) then (nI k, brg n 11 (withH m 2 (nI k))) else bestN n m k
def mBest (t w : Int32) (m : MT) : Int32 := if okT t then (if w = 0 then (bestN t.toNatClampNeg m 6).1 else if w = 1 then (bestN t.toNatClampNeg m 6).2 else -2) else -2
/-- the least slack, found from 60 down to k -/
def needN (n : Nat) (m : MT) : Nat → Int32
  | 0 => -6
  | j + 1 => if brg n 17 (withH m 18 (nI (60 - j))) = 0 then nI (60 - j) else needN n m j
def mNeed (t : Int32) (m : MT) : Int32 := if okT t then needN t.toNatClampNeg m 61 else -2
/-! everything: the belt, the history (the latest state last), the slots, the pad -/
abbrev ST : Type := MT × List MT × (Nat → Option MT) × List Int32
def pushH (hi : List MT) (m : MT) : List MT := (if hi.length = 6 then hi.drop 1 else hi) ++ [m]
def sChange (q : Int32 × MT) (S : ST) : Int32 × ST := (q.1, (q.2, if q.1 < 0 then S.2.1 else pushH S.2.1 S.1, S.2.2))
def sCount (w : Int32) (S : ST) : Int32 :=
  if w < 0 then -2 else if w < 14 then hAll S.1 (8 + w.toNatClampNeg) else if w < 22 then S.1.1 (w.toNatClampNeg - 14) else if w = 22 then nI S.2.2.2.length else if w = 23 then nI S.2.1.length else -2
def sUndo (S : ST) : Int32 × ST := match S.2.1.getLast? with
  | none => (-5, S)
  | some m => (nI (S.2.1.length - 1), (m, S.2.1.dropLast, S.2.2))
def sSave (k : Int32) (S : ST) : Int32 × ST := if 0 ≤ k ∧ k ≤ 1 then (S.1.1 8, (S.1, S.2.1, va_up S.2.2.1 k.toNatClampNeg (some S.1), S.2.2.2)) else (-2, S)
def sRestore (k : Int32) (S : ST) : Int32 × ST := if 0 ≤ k ∧ k ≤ 1 then (match S.2.2.1 k.toNatClampNeg with
    | none => (-5, S)
    | some m => sChange (m.1 8, m) S) else (-2, S)
def oneU (bs : List (Nat → Int32)) : Prop := (bs.map isUnder).Pairwise (fun p q => p = true → q = false)
def TickOK (m : MT) : Prop := m.2.2.1.length + ((mMove m).2.1.filter unseen).length + m.2.2.2.length ≤ 28 ∧ (∃ G : Nat, G ≤ 5 ∧ m.1 2 = nI G) ∧ oneU (mMove m).2.1
def TicksOK (n : Nat) (m : MT) : Prop := ∀ k, k < n → TickOK (mTicks k m)
/-- what the ticks of a call, and those that are tried, need -/
def AllOK (m : MT) : Prop := ∀ t : Nat, t ≤ 99 → TicksOK t m ∧ (∀ k : Nat, k ≤ 5 → TicksOK t (withH m 2 (nI k))) ∧ ∀ k : Nat, k ≤ 60 → TicksOK t (withH m 18 (nI k))
end
section
/-! the reference's row as a belt's value -/
theorem cut_l {α : Type} {d r : List α} {x y : α} {j : Nat} (h : j < d.length) : (d ++ x :: r)[j]? = some y ↔ d[j]? = some y := by rw [List.getElem?_append_left h]
theorem cut_m {α : Type} {d r : List α} {x : α} : (d ++ x :: r)[d.length]? = some x := by simp
theorem cut_r {α : Type} {d r : List α} {x y : α} {j : Nat} (h : d.length < j) : (d ++ x :: r)[j]? = some y ↔ r[j - d.length - 1]? = some y := by
  rw [List.getElem?_append_right (by omega), List.getElem?_cons, if_neg (by omega)]
theorem cut_g {α : Type} {d r : List α} {y : α} {j : Nat} (h : d.length ≤ j) : (d ++ r)[j]? = some y ↔ r[j - d.length]? = some y := by rw [List.getElem?_append_right h]
theorem cut_s {α : Type} {d r : List α} {y : α} {j : Nat} (h : j < d.length) : (d ++ r)[j]? = some y ↔ d[j]? = some y := by rw [List.getElem?_append_left h]
def rH (a : Nat → Int32) (h : Nat → Int32) : Prop := ∀ i, i < 27 → i ≠ 9 → i ≠ 19 → i ≠ 20 → a i = h i
def rB (a : Nat → Int32) (bs : List (Nat → Int32)) : Prop := a 9 = nI bs.length ∧ bs.length ≤ 8 ∧ ∀ j x, bs[j]? = some x → ∀ w, w < 6 → a (27 + 6 * j + w) = x w
def rR (a : Nat → Int32) (rs : List (Int32 × Int32)) : Prop := a 19 = nI rs.length ∧ rs.length ≤ 28 ∧ ∀ j r, rs[j]? = some r → a (75 + 2 * j) = r.1 ∧ a (75 + 2 * j + 1) = r.2
def rP (a : Nat → Int32) (ps : List Int32) : Prop := a 20 = nI ps.length ∧ ps.length ≤ 29 ∧ ∀ j p, ps[j]? = some p → a (131 + j) = p
def RepR (a : Nat → Int32) (m : MT) : Prop := rH a m.1 ∧ rB a m.2.1 ∧ rR a m.2.2.1 ∧ rP a m.2.2.2
theorem rH.eq {a b h : Nat → Int32} (q : rH a h) (e : ∀ i, i < 27 → i ≠ 9 → i ≠ 19 → i ≠ 20 → b i = a i) : rH b h := fun i h1 h2 h3 h4 => (e i h1 h2 h3 h4).trans (q i h1 h2 h3 h4)
theorem rB.eq {a b : Nat → Int32} {bs : List (Nat → Int32)} (q : rB a bs) (e9 : b 9 = a 9) (e : ∀ i, 27 ≤ i → i < 75 → b i = a i) : rB b bs := by
  refine ⟨e9.trans q.1, q.2.1, fun j x h w hw => ?_⟩
  have hj := (List.getElem?_eq_some_iff.mp h).1
  have := q.2.1
  rw [e _ (by omega) (by omega)]
  exact q.2.2 j x h w hw
theorem rR.eq {a b : Nat → Int32} {rs : List (Int32 × Int32)} (q : rR a rs) (e9 : b 19 = a 19) (e : ∀ i, 75 ≤ i → i < 131 → b i = a i) : rR b rs := by
  refine ⟨e9.trans q.1, q.2.1, fun j x h => ?_⟩
  have hj := (List.getElem?_eq_some_iff.mp h).1
  have := q.2.1
  rw [e _ (by omega) (by omega), e _ (by omega) (by omega)]
  exact q.2.2 j x h
theorem rP.eq {a b : Nat → Int32} {ps : List Int32} (q : rP a ps) (e9 : b 20 = a 20) (e : ∀ i, 131 ≤ i → i < 160 → b i = a i) : rP b ps := by
  refine ⟨e9.trans q.1, q.2.1, fun j x h => ?_⟩
  have hj := (List.getElem?_eq_some_iff.mp h).1
  have := q.2.1
  rw [e _ (by omega) (by omega)]
  exact q.2.2 j x h
theorem rH.at {a h : Nat → Int32} {k : Nat} {z : Int32} (q : rH a h) : rH (upd a k z) (upd h k z) := by
  intro i h1 h2 h3 h4
  unfold upd
  split
  · rfl
  · exact q i h1 h2 h3 h4
theorem rH.off {a h : Nat → Int32} {k : Nat} {z : Int32} (q : rH a h) (hk : 27 ≤ k ∨ k = 9 ∨ k = 19 ∨ k = 20) : rH (upd a k z) h := q.eq fun i _ _ _ _ => pk_un (by omega)
theorem rB.off {a : Nat → Int32} {bs : List (Nat → Int32)} {k : Nat} {z : Int32} (q : rB a bs) (h9 : k ≠ 9) (hk : k < 27 ∨ 75 ≤ k) : rB (upd a k z) bs := q.eq (pk_un (by omega)) fun i _ _ => pk_un (by omega)
theorem rR.off {a : Nat → Int32} {rs : List (Int32 × Int32)} {k : Nat} {z : Int32} (q : rR a rs) (h9 : k ≠ 19) (hk : k < 75 ∨ 131 ≤ k) : rR (upd a k z) rs := q.eq (pk_un (by omega)) fun i _ _ => pk_un (by omega)
theorem rP.off {a : Nat → Int32} {ps : List Int32} {k : Nat} {z : Int32} (q : rP a ps) (h9 : k ≠ 20) (hk : k < 131 ∨ 160 ≤ k) : rP (upd a k z) ps := q.eq (pk_un (by omega)) fun i _ _ => pk_un (by omega)
theorem rB.lt {a : Nat → Int32} {d r : List (Nat → Int32)} {x : Nat → Int32} (q : rB a (d ++ x :: r)) : d.length < 8 := by
  have := q.2.1
  simp at this
  omega
theorem rB.get {a : Nat → Int32} {d r : List (Nat → Int32)} {x : Nat → Int32} (q : rB a (d ++ x :: r)) {w : Nat} (hw : w < 6) : a (27 + 6 * d.length + w) = x w := q.2.2 _ _ cut_m w hw
theorem rB.set {a : Nat → Int32} {d r : List (Nat → Int32)} {x : Nat → Int32} (q : rB a (d ++ x :: r)) {w : Nat} {z : Int32} (hw : w < 6) : rB (upd a (27 + 6 * d.length + w) z) (d ++ upd x w z :: r) := by
  refine ⟨?_, by have := q.2.1; simpa using this, fun j y hy w' hw' => ?_⟩
  · rw [pk_un (by omega), q.1]
    simp
  · rcases Nat.lt_trichotomy j d.length with h | h | h
    · rw [pk_un (by omega)]
      exact q.2.2 j y ((cut_l h).mpr ((cut_l h).mp hy)) w' hw'
    · subst h
      rw [cut_m] at hy
      cases hy
      by_cases hww : w' = w
      · subst hww
        simp [upd]
      · rw [pk_un (by omega), pk_un hww]
        exact q.get hw'
    · rw [pk_un (by omega)]
      exact q.2.2 j y ((cut_r h).mpr ((cut_r h).mp hy)) w' hw'
theorem rB.end {a : Nat → Int32} {bs : List (Nat → Int32)} (q : rB a bs) : a 9 = nI bs.length := q.1
/-- a row's places moved down -/
def tko (a : Nat → Int32) (lo hi e : Nat) : Nat → Int32 := fun i => if lo ≤ i ∧ i < hi then a (i + e) else a i
theorem tko_out {a : Nat → Int32} {lo hi e i : Nat} (h : i < lo ∨ hi ≤ i) : tko a lo hi e i = a i := by
  unfold tko
  rw [if_neg (by omega)]
theorem tko_in {a : Nat → Int32} {lo hi e i : Nat} (h : lo ≤ i) (h2 : i < hi) : tko a lo hi e i = a (i + e) := by
  unfold tko
  rw [if_pos (by omega)]
theorem tko_0 (a : Nat → Int32) (lo hi e : Nat) (h : hi ≤ lo) : tko a lo hi e = a := by
  funext i
  exact tko_out (by omega)
theorem tko_s {a : Nat → Int32} {lo hi e : Nat} (h : lo ≤ hi) (he : 0 < e) : upd (tko a lo hi e) hi (tko a lo hi e (hi + e)) = tko a lo (hi + 1) e := by
  funext i
  by_cases hi2 : i = hi
  · subst hi2
    rw [pk_us, tko_out (by omega), tko_in (by omega) (by omega)]
  · rw [pk_un hi2]
    by_cases hx : lo ≤ i ∧ i < hi
    · rw [tko_in hx.1 hx.2, tko_in hx.1 (by omega)]
    · rw [tko_out (by omega), tko_out (by omega)]
theorem rB.cut {a : Nat → Int32} {d r : List (Nat → Int32)} {x : Nat → Int32} (q : rB a (d ++ x :: r)) {z : Int32} (hz : z = nI (d ++ r).length) : rB (upd (tko a (27 + 6 * d.length) (27 + 6 * ((d ++ x :: r).length - 1)) 6) 9 z) (d ++ r) := by
  have hl := q.2.1
  simp only [List.length_append, List.length_cons] at hl
  refine ⟨by rw [pk_us, hz], by simp; omega, fun j y hy w hw => ?_⟩
  have hj : j < d.length + r.length := by simpa using (List.getElem?_eq_some_iff.mp hy).1
  rw [pk_un (by omega)]
  by_cases h : j < d.length
  · rw [tko_out (by omega)]
    exact q.2.2 j y ((cut_l h).mpr ((cut_s h).mp hy)) w hw
  · rw [tko_in (by omega) (by simp only [List.length_append, List.length_cons]; omega)]
    have := q.2.2 (j + 1) y ((cut_r (by omega)).mpr (by rw [show j + 1 - d.length - 1 = j - d.length by omega]; exact (cut_g (by omega)).mp hy)) w hw
    rw [← this]
    congr 1
    omega
theorem rR.lt {a : Nat → Int32} {d r : List (Int32 × Int32)} {x : Int32 × Int32} (q : rR a (d ++ x :: r)) : d.length < 28 := by
  have := q.2.1
  simp at this
  omega
theorem rR.get {a : Nat → Int32} {d r : List (Int32 × Int32)} {x : Int32 × Int32} (q : rR a (d ++ x :: r)) : a (75 + 2 * d.length) = x.1 ∧ a (75 + 2 * d.length + 1) = x.2 := q.2.2 _ _ cut_m
theorem rR.cut {a : Nat → Int32} {d r : List (Int32 × Int32)} {x : Int32 × Int32} (q : rR a (d ++ x :: r)) {z : Int32} (hz : z = nI (d ++ r).length) : rR (upd (tko a (75 + 2 * d.length) (75 + 2 * ((d ++ x :: r).length - 1)) 2) 19 z) (d ++ r) := by
  have hl := q.2.1
  simp only [List.length_append, List.length_cons] at hl
  refine ⟨by rw [pk_us, hz], by simp; omega, fun j y hy => ?_⟩
  have hj : j < d.length + r.length := by simpa using (List.getElem?_eq_some_iff.mp hy).1
  rw [pk_un (by omega), pk_un (by omega)]
  by_cases h : j < d.length
  · rw [tko_out (by omega), tko_out (by omega)]
    exact q.2.2 j y ((cut_l h).mpr ((cut_s h).mp hy))
  · rw [tko_in (by omega) (by simp only [List.length_append, List.length_cons]; omega), tko_in (by omega) (by simp only [List.length_append, List.length_cons]; omega)]
    have := q.2.2 (j + 1) y ((cut_r (by omega)).mpr (by rw [show j + 1 - d.length - 1 = j - d.length by omega]; exact (cut_g (by omega)).mp hy))
    rw [show 75 + 2 * j + 2 = 75 + 2 * (j + 1) by omega, show 75 + 2 * j + 1 + 2 = 75 + 2 * (j + 1) + 1 by omega]
    exact this
theorem rR.push {a : Nat → Int32} {rs : List (Int32 × Int32)} (q : rR a rs) (h : rs.length < 28) {v w z : Int32} (hz : z = nI (rs.length + 1)) : rR (upd (upd (upd a (75 + 2 * rs.length) v) (75 + 2 * rs.length + 1) w) 19 z) (rs ++ [(v, w)]) := by
  refine ⟨by rw [pk_us, hz]; simp, by simp; omega, fun j y hy => ?_⟩
  have hj : j < rs.length + 1 := by simpa using (List.getElem?_eq_some_iff.mp hy).1
  rw [pk_un (by omega), pk_un (by omega)]
  by_cases h2 : j < rs.length
  · rw [pk_un (by omega), pk_un (by omega), pk_un (by omega), pk_un (by omega)]
    exact q.2.2 j y ((cut_s h2).mp hy)
  · have : j = rs.length := by omega
    subst this
    rw [cut_m] at hy
    cases hy
    rw [pk_us, pk_un (by omega), pk_us]
    exact ⟨rfl, rfl⟩
theorem rP.lt {a : Nat → Int32} {d r : List Int32} {x : Int32} (q : rP a (d ++ x :: r)) : d.length < 29 := by
  have := q.2.1
  simp at this
  omega
theorem rP.get {a : Nat → Int32} {d r : List Int32} {x : Int32} (q : rP a (d ++ x :: r)) : a (131 + d.length) = x := q.2.2 _ _ cut_m
theorem rP.set {a : Nat → Int32} {d r : List Int32} {x z : Int32} (q : rP a (d ++ x :: r)) : rP (upd a (131 + d.length) z) (d ++ z :: r) := by
  refine ⟨by rw [pk_un (by omega), q.1]; simp, by have := q.2.1; simpa using this, fun j y hy => ?_⟩
  rcases Nat.lt_trichotomy j d.length with h | h | h
  · rw [pk_un (by omega)]
    exact q.2.2 j y ((cut_l h).mpr ((cut_l h).mp hy))
  · subst h
    rw [cut_m] at hy
    cases hy
    exact pk_us
  · rw [pk_un (by omega)]
    exact q.2.2 j y ((cut_r h).mpr ((cut_r h).mp hy))
theorem rP.cut {a : Nat → Int32} {d r : List Int32} {x : Int32} (q : rP a (d ++ x :: r)) {z : Int32} (hz : z = nI (d ++ r).length) : rP (upd (tko a (131 + d.length) (131 + ((d ++ x :: r).length - 1)) 1) 20 z) (d ++ r) := by
  have hl := q.2.1
  simp only [List.length_append, List.length_cons] at hl
  refine ⟨by rw [pk_us, hz], by simp; omega, fun j y hy => ?_⟩
  have hj : j < d.length + r.length := by simpa using (List.getElem?_eq_some_iff.mp hy).1
  rw [pk_un (by omega)]
  by_cases h : j < d.length
  · rw [tko_out (by omega)]
    exact q.2.2 j y ((cut_l h).mpr ((cut_s h).mp hy))
  · rw [tko_in (by omega) (by simp only [List.length_append, List.length_cons]; omega)]
    exact q.2.2 (j + 1) y ((cut_r (by omega)).mpr (by rw [show j + 1 - d.length - 1 = j - d.length by omega]; exact (cut_g (by omega)).mp hy))
theorem rP.push {a : Nat → Int32} {ps : List Int32} (q : rP a ps) (h : ps.length < 29) {v z : Int32} (hz : z = nI (ps.length + 1)) : rP (upd (upd a (131 + ps.length) v) 20 z) (ps ++ [v]) := by
  refine ⟨by rw [pk_us, hz]; simp, by simp; omega, fun j y hy => ?_⟩
  have hj : j < ps.length + 1 := by simpa using (List.getElem?_eq_some_iff.mp hy).1
  rw [pk_un (by omega)]
  by_cases h2 : j < ps.length
  · rw [pk_un (by omega)]
    exact q.2.2 j y ((cut_s h2).mp hy)
  · have : j = ps.length := by omega
    subst this
    rw [cut_m] at hy
    cases hy
    exact pk_us
/-- a row's first places, copied -/
def cpN (a b : Nat → Int32) (n : Nat) : Nat → Int32 := fun i => if i < n then a i else b i
theorem cpN_0 (a b : Nat → Int32) : cpN a b 0 = b := by
  funext i
  simp [cpN]
theorem cpN_s (a b : Nat → Int32) (n : Nat) : upd (cpN a b n) n (a n) = cpN a b (n + 1) := by
  funext i
  by_cases h : i = n
  · subst h
    simp [cpN, upd]
  · simp only [cpN, upd, h, if_false]
    by_cases h2 : i < n
    · simp [h2, Nat.lt_succ_of_lt h2]
    · have : ¬ i < n + 1 := by omega
      simp [h2, this]
theorem RepR.eq {a b : Nat → Int32} {m : MT} (q : RepR a m) (e : ∀ i, i < 160 → b i = a i) : RepR b m := ⟨q.1.eq fun i h _ _ _ => e i (by omega), q.2.1.eq (e _ (by omega)) fun i _ h => e i (by omega), q.2.2.1.eq (e _ (by omega)) fun i _ h => e i (by omega), q.2.2.2.eq (e _ (by omega)) fun i _ h => e i (by omega)⟩
end
section
theorem lp_end {α : Type} {d : List α} {z : Int32} (h : z = nI (d ++ []).length) (hb : (d ++ []).length ≤ 1000) : z ≤ nI d.length := by
  rw [h]
  simp only [List.append_nil] at hb ⊢
  exact nI_le (Nat.le_refl _) (by omega)
theorem lp_go {α : Type} {d r : List α} {x : α} {z : Int32} (h : z = nI (d ++ x :: r).length) (hb : (d ++ x :: r).length ≤ 1000) : ¬ z ≤ nI d.length := by
  rw [h]
  simp only [List.length_append, List.length_cons] at hb ⊢
  exact nI_ge (by omega) (by omega)
theorem len_s {α : Type} {d : List α} {y : α} : nI d.length + Int32.ofInt 1 = nI (d ++ [y]).length := by
  rw [List.length_append]
  exact nI_1 _
theorem xSee_no {x : Nat → Int32} (h : unseen x = false) : xSee x = x := by simp [xSee, h]
theorem xSee_yes {x : Nat → Int32} (h : unseen x = true) : xSee x = upd x 2 1 := by simp [xSee, h]
theorem bMark_cut {d r : List (Nat → Int32)} {y : Nat → Int32} (h : ∀ z ∈ d, isUnder z = false) (hy : isUnder y = true) : bMark (d ++ y :: r) = d ++ xMark y :: r := by
  induction d with
  | nil => simp [bMark, hy]
  | cons z d ih =>
    have hz := h z List.mem_cons_self
    simp only [List.cons_append, bMark, hz, Bool.false_eq_true, if_false]
    rw [ih fun w hw => h w (List.mem_cons_of_mem _ hw)]
theorem find_cut {d r : List (Nat → Int32)} {y : Nat → Int32} (h : ∀ z ∈ d, isUnder z = false) (hy : isUnder y = true) : (d ++ y :: r).find? isUnder = some y := by
  induction d with
  | nil => simp [hy]
  | cons z d ih =>
    have hz := h z List.mem_cons_self
    simp only [List.cons_append, List.find?_cons, hz]
    exact ih fun w hw => h w (List.mem_cons_of_mem _ hw)
theorem find_non {d : List (Nat → Int32)} (h : ∀ z ∈ d, isUnder z = false) : d.find? isUnder = none := by
  rw [List.find?_eq_none]
  intro x hx
  rw [h x hx]
  decide
theorem fate_lt (h x : Nat → Int32) : fate h x = 11 ∨ fate h x = 12 ∨ fate h x = 13 := by
  unfold fate
  split
  · simp
  · split <;> simp
theorem cut_ex {α : Type} {l : List α} {k : Nat} (h : k < l.length) : ∃ (d r : List α) (x : α), l = d ++ x :: r ∧ d.length = k := by
  refine ⟨l.take k, l.drop (k + 1), l[k], ?_, by simp; omega⟩
  rw [List.getElem_cons_drop, List.take_append_drop]
theorem okS_no {k v : Int32} (h : k < 0 ∨ 8 ≤ k) : okS k v = false := by
  cases hk : okS k v with
  | false => rfl
  | true =>
    simp only [okS, Bool.and_eq_true, decide_eq_true_eq] at hk
    rcases h with h | h
    · exact absurd hk.1.1.1 (Int32.not_le.mpr h)
    · exact absurd hk.1.1.2 (Int32.not_lt.mpr h)
def rPad (pd : Nat → Int32) (pn : Int32) (p : List Int32) : Prop := pn = nI p.length ∧ p.length ≤ 60 ∧ ∀ j x, p[j]? = some x → pd j = x
theorem okT_n {t : Int32} (h : okT t = true) : ∃ n, n ≤ 99 ∧ t = nI n := by
  simp only [okT, Bool.and_eq_true, decide_eq_true_eq] at h
  obtain ⟨n, hn, e⟩ := nI_of (x := t) (Int32.not_lt.mpr (Int32.le_trans (by decide) h.1))
  subst e
  rw [show (99 : Int32) = nI 99 from rfl, nI_leI hn (by decide)] at h
  exact ⟨n, h.2, rfl⟩
theorem mPlan_no {v : Int32} {m : MT} (h : ¬ ∃ k, k < m.2.2.2.length ∧ v = nI k) : mPlan v m = -1 := by
  unfold mPlan
  split
  · rfl
  · rename_i h0
    obtain ⟨k, hk, e⟩ := nI_of h0
    subst e
    rw [nI_clamp hk, List.getElem?_eq_none (by
      rcases Nat.lt_or_ge k m.2.2.2.length with q | q
      · exact absurd ⟨k, q, rfl⟩ h
      · exact q)]
theorem mPlan_yes {m : MT} {k : Nat} (h : k < m.2.2.2.length) (h2 : m.2.2.2.length < 2 ^ 31 := by omega) : mPlan (nI k) m = m.2.2.2[k] + 1000 := by
  unfold mPlan
  rw [if_neg (nI_pos (by omega)), nI_clamp (by omega), List.getElem?_eq_getElem h]
theorem mReport_no {v w : Int32} {m : MT} (h : ¬ ∃ k, k < m.2.2.1.length ∧ v = nI k) : mReport v w m = -1 := by
  unfold mReport
  split
  · rfl
  · rename_i h0
    obtain ⟨k, hk, e⟩ := nI_of h0
    subst e
    rw [nI_clamp hk, List.getElem?_eq_none (by
      rcases Nat.lt_or_ge k m.2.2.1.length with q | q
      · exact absurd ⟨k, q, rfl⟩ h
      · exact q)]
theorem mReport_yes {m : MT} {k : Nat} {w : Int32} (h : k < m.2.2.1.length) (h2 : m.2.2.1.length < 2 ^ 31 := by omega) : mReport (nI k) w m = if w = 0 then m.2.2.1[k].1 - m.1 8 + 1 else if w = 1 then m.2.2.1[k].2 else -2 := by
  unfold mReport
  rw [if_neg (nI_pos (by omega)), nI_clamp (by omega), List.getElem?_eq_getElem h]
theorem mBox_no {v w : Int32} {m : MT} (h : ¬ ∃ k, k < m.2.1.length ∧ v = nI k) : mBox v w m = -1 := by
  unfold mBox
  split
  · rfl
  · rename_i h0
    obtain ⟨k, hk, e⟩ := nI_of h0
    subst e
    rw [nI_clamp hk, List.getElem?_eq_none (by
      rcases Nat.lt_or_ge k m.2.1.length with q | q
      · exact absurd ⟨k, q, rfl⟩ h
      · exact q)]
theorem mBox_yes {m : MT} {k : Nat} {w : Int32} {x : Nat → Int32} (h : m.2.1[k]? = some x) (h2 : k < 2 ^ 31) : mBox (nI k) w m = if w = 0 then x 0 + 1000 else if w = 3 then (if x 3 = -6 then -6 else x 3 + 1000) else if w = 1 then x 1 else if w = 2 then x 2 else if w = 4 then x 4 else if w = 5 then x 5 else -2 := by
  unfold mBox
  rw [if_neg (nI_pos (by omega)), nI_clamp (by omega), h]
theorem isub14 {k : Nat} (h : 14 ≤ k) : nI k - 14 = nI (k - 14) := by rw [show (14 : Int32) = nI 14 from rfl, pk_sub h]
theorem mIf_no {t w : Int32} {m : MT} (h : okT t = true) (hw : ¬ ((0 : Int32) ≤ w ∧ w ≤ 6)) : mIf t w m = -2 := by
  unfold mIf
  rw [if_pos h, if_neg (by rintro rfl; exact hw (by decide)), if_neg (by rintro rfl; exact hw (by decide)), if_neg (by rintro rfl; exact hw (by decide)), if_neg (by rintro rfl; exact hw (by decide)), if_neg (by rintro rfl; exact hw (by decide)), if_neg (by rintro rfl; exact hw (by decide)), if_neg (by rintro rfl; exact hw (by decide))]
theorem mBest_no {t w : Int32} {m : MT} (h : okT t = true) (hw : ¬ ((0 : Int32) ≤ w ∧ w ≤ 1)) : mBest t w m = -2 := by
  unfold mBest
  rw [if_pos h, if_neg (by rintro rfl; exact hw (by decide)), if_neg (by rintro rfl; exact hw (by decide))]
theorem last_get {α : Type} {l : List α} : l.getLast? = l[l.length - 1]? := List.getLast?_eq_getElem?
def rmA (d : List (Nat → Int32)) (fr : Int32) : Bool := match d.getLast? with
  | none => true
  | some y => decide (1 ≤ y 0 - y 1 - fr)
def rmB (r : List (Nat → Int32)) (bk : Int32) : Bool := match r with
  | [] => true
  | y :: _ => decide (1 ≤ bk - y 0)
theorem mTurn_cut {h : Nat → Int32} {d r : List (Nat → Int32)} {x : Nat → Int32} {rs : List (Int32 × Int32)} {ps : List Int32} {len : Int32} (hl : d.length < 2 ^ 31) : mTurn (nI d.length) len (h, d ++ x :: r, rs, ps) = if okLen len then (if rmA d (frontT x len) && rmB r (frontT x len - len) then (frontT x len + 1000, (h, d ++ xTurn x len :: r, rs, ps)) else (-5, (h, d ++ x :: r, rs, ps))) else (-2, (h, d ++ x :: r, rs, ps)) := by
  unfold mTurn
  rw [if_neg (nI_pos hl), nI_clamp hl]
  unfold mTurnAt
  simp only [cut_m]
  rw [show (d ++ x :: r).take d.length = d by simp, show (d ++ x :: r).drop (d.length + 1) = r by simp]
  rfl
theorem mTurn_no {v len : Int32} {m : MT} (h : ¬ ∃ k, k < m.2.1.length ∧ v = nI k) : mTurn v len m = (-1, m) := by
  unfold mTurn
  split
  · rfl
  · rename_i h0
    obtain ⟨k, hk, e⟩ := nI_of h0
    subst e
    unfold mTurnAt
    rw [nI_clamp hk, List.getElem?_eq_none (by
      rcases Nat.lt_or_ge k m.2.1.length with q | q
      · exact absurd ⟨k, q, rfl⟩ h
      · exact q)]
end
section
theorem vus {f : Nat → va_E} {i : Nat} {e : va_E} : va_up f i e i = e := by simp [va_up]
theorem vun {f : Nat → va_E} {i j : Nat} {e : va_E} (h : j ≠ i) : va_up f i e j = f j := by simp [va_up, h]
theorem bx_eq {y z : Nat → Int32} (h : ∀ k, k < 7 → y k = z k) : boxE y = boxE z := by
  unfold boxE
  rw [h 0 (by decide), h 1 (by decide), h 2 (by decide), h 3 (by decide), h 4 (by decide), h 5 (by decide), h 6 (by decide)]
def newY (len num : Int32) : Nat → Int32 := fun w => if w = 1 then len else if w = 6 then num else 0
def okY (y : Nat → Int32) : Prop := (y 2 = 0 ∨ y 2 = 1) ∧ (y 3 = 0 ∨ y 3 = 1) ∧ (y 5 = 0 ∨ y 5 = 1)
/-- a box of the class holds the box x -/
def isX (y x : Nat → Int32) : Prop := y 0 = x 0 ∧ y 1 = x 1 ∧ y 2 = x 2 ∧ y 5 = x 4 ∧ y 6 = x 5 ∧ ((y 3 = 0 ∧ x 3 = -6) ∨ (y 3 = 1 ∧ y 4 = x 3 ∧ ¬ x 3 = -6)) ∧ (x 2 = 0 ∨ x 2 = 1) ∧ (x 4 = 0 ∨ x 4 = 1)
theorem isX.ok {y x : Nat → Int32} (h : isX y x) : okY y := by
  obtain ⟨-, -, h2, h5, -, h3, hb2, hb4⟩ := h
  refine ⟨by rw [h2]; exact hb2, ?_, by rw [h5]; exact hb4⟩
  rcases h3 with ⟨q, -⟩ | ⟨q, -⟩
  · exact Or.inl q
  · exact Or.inr q
abbrev rmX1_canHave : Room := { frames := 0, cells := 0, slots := 0, locals := 0 }
set_option maxHeartbeats 4000000 in
set_option maxRecDepth 100000 in
theorem c_X1_canHave (g : GE) (lau : Launch) {N : Nat} {ad : Nat → Nat} {f : Nat → va_E} (v : Int32) : Ct g lau yX1_canHave wsX1_canHave rmX1_canHave N ad [.int v] f (pI N ad (fun x u => (x = 1 ∧ okLen v = true ∧ u = f) ∨ (x = 0 ∧ okLen v = false ∧ u = f))) 0 0 := by
  refine Ct.of (maxL := 1) rfl (by decide +kernel) [some (.int v)] (Nat.le_of_ble_eq_true rfl) (by simp [lvo, lv_args, Value.category]) (fun E hnl _ hC hR => ?_)
  refine V_iload_n hC dX1_canHave_0 rfl rfl ?_
  refine V_iconst hC 4 dX1_canHave_1 (by decide) ?_
  refine V_icmp_lt hC 15 dX1_canHave_2 (by decide) (fun c2 => ?_) (fun c2 => ?_)
  · refine V_iconst hC 0 dX1_canHave_15 (by decide) ?_
    refine V_zret hC hR rfl dX1_canHave_16 ⟨rfl, rfl, _, rfl, ?_⟩
    first | exact Or.inl ⟨rfl, by simp only [okLen, Bool.and_eq_true, decide_eq_true_eq]; exact ⟨Int32.not_lt.mp c2, Int32.not_lt.mp c8⟩, rfl⟩ | exact Or.inr ⟨rfl, by rw [okLen, decide_eq_false (Int32.not_le.mpr c2)]; rfl, rfl⟩ | exact Or.inr ⟨rfl, by rw [okLen, decide_eq_false (p := v ≤ 30) (Int32.not_le.mpr c8), Bool.and_false], rfl⟩
  · refine V_iload_n hC dX1_canHave_5 rfl rfl ?_
    refine V_bipush hC 30 dX1_canHave_6 (by decide) ?_
    refine V_icmp_gt hC 15 dX1_canHave_8 (by decide) (fun c8 => ?_) (fun c8 => ?_)
    · refine V_iconst hC 0 dX1_canHave_15 (by decide) ?_
      refine V_zret hC hR rfl dX1_canHave_16 ⟨rfl, rfl, _, rfl, ?_⟩
      first | exact Or.inl ⟨rfl, by simp only [okLen, Bool.and_eq_true, decide_eq_true_eq]; exact ⟨Int32.not_lt.mp c2, Int32.not_lt.mp c8⟩, rfl⟩ | exact Or.inr ⟨rfl, by rw [okLen, decide_eq_false (Int32.not_le.mpr c2)]; rfl, rfl⟩ | exact Or.inr ⟨rfl, by rw [okLen, decide_eq_false (p := v ≤ 30) (Int32.not_le.mpr c8), Bool.and_false], rfl⟩
    · refine V_iconst hC 1 dX1_canHave_11 (by decide) ?_
      refine V_goto hC 16 dX1_canHave_12 (by decide) ?_
      refine V_zret hC hR rfl dX1_canHave_16 ⟨rfl, rfl, _, rfl, ?_⟩
      first | exact Or.inl ⟨rfl, by simp only [okLen, Bool.and_eq_true, decide_eq_true_eq]; exact ⟨Int32.not_lt.mp c2, Int32.not_lt.mp c8⟩, rfl⟩ | exact Or.inr ⟨rfl, by rw [okLen, decide_eq_false (Int32.not_le.mpr c2)]; rfl, rfl⟩ | exact Or.inr ⟨rfl, by rw [okLen, decide_eq_false (p := v ≤ 30) (Int32.not_le.mpr c8), Bool.and_false], rfl⟩
theorem inX1_X1_back : ∀ w ∈ wsX10, w ∈ wsX1_back := by decide +kernel
abbrev rmX1_back : Room := { frames := 0, cells := 0, slots := 0, locals := 0 }
set_option maxHeartbeats 4000000 in
set_option maxRecDepth 100000 in
theorem c_X1_back (g : GE) (lau : Launch) {N : Nat} {ad : Nat → Nat} {f : Nat → va_E} {i : Nat} {y : Nat → Int32} (hi : i < N) (hf : f i = boxE y) : Ct g lau yX1_back wsX1_back rmX1_back N ad [.ref (ad i)] f (pI N ad (fun x u => x = y 0 - y 1 ∧ u = f)) 0 0 := by
  refine Ct.of (maxL := 1) rfl (by decide +kernel) [some (.ref (ad i))] (Nat.le_of_ble_eq_true rfl) (by simp [lvo, lv_args, Value.category]) (fun E hnl _ hC hR => ?_)
  refine V_aload_n hC dX1_back_0 rfl rfl ?_
  refine V_X_front hC hi hf dX1_back_1 inX1_X1_back (by decide +kernel) ?_
  refine V_aload_n hC dX1_back_4 rfl rfl ?_
  refine V_X_length hC hi hf dX1_back_5 inX1_X1_back (by decide +kernel) ?_
  refine V_isub hC dX1_back_8 ?_
  refine V_iret hC hR dX1_back_9 ⟨rfl, rfl, _, rfl, ?_⟩
  exact ⟨rfl, rfl⟩
theorem inX1_X1_liesUnder : ∀ w ∈ wsX10, w ∈ wsX1_liesUnder := by decide +kernel
abbrev rmX1_liesUnder : Room := { frames := 0, cells := 0, slots := 0, locals := 0 }
set_option maxHeartbeats 4000000 in
set_option maxRecDepth 100000 in
theorem c_X1_liesUnder (g : GE) (lau : Launch) {N : Nat} {ad : Nat → Nat} {f : Nat → va_E} {i : Nat} {y : Nat → Int32} (hi : i < N) (hf : f i = boxE y) (v : Int32) : Ct g lau yX1_liesUnder wsX1_liesUnder rmX1_liesUnder N ad [.ref (ad i), .int v] f (pI N ad (fun x u => (x = 1 ∧ (v ≤ y 0 ∧ y 0 - y 1 < v) ∧ u = f) ∨ (x = 0 ∧ ¬ (v ≤ y 0 ∧ y 0 - y 1 < v) ∧ u = f))) 0 0 := by
  refine Ct.of (maxL := 2) rfl (by decide +kernel) [some (.ref (ad i)), some (.int v)] (Nat.le_of_ble_eq_true rfl) (by simp [lvo, lv_args, Value.category]) (fun E hnl _ hC hR => ?_)
  refine V_aload_n hC dX1_liesUnder_0 rfl rfl ?_
  refine V_X_front hC hi hf dX1_liesUnder_1 inX1_X1_liesUnder (by decide +kernel) ?_
  refine V_iload_n hC dX1_liesUnder_4 rfl rfl ?_
  refine V_icmp_lt hC 25 dX1_liesUnder_5 (by decide) (fun c5 => ?_) (fun c5 => ?_)
  · refine V_iconst hC 0 dX1_liesUnder_25 (by decide) ?_
    refine V_zret hC hR rfl dX1_liesUnder_26 ⟨rfl, rfl, _, rfl, ?_⟩
    first | exact Or.inl ⟨rfl, ⟨Int32.not_lt.mp c5, Int32.not_le.mp c18⟩, rfl⟩ | exact Or.inr ⟨rfl, fun q => absurd q.1 (Int32.not_le.mpr c5), rfl⟩ | exact Or.inr ⟨rfl, fun q => absurd q.2 (Int32.not_lt.mpr c18), rfl⟩
  · refine V_aload_n hC dX1_liesUnder_8 rfl rfl ?_
    refine V_X_front hC hi hf dX1_liesUnder_9 inX1_X1_liesUnder (by decide +kernel) ?_
    refine V_aload_n hC dX1_liesUnder_12 rfl rfl ?_
    refine V_X_length hC hi hf dX1_liesUnder_13 inX1_X1_liesUnder (by decide +kernel) ?_
    refine V_isub hC dX1_liesUnder_16 ?_
    refine V_iload_n hC dX1_liesUnder_17 rfl rfl ?_
    refine V_icmp_ge hC 25 dX1_liesUnder_18 (by decide) (fun c18 => ?_) (fun c18 => ?_)
    · refine V_iconst hC 0 dX1_liesUnder_25 (by decide) ?_
      refine V_zret hC hR rfl dX1_liesUnder_26 ⟨rfl, rfl, _, rfl, ?_⟩
      first | exact Or.inl ⟨rfl, ⟨Int32.not_lt.mp c5, Int32.not_le.mp c18⟩, rfl⟩ | exact Or.inr ⟨rfl, fun q => absurd q.1 (Int32.not_le.mpr c5), rfl⟩ | exact Or.inr ⟨rfl, fun q => absurd q.2 (Int32.not_lt.mpr c18), rfl⟩
    · refine V_iconst hC 1 dX1_liesUnder_21 (by decide) ?_
      refine V_goto hC 26 dX1_liesUnder_22 (by decide) ?_
      refine V_zret hC hR rfl dX1_liesUnder_26 ⟨rfl, rfl, _, rfl, ?_⟩
      first | exact Or.inl ⟨rfl, ⟨Int32.not_lt.mp c5, Int32.not_le.mp c18⟩, rfl⟩ | exact Or.inr ⟨rfl, fun q => absurd q.1 (Int32.not_le.mpr c5), rfl⟩ | exact Or.inr ⟨rfl, fun q => absurd q.2 (Int32.not_lt.mpr c18), rfl⟩
theorem inX1_X1_begin : ∀ w ∈ wsX10, w ∈ wsX1_begin := by decide +kernel
abbrev rmX1_begin : Room := { frames := 0, cells := 0, slots := 0, locals := 0 }
set_option maxHeartbeats 4000000 in
set_option maxRecDepth 100000 in
theorem c_X1_begin (g : GE) (lau : Launch) {N : Nat} {ad : Nat → Nat} {f : Nat → va_E} {i : Nat} {y : Nat → Int32} (hi : i < N) (hf : f i = boxE y) (v w : Int32) : Ct g lau yX1_begin wsX1_begin rmX1_begin N ad [.ref (ad i), .int v, .int w] f (pV N ad (fun u => u = va_up f i (boxE (newY v w)))) 0 0 := by
  refine Ct.of (maxL := 3) rfl (by decide +kernel) [some (.ref (ad i)), some (.int v), some (.int w)] (Nat.le_of_ble_eq_true rfl) (by simp [lvo, lv_args, Value.category]) (fun E hnl _ hC hR => ?_)
  refine V_aload_n hC dX1_begin_0 rfl rfl ?_
  refine V_iconst hC 0 dX1_begin_1 (by decide) ?_
  refine V_X_put_front hC hi hf dX1_begin_2 inX1_X1_begin (by decide +kernel) ?_
  refine V_aload_n hC dX1_begin_5 rfl rfl ?_
  refine V_iload_n hC dX1_begin_6 rfl rfl ?_
  refine V_X_put_length hC hi vus dX1_begin_7 inX1_X1_begin (by decide +kernel) ?_
  refine V_f (bx_uu _ _ _ _) ?_
  refine V_aload_n hC dX1_begin_10 rfl rfl ?_
  refine V_iconst hC 0 dX1_begin_11 (by decide) ?_
  refine V_X_put_seen hC hi vus (Or.inl rfl) dX1_begin_12 inX1_X1_begin (by decide +kernel) ?_
  refine V_f (bx_uu _ _ _ _) ?_
  refine V_aload_n hC dX1_begin_15 rfl rfl ?_
  refine V_iconst hC 0 dX1_begin_16 (by decide) ?_
  refine V_X_put_marked hC hi vus (Or.inl rfl) dX1_begin_17 inX1_X1_begin (by decide +kernel) ?_
  refine V_f (bx_uu _ _ _ _) ?_
  refine V_aload_n hC dX1_begin_20 rfl rfl ?_
  refine V_iconst hC 0 dX1_begin_21 (by decide) ?_
  refine V_X_put_mark hC hi vus dX1_begin_22 inX1_X1_begin (by decide +kernel) ?_
  refine V_f (bx_uu _ _ _ _) ?_
  refine V_aload_n hC dX1_begin_25 rfl rfl ?_
  refine V_iconst hC 0 dX1_begin_26 (by decide) ?_
  refine V_X_put_twice hC hi vus (Or.inl rfl) dX1_begin_27 inX1_X1_begin (by decide +kernel) ?_
  refine V_f (bx_uu _ _ _ _) ?_
  refine V_aload_n hC dX1_begin_30 rfl rfl ?_
  refine V_iload_n hC dX1_begin_31 rfl rfl ?_
  refine V_X_put_number hC hi vus dX1_begin_32 inX1_X1_begin (by decide +kernel) ?_
  refine V_f (bx_uu _ _ _ _) ?_
  refine V_vret hC hR dX1_begin_35 ⟨rfl, rfl, rfl, ?_⟩
  exact congrArg (va_up f i) (bx_eq fun k hk => by rcases (show k = 0 ∨ k = 1 ∨ k = 2 ∨ k = 3 ∨ k = 4 ∨ k = 5 ∨ k = 6 by omega) with rfl | rfl | rfl | rfl | rfl | rfl | rfl <;> simp [upd, newY])
theorem inX1_X1_copyFrom : ∀ w ∈ wsX10, w ∈ wsX1_copyFrom := by decide +kernel
abbrev rmX1_copyFrom : Room := { frames := 0, cells := 0, slots := 0, locals := 0 }
set_option maxHeartbeats 4000000 in
set_option maxRecDepth 100000 in
theorem c_X1_copyFrom (g : GE) (lau : Launch) {N : Nat} {ad : Nat → Nat} {f : Nat → va_E} {i : Nat} {y : Nat → Int32} (hi : i < N) (hf : f i = boxE y) {j : Nat} {z : Nat → Int32} (hj : j < N) (hf2 : f j = boxE z) (hij : j ≠ i) (hz : okY z) : Ct g lau yX1_copyFrom wsX1_copyFrom rmX1_copyFrom N ad [.ref (ad i), .ref (ad j)] f (pV N ad (fun u => u = va_up f i (boxE z))) 0 0 := by
  refine Ct.of (maxL := 2) rfl (by decide +kernel) [some (.ref (ad i)), some (.ref (ad j))] (Nat.le_of_ble_eq_true rfl) (by simp [lvo, lv_args, Value.category]) (fun E hnl _ hC hR => ?_)
  refine V_aload_n hC dX1_copyFrom_0 rfl rfl ?_
  refine V_aload_n hC dX1_copyFrom_1 rfl rfl ?_
  refine V_X_front hC hj hf2 dX1_copyFrom_2 inX1_X1_copyFrom (by decide +kernel) ?_
  refine V_X_put_front hC hi hf dX1_copyFrom_5 inX1_X1_copyFrom (by decide +kernel) ?_
  refine V_aload_n hC dX1_copyFrom_8 rfl rfl ?_
  refine V_aload_n hC dX1_copyFrom_9 rfl rfl ?_
  refine V_X_length hC hj ((vun hij).trans hf2) dX1_copyFrom_10 inX1_X1_copyFrom (by decide +kernel) ?_
  refine V_X_put_length hC hi vus dX1_copyFrom_13 inX1_X1_copyFrom (by decide +kernel) ?_
  refine V_f (bx_uu _ _ _ _) ?_
  refine V_aload_n hC dX1_copyFrom_16 rfl rfl ?_
  refine V_aload_n hC dX1_copyFrom_17 rfl rfl ?_
  refine V_X_seen hC hj ((vun hij).trans hf2) dX1_copyFrom_18 inX1_X1_copyFrom (by decide +kernel) ?_
  refine V_X_put_seen hC hi vus hz.1 dX1_copyFrom_21 inX1_X1_copyFrom (by decide +kernel) ?_
  refine V_f (bx_uu _ _ _ _) ?_
  refine V_aload_n hC dX1_copyFrom_24 rfl rfl ?_
  refine V_aload_n hC dX1_copyFrom_25 rfl rfl ?_
  refine V_X_marked hC hj ((vun hij).trans hf2) dX1_copyFrom_26 inX1_X1_copyFrom (by decide +kernel) ?_
  refine V_X_put_marked hC hi vus hz.2.1 dX1_copyFrom_29 inX1_X1_copyFrom (by decide +kernel) ?_
  refine V_f (bx_uu _ _ _ _) ?_
  refine V_aload_n hC dX1_copyFrom_32 rfl rfl ?_
  refine V_aload_n hC dX1_copyFrom_33 rfl rfl ?_
  refine V_X_mark hC hj ((vun hij).trans hf2) dX1_copyFrom_34 inX1_X1_copyFrom (by decide +kernel) ?_
  refine V_X_put_mark hC hi vus dX1_copyFrom_37 inX1_X1_copyFrom (by decide +kernel) ?_
  refine V_f (bx_uu _ _ _ _) ?_
  refine V_aload_n hC dX1_copyFrom_40 rfl rfl ?_
  refine V_aload_n hC dX1_copyFrom_41 rfl rfl ?_
  refine V_X_twice hC hj ((vun hij).trans hf2) dX1_copyFrom_42 inX1_X1_copyFrom (by decide +kernel) ?_
  refine V_X_put_twice hC hi vus hz.2.2 dX1_copyFrom_45 inX1_X1_copyFrom (by decide +kernel) ?_
  refine V_f (bx_uu _ _ _ _) ?_
  refine V_aload_n hC dX1_copyFrom_48 rfl rfl ?_
  refine V_aload_n hC dX1_copyFrom_49 rfl rfl ?_
  refine V_X_number hC hj ((vun hij).trans hf2) dX1_copyFrom_50 inX1_X1_copyFrom (by decide +kernel) ?_
  refine V_X_put_number hC hi vus dX1_copyFrom_53 inX1_X1_copyFrom (by decide +kernel) ?_
  refine V_f (bx_uu _ _ _ _) ?_
  refine V_vret hC hR dX1_copyFrom_56 ⟨rfl, rfl, rfl, ?_⟩
  exact congrArg (va_up f i) (bx_eq fun k hk => by rcases (show k = 0 ∨ k = 1 ∨ k = 2 ∨ k = 3 ∨ k = 4 ∨ k = 5 ∨ k = 6 by omega) with rfl | rfl | rfl | rfl | rfl | rfl | rfl <;> simp [upd])
def xTell (x : Nat → Int32) (w : Int32) : Int32 := if w = 0 then x 0 + 1000 else if w = 3 then (if x 3 = -6 then -6 else x 3 + 1000) else if w = 1 then x 1 else if w = 2 then x 2 else if w = 4 then x 4 else if w = 5 then x 5 else -2
theorem k6 (k : Int32) : (k < 0 ∨ 6 ≤ k) ∨ k = 0 ∨ k = 1 ∨ k = 2 ∨ k = 3 ∨ k = 4 ∨ k = 5 := by
  by_cases h : k < 0
  · exact Or.inl (Or.inl h)
  · obtain ⟨j, hj, e⟩ := nI_of h
    subst e
    by_cases h2 : j < 6
    · rcases (show j = 0 ∨ j = 1 ∨ j = 2 ∨ j = 3 ∨ j = 4 ∨ j = 5 by omega) with e | e | e | e | e | e <;> subst e <;> decide
    · exact Or.inl (Or.inr (nI_le (a := 6) (by omega) hj))
theorem inX1_X1_tell : ∀ w ∈ wsX10, w ∈ wsX1_tell := by decide +kernel
abbrev rmX1_tell : Room := { frames := 0, cells := 0, slots := 0, locals := 0 }
set_option maxHeartbeats 4000000 in
set_option maxRecDepth 100000 in
theorem c_X1_tell (g : GE) (lau : Launch) {N : Nat} {ad : Nat → Nat} {f : Nat → va_E} {i : Nat} {y : Nat → Int32} (hi : i < N) (hf : f i = boxE y) {xb : Nat → Int32} (hx : isX y xb) (w : Int32) : Ct g lau yX1_tell wsX1_tell rmX1_tell N ad [.ref (ad i), .int w] f (pI N ad (fun x u => x = xTell xb w ∧ u = f)) 0 0 := by
  refine Ct.of (maxL := 2) rfl (by decide +kernel) [some (.ref (ad i)), some (.int w)] (Nat.le_of_ble_eq_true rfl) (by simp [lvo, lv_args, Value.category]) (fun E hnl _ hC hR => ?_)
  obtain ⟨e0, e1, e2, e5, e6, e3, hb2, hb4⟩ := hx
  rcases k6 w with hk | rfl | rfl | rfl | rfl | rfl | rfl
  · have h1 : w.toInt < 0 ∨ 5 < w.toInt := by
      rcases hk with h | h
      · exact Or.inl (Int32.lt_iff_toInt_lt.mp h)
      · exact Or.inr (by have := Int32.le_iff_toInt_le.mp h; have e : (6 : Int32).toInt = 6 := rfl; omega)
    have hn : ∀ z : Int32, (0 ≤ z ∧ z < 6) → ¬ w = z := by
      rintro z hz rfl
      rcases hk with h | h
      · exact absurd hz.1 (Int32.not_le.mpr h)
      · exact absurd hz.2 (Int32.not_lt.mpr h)
    refine V_iload_n hC dX1_tell_0 rfl rfl ?_
    refine V_tableOut hC 106 dX1_tell_1 h1 (by decide) ?_
    refine V_bipush hC (-2) dX1_tell_106 (by decide) ?_
    refine V_iret hC hR dX1_tell_108 ⟨rfl, rfl, _, rfl, ?_⟩
    rw [xTell, if_neg (hn 0 (by decide)), if_neg (hn 3 (by decide)), if_neg (hn 1 (by decide)), if_neg (hn 2 (by decide)), if_neg (hn 4 (by decide)), if_neg (hn 5 (by decide))]
    exact ⟨rfl, rfl⟩
  · refine V_iload_n hC dX1_tell_0 rfl rfl ?_
    refine V_tableIn hC 40 dX1_tell_1 (by decide) (by decide) rfl (by decide) ?_
    refine V_aload_n hC dX1_tell_40 rfl rfl ?_
    refine V_X_front hC hi hf dX1_tell_41 inX1_X1_tell (by decide +kernel) ?_
    refine V_sipush hC 1000 dX1_tell_44 (by decide) ?_
    refine V_iadd hC dX1_tell_47 ?_
    refine V_iret hC hR dX1_tell_48 ⟨rfl, rfl, _, rfl, ?_⟩
    refine ⟨?_, rfl⟩
    rw [e0]; rfl
  · refine V_iload_n hC dX1_tell_0 rfl rfl ?_
    refine V_tableIn hC 49 dX1_tell_1 (by decide) (by decide) rfl (by decide) ?_
    refine V_aload_n hC dX1_tell_49 rfl rfl ?_
    refine V_X_length hC hi hf dX1_tell_50 inX1_X1_tell (by decide +kernel) ?_
    refine V_iret hC hR dX1_tell_53 ⟨rfl, rfl, _, rfl, ?_⟩
    refine ⟨?_, rfl⟩
    rw [e1]; rfl
  · refine V_iload_n hC dX1_tell_0 rfl rfl ?_
    refine V_tableIn hC 54 dX1_tell_1 (by decide) (by decide) rfl (by decide) ?_
    refine V_aload_n hC dX1_tell_54 rfl rfl ?_
    refine V_X_seen hC hi hf dX1_tell_55 inX1_X1_tell (by decide +kernel) ?_
    refine V_if_eq hC 65 dX1_tell_58 (by decide) (fun c58 => ?_) (fun c58 => ?_)
    · refine V_iconst hC 0 dX1_tell_65 (by decide) ?_
      refine V_iret hC hR dX1_tell_66 ⟨rfl, rfl, _, rfl, ?_⟩
      refine ⟨?_, rfl⟩
      first | (rcases hb2 with q | q; exact absurd (e2.trans q) c58; exact q.symm) | (exact (e2.symm.trans c58).symm)
    · refine V_iconst hC 1 dX1_tell_61 (by decide) ?_
      refine V_goto hC 66 dX1_tell_62 (by decide) ?_
      refine V_iret hC hR dX1_tell_66 ⟨rfl, rfl, _, rfl, ?_⟩
      refine ⟨?_, rfl⟩
      first | (rcases hb2 with q | q; exact absurd (e2.trans q) c58; exact q.symm) | (exact (e2.symm.trans c58).symm)
  · refine V_iload_n hC dX1_tell_0 rfl rfl ?_
    refine V_tableIn hC 67 dX1_tell_1 (by decide) (by decide) rfl (by decide) ?_
    refine V_aload_n hC dX1_tell_67 rfl rfl ?_
    refine V_X_marked hC hi hf dX1_tell_68 inX1_X1_tell (by decide +kernel) ?_
    refine V_if_eq hC 85 dX1_tell_71 (by decide) (fun c71 => ?_) (fun c71 => ?_)
    · refine V_bipush hC (-6) dX1_tell_85 (by decide) ?_
      refine V_iret hC hR dX1_tell_87 ⟨rfl, rfl, _, rfl, ?_⟩
      refine ⟨?_, rfl⟩
      first | (rcases e3 with ⟨q, q2⟩ | ⟨q, q2, q3⟩; exact absurd q c71; rw [q2]; show _ = (if xb 3 = -6 then -6 else xb 3 + 1000); rw [if_neg q3]) | (rcases e3 with ⟨q, q2⟩ | ⟨q, q2, q3⟩; show _ = (if xb 3 = -6 then -6 else xb 3 + 1000); rw [if_pos q2]; rw [q] at c71; exact absurd c71 (by decide))
    · refine V_aload_n hC dX1_tell_74 rfl rfl ?_
      refine V_X_mark hC hi hf dX1_tell_75 inX1_X1_tell (by decide +kernel) ?_
      refine V_sipush hC 1000 dX1_tell_78 (by decide) ?_
      refine V_iadd hC dX1_tell_81 ?_
      refine V_goto hC 87 dX1_tell_82 (by decide) ?_
      refine V_iret hC hR dX1_tell_87 ⟨rfl, rfl, _, rfl, ?_⟩
      refine ⟨?_, rfl⟩
      first | (rcases e3 with ⟨q, q2⟩ | ⟨q, q2, q3⟩; exact absurd q c71; rw [q2]; show _ = (if xb 3 = -6 then -6 else xb 3 + 1000); rw [if_neg q3]) | (rcases e3 with ⟨q, q2⟩ | ⟨q, q2, q3⟩; show _ = (if xb 3 = -6 then -6 else xb 3 + 1000); rw [if_pos q2]; rw [q] at c71; exact absurd c71 (by decide))
  · refine V_iload_n hC dX1_tell_0 rfl rfl ?_
    refine V_tableIn hC 88 dX1_tell_1 (by decide) (by decide) rfl (by decide) ?_
    refine V_aload_n hC dX1_tell_88 rfl rfl ?_
    refine V_X_twice hC hi hf dX1_tell_89 inX1_X1_tell (by decide +kernel) ?_
    refine V_if_eq hC 99 dX1_tell_92 (by decide) (fun c92 => ?_) (fun c92 => ?_)
    · refine V_iconst hC 0 dX1_tell_99 (by decide) ?_
      refine V_iret hC hR dX1_tell_100 ⟨rfl, rfl, _, rfl, ?_⟩
      refine ⟨?_, rfl⟩
      first | (rcases hb4 with q | q; exact absurd (e5.trans q) c92; exact q.symm) | (exact (e5.symm.trans c92).symm)
    · refine V_iconst hC 1 dX1_tell_95 (by decide) ?_
      refine V_goto hC 100 dX1_tell_96 (by decide) ?_
      refine V_iret hC hR dX1_tell_100 ⟨rfl, rfl, _, rfl, ?_⟩
      refine ⟨?_, rfl⟩
      first | (rcases hb4 with q | q; exact absurd (e5.trans q) c92; exact q.symm) | (exact (e5.symm.trans c92).symm)
  · refine V_iload_n hC dX1_tell_0 rfl rfl ?_
    refine V_tableIn hC 101 dX1_tell_1 (by decide) (by decide) rfl (by decide) ?_
    refine V_aload_n hC dX1_tell_101 rfl rfl ?_
    refine V_X_number hC hi hf dX1_tell_102 inX1_X1_tell (by decide +kernel) ?_
    refine V_iret hC hR dX1_tell_105 ⟨rfl, rfl, _, rfl, ?_⟩
    refine ⟨?_, rfl⟩
    rw [e6]; rfl
/-! a belt of the class and the value that it holds -/
def qS (s h : Nat → Int32) : Prop := ∀ i, i < 8 → s i = h i
def qT (t h : Nat → Int32) : Prop := ∀ i, i < 14 → i ≠ 1 → i ≠ 11 → i ≠ 12 → t i = h (8 + i)
def qW (wy h : Nat → Int32) : Prop := ∀ k, k < 5 → wy k = h (22 + k)
def qH (s t wy h : Nat → Int32) : Prop := qS s h ∧ qT t h ∧ qW wy h
def qX (p : Nat → Nat) (gx : Nat → Nat → Int32) (bc : Int32) (bs : List (Nat → Int32)) : Prop := bc = nI bs.length ∧ bs.length ≤ 8 ∧ (∀ j, j < 8 → p j < 8) ∧ (∀ i j, i < 8 → j < 8 → p i = p j → i = j) ∧ ∀ j x, bs[j]? = some x → isX (gx (p j)) x
def qR (co ex : Nat → Int32) (rc : Int32) (rs : List (Int32 × Int32)) : Prop := rc = nI rs.length ∧ rs.length ≤ 28 ∧ ∀ j r, rs[j]? = some r → co j = r.1 ∧ ex j = r.2
def qP (pl : Nat → Int32) (pn : Int32) (ps : List Int32) : Prop := pn = nI ps.length ∧ ps.length ≤ 29 ∧ ∀ j q, ps[j]? = some q → pl j = q
def RepB (s t : Nat → Int32) (p : Nat → Nat) (bc : Int32) (co ex : Nat → Int32) (rc : Int32) (pl : Nat → Int32) (pn : Int32) (wy : Nat → Int32) (gx : Nat → Nat → Int32) (m : MT) : Prop := qH s t wy m.1 ∧ qX p gx bc m.2.1 ∧ qR co ex rc m.2.2.1 ∧ qP pl pn m.2.2.2
/-- the world u holds, over f, a belt at c with the value m -/
def BIs (g : GE) (ad : Nat → Nat) (f : Nat → va_E) (c : Nat) (m : MT) (u : Nat → va_E) : Prop := ∃ (s t : Nat → Int32) (p : Nat → Nat) (bc : Int32) (co ex : Nat → Int32) (rc : Int32) (pl : Nat → Int32) (pn : Int32) (wy : Nat → Int32) (gx : Nat → Nat → Int32), u = zB g ad f c s t p bc co ex rc pl pn wy gx ∧ RepB s t p bc co ex rc pl pn wy gx m
theorem BIs.mk {g : GE} {ad : Nat → Nat} {f : Nat → va_E} {c : Nat} {m : MT} {s t : Nat → Int32} {p : Nat → Nat} {bc : Int32} {co ex : Nat → Int32} {rc : Int32} {pl : Nat → Int32} {pn : Int32} {wy : Nat → Int32} {gx : Nat → Nat → Int32} (h : RepB s t p bc co ex rc pl pn wy gx m) : BIs g ad f c m (zB g ad f c s t p bc co ex rc pl pn wy gx) := ⟨s, t, p, bc, co, ex, rc, pl, pn, wy, gx, rfl, h⟩
theorem qX.lt {p : Nat → Nat} {gx : Nat → Nat → Int32} {bc : Int32} {d r : List (Nat → Int32)} {x : Nat → Int32} (q : qX p gx bc (d ++ x :: r)) : d.length < 8 := by
  have := q.2.1
  simp at this
  omega
theorem qX.get {p : Nat → Nat} {gx : Nat → Nat → Int32} {bc : Int32} {d r : List (Nat → Int32)} {x : Nat → Int32} (q : qX p gx bc (d ++ x :: r)) : isX (gx (p d.length)) x := q.2.2.2.2 _ _ cut_m
theorem qX.p8 {p : Nat → Nat} {gx : Nat → Nat → Int32} {bc : Int32} {bs : List (Nat → Int32)} (q : qX p gx bc bs) {j : Nat} (h : j < 8) : p j < 8 := q.2.2.1 j h
theorem qX.set {p : Nat → Nat} {gx : Nat → Nat → Int32} {bc : Int32} {d r : List (Nat → Int32)} {x z y : Nat → Int32} (q : qX p gx bc (d ++ x :: r)) (h : isX y z) : qX p (va_up gx (p d.length) y) bc (d ++ z :: r) := by
  refine ⟨by rw [q.1]; simp, by have := q.2.1; simpa using this, q.2.2.1, q.2.2.2.1, fun j w hw => ?_⟩
  have hj8 : j < 8 := by have h1 := (List.getElem?_eq_some_iff.mp hw).1; have h2 := q.2.1; simp at h1 h2; omega
  by_cases hj : j = d.length
  · subst hj
    rw [cut_m] at hw
    cases hw
    simp only [va_up, if_true]
    exact h
  · have hp : p j ≠ p d.length := fun e => hj (q.2.2.2.1 j d.length hj8 q.lt e)
    simp only [va_up, hp, if_false]
    refine q.2.2.2.2 j w ?_
    rcases Nat.lt_or_gt_of_ne hj with h3 | h3
    · exact (cut_l h3).mpr ((cut_l h3).mp hw)
    · exact (cut_r h3).mpr ((cut_r h3).mp hw)
theorem qH.s {s t wy h : Nat → Int32} (q : qH s t wy h) {k : Nat} {z : Int32} (hk : k < 8) : qH (upd s k z) t wy (upd h k z) := by
  refine ⟨fun i hi => ?_, fun i h1 h2 h3 h4 => ?_, fun i hi => ?_⟩
  · unfold upd
    split
    · rfl
    · exact q.1 i hi
  · rw [pk_un (by omega)]
    exact q.2.1 i h1 h2 h3 h4
  · rw [pk_un (by omega)]
    exact q.2.2 i hi
theorem qH.t {s t wy h : Nat → Int32} (q : qH s t wy h) {k : Nat} {z : Int32} (hk : k < 14) : qH s (upd t k z) wy (upd h (8 + k) z) := by
  refine ⟨fun i hi => ?_, fun i h1 h2 h3 h4 => ?_, fun i hi => ?_⟩
  · rw [pk_un (by omega)]
    exact q.1 i hi
  · by_cases hik : i = k
    · subst hik
      rw [pk_us, pk_us]
    · rw [pk_un hik, pk_un (by omega)]
      exact q.2.1 i h1 h2 h3 h4
  · rw [pk_un (by omega)]
    exact q.2.2 i hi
end
section
theorem zB_0 {g : GE} {ad : Nat → Nat} {f : Nat → va_E} {c : Nat} {s t : Nat → Int32} {p : Nat → Nat} {bc : Int32} {co ex : Nat → Int32} {rc : Int32} {pl : Nat → Int32} {pn : Int32} {wy : Nat → Int32} {gx : Nat → Nat → Int32} : zB g ad f c s t p bc co ex rc pl pn wy gx c = .inr (0, [.ref (ad (c + 1)), .ref (ad (c + 2)), .ref (ad (c + 3)), .int bc, .ref (ad (c + 4)), .ref (ad (c + 5)), .int rc, .ref (ad (c + 6)), .int pn, .ref (ad (c + 7))]) := zB0_0
theorem lt_n {v : Int32} {n : Nat} (hn : n < 2 ^ 31) (h0 : ¬ v < 0) (h : ¬ nI n ≤ v) : ∃ k, k < n ∧ v = nI k := by
  obtain ⟨k, hk, e⟩ := nI_of h0
  subst e
  rcases Nat.lt_or_ge k n with q | q
  · exact ⟨k, q, rfl⟩
  · exact absurd (nI_le q hk) h
theorem lt_no {v : Int32} {n : Nat} (hn : n < 2 ^ 31) (h : v < 0 ∨ nI n ≤ v) : ¬ ∃ k, k < n ∧ v = nI k := by
  rintro ⟨k, hk, rfl⟩
  rcases h with h | h
  · exact nI_pos (by omega) h
  · exact nI_ge hk hn h
theorem inX0_X0_isBox : ∀ w ∈ wsX00, w ∈ wsX0_isBox := by decide +kernel
abbrev rmX0_isBox : Room := { frames := 0, cells := 0, slots := 0, locals := 0 }
set_option maxHeartbeats 4000000 in
set_option maxRecDepth 100000 in
theorem c_X0_isBox (g : GE) (lau : Launch) {N : Nat} {ad : Nat → Nat} {f : Nat → va_E} {c : Nat} {s t : Nat → Int32} {p : Nat → Nat} {bc : Int32} {co ex : Nat → Int32} {rc : Int32} {pl : Nat → Int32} {pn : Int32} {wy : Nat → Int32} {gx : Nat → Nat → Int32} (hN : c + 16 ≤ N) {bs : List (Nat → Int32)} (hx : qX p gx bc bs) (v : Int32) : Ct g lau yX0_isBox wsX0_isBox rmX0_isBox N ad [.ref (ad c), .int (v)] (zB g ad f c s t p bc co ex rc pl pn wy gx) (pI N ad (fun x u => (x = 1 ∧ (∃ k, k < bs.length ∧ v = nI k) ∧ u = (zB g ad f c s t p bc co ex rc pl pn wy gx)) ∨ (x = 0 ∧ ¬ (∃ k, k < bs.length ∧ v = nI k) ∧ u = (zB g ad f c s t p bc co ex rc pl pn wy gx)))) 0 0 := by
  refine Ct.of (maxL := 2) rfl (by decide +kernel) [some (.ref (ad c)), some (.int (v))] (Nat.le_of_ble_eq_true rfl) (by simp [lvo, lv_args, Value.category]) (fun E hnl _ hC hR => ?_)
  have hl : bs.length < 2 ^ 31 := Nat.lt_of_le_of_lt hx.2.1 (by decide)
  refine V_iload_n hC dX0_isBox_0 rfl rfl ?_
  refine V_if_lt hC 16 dX0_isBox_1 (by decide) (fun c1 => ?_) (fun c1 => ?_)
  · refine V_iconst hC 0 dX0_isBox_16 (by decide) ?_
    refine V_zret hC hR rfl dX0_isBox_17 ⟨rfl, rfl, _, rfl, ?_⟩
    first | exact Or.inl ⟨rfl, lt_n hl c1 c9, rfl⟩ | exact Or.inr ⟨rfl, lt_no hl (Or.inl c1), rfl⟩ | exact Or.inr ⟨rfl, lt_no hl (Or.inr c9), rfl⟩
  · refine V_iload_n hC dX0_isBox_4 rfl rfl ?_
    refine V_aload_n hC dX0_isBox_5 rfl rfl ?_
    refine V_B_boxCount hC hN dX0_isBox_6 inX0_X0_isBox (by decide +kernel) ?_
    refine V_icmp_ge hC 16 dX0_isBox_9 (by decide) (fun c9 => ?_) (fun c9 => ?_)
    · rw [hx.1] at c9
      refine V_iconst hC 0 dX0_isBox_16 (by decide) ?_
      refine V_zret hC hR rfl dX0_isBox_17 ⟨rfl, rfl, _, rfl, ?_⟩
      first | exact Or.inl ⟨rfl, lt_n hl c1 c9, rfl⟩ | exact Or.inr ⟨rfl, lt_no hl (Or.inl c1), rfl⟩ | exact Or.inr ⟨rfl, lt_no hl (Or.inr c9), rfl⟩
    · rw [hx.1] at c9
      refine V_iconst hC 1 dX0_isBox_12 (by decide) ?_
      refine V_goto hC 17 dX0_isBox_13 (by decide) ?_
      refine V_zret hC hR rfl dX0_isBox_17 ⟨rfl, rfl, _, rfl, ?_⟩
      first | exact Or.inl ⟨rfl, lt_n hl c1 c9, rfl⟩ | exact Or.inr ⟨rfl, lt_no hl (Or.inl c1), rfl⟩ | exact Or.inr ⟨rfl, lt_no hl (Or.inr c9), rfl⟩
theorem okS_iff {j : Nat} {v : Int32} (hj : j < 8) : okS (nI j) v = true ↔ lowS j ≤ v ∧ v ≤ highS j := by
  simp only [okS, Bool.and_eq_true, decide_eq_true_eq, nI_clamp (show j < 2 ^ 31 by omega)]
  constructor
  · rintro ⟨⟨⟨-, -⟩, h3⟩, h4⟩
    exact ⟨h3, h4⟩
  · rintro ⟨h3, h4⟩
    exact ⟨⟨⟨nI_pos' (by omega), (nI_ltI (b := 8) (by omega) (by decide)).mpr hj⟩, h3⟩, h4⟩
theorem inX0_X0_choose : ∀ w ∈ wsX00, w ∈ wsX0_choose := by decide +kernel
abbrev rmX0_choose : Room := { frames := 0, cells := 0, slots := 0, locals := 0 }
set_option maxHeartbeats 4000000 in
set_option maxRecDepth 100000 in
theorem c_X0_choose (g : GE) (lau : Launch) {N : Nat} {ad : Nat → Nat} {f : Nat → va_E} {c : Nat} {s t : Nat → Int32} {p : Nat → Nat} {bc : Int32} {co ex : Nat → Int32} {rc : Int32} {pl : Nat → Int32} {pn : Int32} {wy : Nat → Int32} {gx : Nat → Nat → Int32} (hN : c + 16 ≤ N) {m : MT} (hm : RepB s t p bc co ex rc pl pn wy gx m) (k v : Int32) : Ct g lau yX0_choose wsX0_choose rmX0_choose N ad [.ref (ad c), .int (k), .int (v)] (zB g ad f c s t p bc co ex rc pl pn wy gx) (pI N ad (fun x u => x = (mSet k v m).1 ∧ BIs g ad f c (mSet k v m).2 u)) 0 0 := by
  refine Ct.of (maxL := 4) rfl (by decide +kernel) [some (.ref (ad c)), some (.int (k)), some (.int (v)), none] (Nat.le_of_ble_eq_true rfl) (by simp [lvo, lv_args, Value.category]) (fun E hnl _ hC hR => ?_)
  obtain ⟨hh, hx, hr, hp⟩ := hm
  refine V_iload_n hC dX0_choose_0 rfl rfl ?_
  refine V_if_lt hC 13 dX0_choose_1 (by decide) (fun c1 => ?_) (fun c1 => ?_)
  · have hno : okS k v = false := okS_no (Or.inl c1)
    refine V_bipush hC (-2) dX0_choose_13 (by decide) ?_
    refine V_iret hC hR dX0_choose_15 ⟨rfl, rfl, _, rfl, ?_⟩
    rw [mSet, hno]
    exact ⟨rfl, BIs.mk ⟨hh, hx, hr, hp⟩⟩
  · refine V_iload_n hC dX0_choose_4 rfl rfl ?_
    refine V_aload_n hC dX0_choose_5 rfl rfl ?_
    refine V_B_settings hC hN dX0_choose_6 inX0_X0_choose (by decide +kernel) ?_
    refine V_B_len1 hC hN 8 dX0_choose_9 rfl ?_
    refine V_icmp_lt hC 16 dX0_choose_10 (by decide) (fun c10 => ?_) (fun c10 => ?_)
    · obtain ⟨j, hj8, rfl⟩ := lt_n (n := 8) (by decide) c1 (Int32.not_le.mpr c10)
      refine V_iload_n hC dX0_choose_16 rfl rfl ?_
      refine V_gets hC hC.2.2.2.2.2.2.2.1.1 dX0_choose_17 (by decide +kernel) ?_
      refine V_iload_n hC dX0_choose_20 rfl rfl ?_
      refine V_tald hC hC.2.2.2.2.2.2.2.1.1 dX0_choose_21 (ix_nI (j := j) (by omega) (by decide)) ?_
      refine V_icmp_lt hC 34 dX0_choose_22 (by decide) (fun c22 => ?_) (fun c22 => ?_)
      · have hno : okS (nI j) v = false := by rw [← Bool.not_eq_true, okS_iff hj8]; exact fun q => absurd q.1 (Int32.not_le.mpr c22)
        refine V_bipush hC (-2) dX0_choose_34 (by decide) ?_
        refine V_iret hC hR dX0_choose_36 ⟨rfl, rfl, _, rfl, ?_⟩
        rw [mSet, hno]
        exact ⟨rfl, BIs.mk ⟨hh, hx, hr, hp⟩⟩
      · refine V_iload_n hC dX0_choose_25 rfl rfl ?_
        refine V_gets hC hC.2.2.2.2.2.2.2.1.2.1 dX0_choose_26 (by decide +kernel) ?_
        refine V_iload_n hC dX0_choose_29 rfl rfl ?_
        refine V_tald hC hC.2.2.2.2.2.2.2.1.2.1 dX0_choose_30 (ix_nI (j := j) (by omega) (by decide)) ?_
        refine V_icmp_le hC 37 dX0_choose_31 (by decide) (fun c31 => ?_) (fun c31 => ?_)
        · have hj : okS (nI j) v = true := (okS_iff hj8).mpr ⟨Int32.not_lt.mp c22, c31⟩
          refine V_aload_n hC dX0_choose_37 rfl rfl ?_
          refine V_B_settings hC hN dX0_choose_38 inX0_X0_choose (by decide +kernel) ?_
          refine V_iload_n hC dX0_choose_41 rfl rfl ?_
          refine V_B_ld1 hC hN dX0_choose_42 (ix_nI (j := j) (by omega) (by decide)) ?_
          refine V_istore_n3 hC dX0_choose_43 rfl (by rw [hnl]; decide) rfl ?_
          refine V_aload_n hC dX0_choose_44 rfl rfl ?_
          refine V_B_settings hC hN dX0_choose_45 inX0_X0_choose (by decide +kernel) ?_
          refine V_iload_n hC dX0_choose_48 rfl rfl ?_
          refine V_iload_n hC dX0_choose_49 rfl rfl ?_
          refine V_B_st1 hC hN dX0_choose_50 (ix_nI (j := j) (by omega) (by decide)) ?_
          refine V_iload_n hC dX0_choose_51 rfl rfl ?_
          refine V_iret hC hR dX0_choose_52 ⟨rfl, rfl, _, rfl, ?_⟩
          rw [mSet, hj]
          simp only [if_true]
          rw [nI_clamp (by omega)]
          exact ⟨hh.1 j hj8, BIs.mk ⟨hh.s hj8, hx, hr, hp⟩⟩
        · have hno : okS (nI j) v = false := by rw [← Bool.not_eq_true, okS_iff hj8]; exact fun q => absurd q.2 c31
          refine V_bipush hC (-2) dX0_choose_34 (by decide) ?_
          refine V_iret hC hR dX0_choose_36 ⟨rfl, rfl, _, rfl, ?_⟩
          rw [mSet, hno]
          exact ⟨rfl, BIs.mk ⟨hh, hx, hr, hp⟩⟩
    · have hno : okS k v = false := okS_no (Or.inr (Int32.not_lt.mp c10))
      refine V_bipush hC (-2) dX0_choose_13 (by decide) ?_
      refine V_iret hC hR dX0_choose_15 ⟨rfl, rfl, _, rfl, ?_⟩
      rw [mSet, hno]
      exact ⟨rfl, BIs.mk ⟨hh, hx, hr, hp⟩⟩
theorem inX0_X0_howManyLeft : ∀ w ∈ wsX00, w ∈ wsX0_howManyLeft := by decide +kernel
abbrev rmX0_howManyLeft : Room := { frames := 0, cells := 0, slots := 0, locals := 0 }
set_option maxHeartbeats 4000000 in
set_option maxRecDepth 100000 in
theorem c_X0_howManyLeft (g : GE) (lau : Launch) {N : Nat} {ad : Nat → Nat} {f : Nat → va_E} {c : Nat} {s t : Nat → Int32} {p : Nat → Nat} {bc : Int32} {co ex : Nat → Int32} {rc : Int32} {pl : Nat → Int32} {pn : Int32} {wy : Nat → Int32} {gx : Nat → Nat → Int32} (hN : c + 16 ≤ N) {h : Nat → Int32} (hh : qH s t wy h) : Ct g lau yX0_howManyLeft wsX0_howManyLeft rmX0_howManyLeft N ad [.ref (ad c)] (zB g ad f c s t p bc co ex rc pl pn wy gx) (pI N ad (fun x u => x = sLeft h ∧ u = (zB g ad f c s t p bc co ex rc pl pn wy gx))) 0 0 := by
  refine Ct.of (maxL := 1) rfl (by decide +kernel) [some (.ref (ad c))] (Nat.le_of_ble_eq_true rfl) (by simp [lvo, lv_args, Value.category]) (fun E hnl _ hC hR => ?_)
  refine V_aload_n hC dX0_howManyLeft_0 rfl rfl ?_
  refine V_B_tallies hC hN dX0_howManyLeft_1 inX0_X0_howManyLeft (by decide +kernel) ?_
  refine V_iconst hC 3 dX0_howManyLeft_4 (by decide) ?_
  refine V_B_ld2 hC hN (k := 3) dX0_howManyLeft_5 (ix_c (by decide)) ?_
  refine V_aload_n hC dX0_howManyLeft_6 rfl rfl ?_
  refine V_B_tallies hC hN dX0_howManyLeft_7 inX0_X0_howManyLeft (by decide +kernel) ?_
  refine V_iconst hC 4 dX0_howManyLeft_10 (by decide) ?_
  refine V_B_ld2 hC hN (k := 4) dX0_howManyLeft_11 (ix_c (by decide)) ?_
  refine V_iadd hC dX0_howManyLeft_12 ?_
  refine V_aload_n hC dX0_howManyLeft_13 rfl rfl ?_
  refine V_B_tallies hC hN dX0_howManyLeft_14 inX0_X0_howManyLeft (by decide +kernel) ?_
  refine V_iconst hC 5 dX0_howManyLeft_17 (by decide) ?_
  refine V_B_ld2 hC hN (k := 5) dX0_howManyLeft_18 (ix_c (by decide)) ?_
  refine V_iadd hC dX0_howManyLeft_19 ?_
  refine V_iret hC hR dX0_howManyLeft_20 ⟨rfl, rfl, _, rfl, ?_⟩
  exact ⟨by rw [hh.2.1 3 (by decide) (by decide) (by decide) (by decide), hh.2.1 4 (by decide) (by decide) (by decide) (by decide), hh.2.1 5 (by decide) (by decide) (by decide) (by decide)]; rfl, rfl⟩
theorem qX.push {p : Nat → Nat} {gx : Nat → Nat → Int32} {bc : Int32} {bs : List (Nat → Int32)} {y x : Nat → Int32} (q : qX p gx bc bs) (h : bs.length < 8) (hy : isX y x) : qX p (va_up gx (p bs.length) y) (bc + 1) (bs ++ [x]) := by
  refine ⟨by rw [q.1, List.length_append]; exact nI_1 _, by rw [List.length_append]; simp; omega, q.2.2.1, q.2.2.2.1, fun j w hw => ?_⟩
  have hj : j < bs.length + 1 := by simpa using (List.getElem?_eq_some_iff.mp hw).1
  by_cases h2 : j < bs.length
  · have hp : p j ≠ p bs.length := fun e => by have := q.2.2.2.1 j bs.length (by omega) h e; omega
    simp only [va_up, hp, if_false]
    exact q.2.2.2.2 j w ((cut_s h2).mp hw)
  · have : j = bs.length := by omega
    subst this
    rw [cut_m] at hw
    cases hw
    simp only [va_up, if_true]
    exact hy
theorem inX0_X0_takeBox : ∀ w ∈ wsX00, w ∈ wsX0_takeBox := by decide +kernel
theorem inX1_X0_takeBox : ∀ w ∈ wsX10, w ∈ wsX0_takeBox := by decide +kernel
abbrev rmX0_takeBox : Room := { frames := 1, cells := 0, slots := 0, locals := 22 }
set_option maxHeartbeats 4000000 in
set_option maxRecDepth 100000 in
theorem c_X0_takeBox (g : GE) (lau : Launch) {N : Nat} {ad : Nat → Nat} {f : Nat → va_E} {c : Nat} {s t : Nat → Int32} {p : Nat → Nat} {bc : Int32} {co ex : Nat → Int32} {rc : Int32} {pl : Nat → Int32} {pn : Int32} {wy : Nat → Int32} {gx : Nat → Nat → Int32} (hN : c + 16 ≤ N) {m : MT} (hm : RepB s t p bc co ex rc pl pn wy gx m) (v : Int32) : Ct g lau yX0_takeBox wsX0_takeBox rmX0_takeBox N ad [.ref (ad c), .int (v)] (zB g ad f c s t p bc co ex rc pl pn wy gx) (pI N ad (fun x u => x = (mArrive v m).1 ∧ BIs g ad f c (mArrive v m).2 u)) 0 0 := by
  refine Ct.of (maxL := 2) rfl (by decide +kernel) [some (.ref (ad c)), some (.int (v))] (Nat.le_of_ble_eq_true rfl) (by simp [lvo, lv_args, Value.category]) (fun E hnl _ hC hR => ?_)
  obtain ⟨hh, hx, hr, hp⟩ := hm
  have hl8 := hx.2.1
  have J : okLen v = true → m.2.1.length < 8 → nearIn m.2.1 = false → V E g N ad 0 0 (zB g ad f c s t p bc co ex rc pl pn wy gx) 50 [some (.ref (ad c)), some (.int (v))] [] := by
    intro hj hlt hn
    have hpl := hx.p8 hlt
    have e10 := hh.2.1 2 (by decide) (by decide) (by decide) (by decide)
    refine V_aload_n hC dX0_takeBox_50 rfl rfl ?_
    refine V_B_boxes hC hN dX0_takeBox_51 inX0_X0_takeBox (by decide +kernel) ?_
    refine V_aload_n hC dX0_takeBox_54 rfl rfl ?_
    refine V_B_boxCount hC hN dX0_takeBox_55 inX0_X0_takeBox (by decide +kernel) ?_
    refine V_B_ld3 hC hN dX0_takeBox_58 (ix_of (j := m.2.1.length) hx.1 hlt (by decide)) ?_
    refine V_iload_n hC dX0_takeBox_59 rfl rfl ?_
    refine V_aload_n hC dX0_takeBox_60 rfl rfl ?_
    refine V_B_tallies hC hN dX0_takeBox_61 inX0_X0_takeBox (by decide +kernel) ?_
    refine V_iconst hC 2 dX0_takeBox_64 (by decide) ?_
    refine V_B_ld2 hC hN (k := 2) dX0_takeBox_65 (ix_c (by decide)) ?_
    refine V_cvV (n := 2) hC (c_X1_begin g (eL E) (i := c + 8 + p m.2.1.length) (by omega) (zB_box hpl) v _) dX0_takeBox_66 gX0_takeBox_X1_begin rfl rfl rfl ⟨rfl, rfl⟩ (by decide +kernel) (by decide +kernel) (by have := hpl; omega) (zB_box hpl) rfl (Nat.le_of_ble_eq_true rfl) (by decide) (fun u66 h66 => ?_)
    obtain rfl := h66
    refine V_f (zB_ubox hpl) ?_
    refine V_aload_n hC dX0_takeBox_69 rfl rfl ?_
    refine V_B_tallies hC hN dX0_takeBox_70 inX0_X0_takeBox (by decide +kernel) ?_
    refine V_iconst hC 2 dX0_takeBox_73 (by decide) ?_
    refine V_dup2 hC dX0_takeBox_74 rfl rfl ?_
    refine V_B_ld2 hC hN (k := 2) dX0_takeBox_75 (ix_c (by decide)) ?_
    refine V_iconst hC 1 dX0_takeBox_76 (by decide) ?_
    refine V_iadd hC dX0_takeBox_77 ?_
    refine V_B_st2 (k := 2) hC hN dX0_takeBox_78 (ix_c (by decide)) ?_
    refine V_aload_n hC dX0_takeBox_79 rfl rfl ?_
    refine V_dup hC dX0_takeBox_80 rfl ?_
    refine V_B_boxCount hC hN dX0_takeBox_81 inX0_X0_takeBox (by decide +kernel) ?_
    refine V_iconst hC 1 dX0_takeBox_84 (by decide) ?_
    refine V_iadd hC dX0_takeBox_85 ?_
    refine V_B_put_boxCount hC hN dX0_takeBox_86 inX0_X0_takeBox (by decide +kernel) ?_
    refine V_aload_n hC dX0_takeBox_89 rfl rfl ?_
    refine V_B_boxCount hC hN dX0_takeBox_90 inX0_X0_takeBox (by decide +kernel) ?_
    refine V_iconst hC 1 dX0_takeBox_93 (by decide) ?_
    refine V_isub hC dX0_takeBox_94 ?_
    refine V_iret hC hR dX0_takeBox_95 ⟨rfl, rfl, _, rfl, ?_⟩
    have q : mArrive v m = (nI m.2.1.length, (upd m.1 10 (m.1 10 + 1), m.2.1 ++ [newX v (m.1 10)], m.2.2)) := by rw [mArrive, if_pos hj, if_neg (by omega), hn]; rfl
    rw [q]
    refine ⟨by rw [hx.1, Int32.add_sub_cancel], BIs.mk ⟨?_, ?_, hr, hp⟩⟩
    · rw [e10]
      exact hh.t (k := 2) (by decide)
    · rw [e10]
      refine hx.push hlt ?_
      exact ⟨rfl, rfl, rfl, rfl, rfl, Or.inl ⟨rfl, rfl⟩, Or.inl rfl, Or.inl rfl⟩
  refine V_iload_n hC dX0_takeBox_0 rfl rfl ?_
  refine V_csI (n := 1) hC (c_X1_canHave g (eL E) v) dX0_takeBox_1 gX0_takeBox_X1_canHave rfl rfl rfl ⟨rfl, rfl⟩ (by decide +kernel) (by decide +kernel) (Nat.le_of_ble_eq_true rfl) (by decide) (fun x1 u1 h1 => ?_)
  rcases h1 with ⟨rfl, hj, rfl⟩ | ⟨rfl, hj, rfl⟩
  · refine V_if_ne_t hC 10 dX0_takeBox_4 (by decide) (by decide) ?_
    refine V_aload_n hC dX0_takeBox_10 rfl rfl ?_
    refine V_B_boxCount hC hN dX0_takeBox_11 inX0_X0_takeBox (by decide +kernel) ?_
    refine V_bipush hC 8 dX0_takeBox_14 (by decide) ?_
    refine V_icmp_lt hC 22 dX0_takeBox_16 (by decide) (fun c16 => ?_) (fun c16 => ?_)
    · have h8 : m.2.1.length < 8 := by rw [hx.1] at c16; exact (nI_ltI (b := 8) (by omega) (by decide)).mp c16
      refine V_aload_n hC dX0_takeBox_22 rfl rfl ?_
      refine V_B_boxCount hC hN dX0_takeBox_23 inX0_X0_takeBox (by decide +kernel) ?_
      refine V_if_le hC 50 dX0_takeBox_26 (by decide) (fun c26 => ?_) (fun c26 => ?_)
      · have h0 : m.2.1.length = 0 := by rw [hx.1] at c26; rcases Nat.eq_zero_or_pos m.2.1.length with q | q; exact q; exact absurd c26 (nI_nle q (by omega))
        exact J hj h8 (by unfold nearIn; rw [last_get, List.getElem?_eq_none (by omega)])
      · have h0 : 0 < m.2.1.length := by rw [hx.1] at c26; rcases Nat.eq_zero_or_pos m.2.1.length with q | q; rw [q] at c26; exact absurd (by decide) c26; exact q
        have hpl := hx.p8 (show m.2.1.length - 1 < 8 by omega)
        obtain ⟨y, hy⟩ : ∃ y, m.2.1[m.2.1.length - 1]? = some y := ⟨_, List.getElem?_eq_getElem (by omega)⟩
        have hxy := hx.2.2.2.2 _ y hy
        refine V_aload_n hC dX0_takeBox_29 rfl rfl ?_
        refine V_B_boxes hC hN dX0_takeBox_30 inX0_X0_takeBox (by decide +kernel) ?_
        refine V_aload_n hC dX0_takeBox_33 rfl rfl ?_
        refine V_B_boxCount hC hN dX0_takeBox_34 inX0_X0_takeBox (by decide +kernel) ?_
        refine V_iconst hC 1 dX0_takeBox_37 (by decide) ?_
        refine V_isub hC dX0_takeBox_38 ?_
        refine V_eqt (nI (m.2.1.length - 1)) (by rw [hx.1, show (1 : Int32) = nI 1 from rfl, pk_sub (by omega)]) ?_
        refine V_B_ld3 hC hN dX0_takeBox_39 (ix_nI (j := m.2.1.length - 1) (by omega) (by decide)) ?_
        refine V_cvI (n := 0) hC (c_X1_back g (eL E) (i := c + 8 + p (m.2.1.length - 1)) (by omega) (zB_box hpl)) dX0_takeBox_40 gX0_takeBox_X1_back rfl rfl rfl ⟨rfl, rfl⟩ (by decide +kernel) (by decide +kernel) (by have := hpl; omega) (zB_box hpl) rfl (Nat.le_of_ble_eq_true rfl) (by decide) (fun x40 u40 h40 => ?_)
        obtain ⟨rfl, rfl⟩ := h40
        refine V_iconst hC 1 dX0_takeBox_43 (by decide) ?_
        refine V_icmp_ge hC 50 dX0_takeBox_44 (by decide) (fun c44 => ?_) (fun c44 => ?_)
        · have hn : nearIn m.2.1 = false := by rw [hxy.1, hxy.2.1] at c44; unfold nearIn; rw [last_get, hy]; simp only [decide_eq_false_iff_not]; exact Int32.not_lt.mpr c44
          exact J hj h8 hn
        · have hn : nearIn m.2.1 = true := by rw [hxy.1, hxy.2.1] at c44; unfold nearIn; rw [last_get, hy]; simp only [decide_eq_true_eq]; exact Int32.not_le.mp c44
          refine V_bipush hC (-5) dX0_takeBox_47 (by decide) ?_
          refine V_iret hC hR dX0_takeBox_49 ⟨rfl, rfl, _, rfl, ?_⟩
          rw [mArrive, if_pos hj, if_neg (by omega), hn]
          exact ⟨rfl, BIs.mk ⟨hh, hx, hr, hp⟩⟩
    · have h8 : m.2.1.length = 8 := by rw [hx.1] at c16; rcases Nat.lt_or_ge m.2.1.length 8 with q | q; exact absurd ((nI_ltI (b := 8) (by omega) (by decide)).mpr q) c16; omega
      refine V_bipush hC (-4) dX0_takeBox_19 (by decide) ?_
      refine V_iret hC hR dX0_takeBox_21 ⟨rfl, rfl, _, rfl, ?_⟩
      rw [mArrive, if_pos hj, if_pos h8]
      exact ⟨rfl, BIs.mk ⟨hh, hx, hr, hp⟩⟩
  · refine V_if_ne_f (tgt := 10) hC dX0_takeBox_4 (by decide) rfl ?_
    refine V_bipush hC (-2) dX0_takeBox_7 (by decide) ?_
    refine V_iret hC hR dX0_takeBox_9 ⟨rfl, rfl, _, rfl, ?_⟩
    rw [mArrive, hj]
    exact ⟨rfl, BIs.mk ⟨hh, hx, hr, hp⟩⟩
theorem inX0_X0_aboutBox : ∀ w ∈ wsX00, w ∈ wsX0_aboutBox := by decide +kernel
theorem inX1_X0_aboutBox : ∀ w ∈ wsX10, w ∈ wsX0_aboutBox := by decide +kernel
abbrev rmX0_aboutBox : Room := { frames := 1, cells := 0, slots := 0, locals := 21 }
set_option maxHeartbeats 4000000 in
set_option maxRecDepth 100000 in
theorem c_X0_aboutBox (g : GE) (lau : Launch) {N : Nat} {ad : Nat → Nat} {f : Nat → va_E} {c : Nat} {s t : Nat → Int32} {p : Nat → Nat} {bc : Int32} {co ex : Nat → Int32} {rc : Int32} {pl : Nat → Int32} {pn : Int32} {wy : Nat → Int32} {gx : Nat → Nat → Int32} (hN : c + 16 ≤ N) {m : MT} (hm : RepB s t p bc co ex rc pl pn wy gx m) (v w : Int32) : Ct g lau yX0_aboutBox wsX0_aboutBox rmX0_aboutBox N ad [.ref (ad c), .int (v), .int (w)] (zB g ad f c s t p bc co ex rc pl pn wy gx) (pI N ad (fun x u => x = mBox v w m ∧ u = (zB g ad f c s t p bc co ex rc pl pn wy gx))) 0 0 := by
  refine Ct.of (maxL := 3) rfl (by decide +kernel) [some (.ref (ad c)), some (.int (v)), some (.int (w))] (Nat.le_of_ble_eq_true rfl) (by simp [lvo, lv_args, Value.category]) (fun E hnl _ hC hR => ?_)
  obtain ⟨hh, hx, hr, hp⟩ := hm
  refine V_aload_n hC dX0_aboutBox_0 rfl rfl ?_
  refine V_iload_n hC dX0_aboutBox_1 rfl rfl ?_
  refine V_cvI (n := 1) hC (c_X0_isBox g (eL E) hN hx v) dX0_aboutBox_2 gX0_aboutBox_X0_isBox rfl rfl rfl ⟨rfl, rfl⟩ (by decide +kernel) (by decide +kernel) (by omega) zB_0 rfl (Nat.le_of_ble_eq_true rfl) (by decide) (fun x2 u2 h2 => ?_)
  rcases h2 with ⟨rfl, hj, rfl⟩ | ⟨rfl, hj, rfl⟩
  · obtain ⟨k, hk, rfl⟩ := hj
    have hk8 : k < 8 := Nat.lt_of_lt_of_le hk hx.2.1
    have hpk := hx.p8 hk8
    obtain ⟨y, hy⟩ : ∃ y, m.2.1[k]? = some y := ⟨_, List.getElem?_eq_getElem hk⟩
    refine V_if_eq_f (tgt := 21) hC dX0_aboutBox_5 (by decide) (by decide) ?_
    refine V_aload_n hC dX0_aboutBox_8 rfl rfl ?_
    refine V_B_boxes hC hN dX0_aboutBox_9 inX0_X0_aboutBox (by decide +kernel) ?_
    refine V_iload_n hC dX0_aboutBox_12 rfl rfl ?_
    refine V_B_ld3 hC hN dX0_aboutBox_13 (ix_nI (j := k) hk8 (by decide)) ?_
    refine V_iload_n hC dX0_aboutBox_14 rfl rfl ?_
    refine V_cvI (n := 1) hC (c_X1_tell g (eL E) (i := c + 8 + p k) (by omega) (zB_box hpk) (hx.2.2.2.2 k y hy) w) dX0_aboutBox_15 gX0_aboutBox_X1_tell rfl rfl rfl ⟨rfl, rfl⟩ (by decide +kernel) (by decide +kernel) (by have := hpk; omega) (zB_box hpk) rfl (Nat.le_of_ble_eq_true rfl) (by decide) (fun x15 u15 h15 => ?_)
    obtain ⟨rfl, rfl⟩ := h15
    have hbx := mBox_yes (w := w) hy (by omega)
    refine V_goto hC 22 dX0_aboutBox_18 (by decide) ?_
    refine V_iret hC hR dX0_aboutBox_22 ⟨rfl, rfl, _, rfl, ?_⟩
    first | exact ⟨(mBox_no hj).symm, rfl⟩ | exact ⟨hbx.symm, rfl⟩
  · refine V_if_eq_t hC 21 dX0_aboutBox_5 (by decide) rfl ?_
    refine V_iconst hC (-1) dX0_aboutBox_21 (by decide) ?_
    refine V_iret hC hR dX0_aboutBox_22 ⟨rfl, rfl, _, rfl, ?_⟩
    first | exact ⟨(mBox_no hj).symm, rfl⟩ | exact ⟨hbx.symm, rfl⟩
theorem inX0_X0_planAt : ∀ w ∈ wsX00, w ∈ wsX0_planAt := by decide +kernel
abbrev rmX0_planAt : Room := { frames := 0, cells := 0, slots := 0, locals := 0 }
set_option maxHeartbeats 4000000 in
set_option maxRecDepth 100000 in
theorem c_X0_planAt (g : GE) (lau : Launch) {N : Nat} {ad : Nat → Nat} {f : Nat → va_E} {c : Nat} {s t : Nat → Int32} {p : Nat → Nat} {bc : Int32} {co ex : Nat → Int32} {rc : Int32} {pl : Nat → Int32} {pn : Int32} {wy : Nat → Int32} {gx : Nat → Nat → Int32} (hN : c + 16 ≤ N) {m : MT} (hm : RepB s t p bc co ex rc pl pn wy gx m) (v : Int32) : Ct g lau yX0_planAt wsX0_planAt rmX0_planAt N ad [.ref (ad c), .int (v)] (zB g ad f c s t p bc co ex rc pl pn wy gx) (pI N ad (fun x u => x = mPlan v m ∧ u = (zB g ad f c s t p bc co ex rc pl pn wy gx))) 0 0 := by
  refine Ct.of (maxL := 2) rfl (by decide +kernel) [some (.ref (ad c)), some (.int (v))] (Nat.le_of_ble_eq_true rfl) (by simp [lvo, lv_args, Value.category]) (fun E hnl _ hC hR => ?_)
  obtain ⟨hh, hx, hr, hp⟩ := hm
  have hl : m.2.2.2.length < 2 ^ 31 := Nat.lt_of_le_of_lt hp.2.1 (by decide)
  refine V_iload_n hC dX0_planAt_0 rfl rfl ?_
  refine V_if_lt hC 25 dX0_planAt_1 (by decide) (fun c1 => ?_) (fun c1 => ?_)
  · refine V_iconst hC (-1) dX0_planAt_25 (by decide) ?_
    refine V_iret hC hR dX0_planAt_26 ⟨rfl, rfl, _, rfl, ?_⟩
    first | exact ⟨(mPlan_no (lt_no hl (Or.inl c1))).symm, rfl⟩ | exact ⟨(mPlan_no (lt_no hl (Or.inr c9))).symm, rfl⟩ | exact ⟨by rw [mPlan_yes hk, hp.2.2 k _ (List.getElem?_eq_getElem hk)], rfl⟩
  · refine V_iload_n hC dX0_planAt_4 rfl rfl ?_
    refine V_aload_n hC dX0_planAt_5 rfl rfl ?_
    refine V_B_planCount hC hN dX0_planAt_6 inX0_X0_planAt (by decide +kernel) ?_
    refine V_icmp_ge hC 25 dX0_planAt_9 (by decide) (fun c9 => ?_) (fun c9 => ?_)
    · rw [hp.1] at c9
      refine V_iconst hC (-1) dX0_planAt_25 (by decide) ?_
      refine V_iret hC hR dX0_planAt_26 ⟨rfl, rfl, _, rfl, ?_⟩
      first | exact ⟨(mPlan_no (lt_no hl (Or.inl c1))).symm, rfl⟩ | exact ⟨(mPlan_no (lt_no hl (Or.inr c9))).symm, rfl⟩ | exact ⟨by rw [mPlan_yes hk, hp.2.2 k _ (List.getElem?_eq_getElem hk)], rfl⟩
    · rw [hp.1] at c9
      obtain ⟨k, hk, rfl⟩ := lt_n hl c1 c9
      refine V_aload_n hC dX0_planAt_12 rfl rfl ?_
      refine V_B_plans hC hN dX0_planAt_13 inX0_X0_planAt (by decide +kernel) ?_
      refine V_iload_n hC dX0_planAt_16 rfl rfl ?_
      refine V_B_ld6 hC hN dX0_planAt_17 (ix_nI (j := k) (by have := hp.2.1; omega) (by decide)) ?_
      refine V_sipush hC 1000 dX0_planAt_18 (by decide) ?_
      refine V_iadd hC dX0_planAt_21 ?_
      refine V_goto hC 26 dX0_planAt_22 (by decide) ?_
      refine V_iret hC hR dX0_planAt_26 ⟨rfl, rfl, _, rfl, ?_⟩
      first | exact ⟨(mPlan_no (lt_no hl (Or.inl c1))).symm, rfl⟩ | exact ⟨(mPlan_no (lt_no hl (Or.inr c9))).symm, rfl⟩ | exact ⟨by rw [mPlan_yes hk, hp.2.2 k _ (List.getElem?_eq_getElem hk)], rfl⟩
theorem inX0_X0_aboutReport : ∀ w ∈ wsX00, w ∈ wsX0_aboutReport := by decide +kernel
abbrev rmX0_aboutReport : Room := { frames := 0, cells := 0, slots := 0, locals := 0 }
set_option maxHeartbeats 4000000 in
set_option maxRecDepth 100000 in
theorem c_X0_aboutReport (g : GE) (lau : Launch) {N : Nat} {ad : Nat → Nat} {f : Nat → va_E} {c : Nat} {s t : Nat → Int32} {p : Nat → Nat} {bc : Int32} {co ex : Nat → Int32} {rc : Int32} {pl : Nat → Int32} {pn : Int32} {wy : Nat → Int32} {gx : Nat → Nat → Int32} (hN : c + 16 ≤ N) {m : MT} (hm : RepB s t p bc co ex rc pl pn wy gx m) (v w : Int32) : Ct g lau yX0_aboutReport wsX0_aboutReport rmX0_aboutReport N ad [.ref (ad c), .int (v), .int (w)] (zB g ad f c s t p bc co ex rc pl pn wy gx) (pI N ad (fun x u => x = mReport v w m ∧ u = (zB g ad f c s t p bc co ex rc pl pn wy gx))) 0 0 := by
  refine Ct.of (maxL := 3) rfl (by decide +kernel) [some (.ref (ad c)), some (.int (v)), some (.int (w))] (Nat.le_of_ble_eq_true rfl) (by simp [lvo, lv_args, Value.category]) (fun E hnl _ hC hR => ?_)
  obtain ⟨hh, hx, hr, hp⟩ := hm
  have hl : m.2.2.1.length < 2 ^ 31 := Nat.lt_of_le_of_lt hr.2.1 (by decide)
  have e8 := hh.2.1 0 (by decide) (by decide) (by decide) (by decide)
  refine V_iload_n hC dX0_aboutReport_0 rfl rfl ?_
  refine V_if_lt hC 12 dX0_aboutReport_1 (by decide) (fun c1 => ?_) (fun c1 => ?_)
  · have hno := lt_no hl (Or.inl c1)
    refine V_iconst hC (-1) dX0_aboutReport_12 (by decide) ?_
    refine V_iret hC hR dX0_aboutReport_13 ⟨rfl, rfl, _, rfl, ?_⟩
    exact ⟨(mReport_no hno).symm, rfl⟩
  · refine V_iload_n hC dX0_aboutReport_4 rfl rfl ?_
    refine V_aload_n hC dX0_aboutReport_5 rfl rfl ?_
    refine V_B_reportCount hC hN dX0_aboutReport_6 inX0_X0_aboutReport (by decide +kernel) ?_
    refine V_icmp_lt hC 14 dX0_aboutReport_9 (by decide) (fun c9 => ?_) (fun c9 => ?_)
    · rw [hr.1] at c9
      obtain ⟨k, hk, rfl⟩ := lt_n hl c1 (Int32.not_le.mpr c9)
      have hg := hr.2.2 k _ (List.getElem?_eq_getElem hk)
      refine V_iload_n hC dX0_aboutReport_14 rfl rfl ?_
      refine V_if_ne hC 34 dX0_aboutReport_15 (by decide) (fun c15 => ?_) (fun c15 => ?_)
      · refine V_iload_n hC dX0_aboutReport_34 rfl rfl ?_
        refine V_iconst hC 1 dX0_aboutReport_35 (by decide) ?_
        refine V_icmp_ne hC 48 dX0_aboutReport_36 (by decide) (fun c36 => ?_) (fun c36 => ?_)
        · refine V_bipush hC (-2) dX0_aboutReport_48 (by decide) ?_
          refine V_iret hC hR dX0_aboutReport_50 ⟨rfl, rfl, _, rfl, ?_⟩
          refine ⟨?_, rfl⟩
          rw [mReport_yes hk]
          first | (rw [if_neg c15, if_pos c36, hg.2]; done) | (rw [if_neg c15, if_neg c36]; done) | (rw [if_pos c15, hg.1, e8]; done)
        · refine V_aload_n hC dX0_aboutReport_39 rfl rfl ?_
          refine V_B_excesses hC hN dX0_aboutReport_40 inX0_X0_aboutReport (by decide +kernel) ?_
          refine V_iload_n hC dX0_aboutReport_43 rfl rfl ?_
          refine V_B_ld5 hC hN dX0_aboutReport_44 (ix_nI (j := k) (by have := hr.2.1; omega) (by decide)) ?_
          refine V_goto hC 50 dX0_aboutReport_45 (by decide) ?_
          refine V_iret hC hR dX0_aboutReport_50 ⟨rfl, rfl, _, rfl, ?_⟩
          refine ⟨?_, rfl⟩
          rw [mReport_yes hk]
          first | (rw [if_neg c15, if_pos c36, hg.2]; done) | (rw [if_neg c15, if_neg c36]; done) | (rw [if_pos c15, hg.1, e8]; done)
      · refine V_aload_n hC dX0_aboutReport_18 rfl rfl ?_
        refine V_B_comes hC hN dX0_aboutReport_19 inX0_X0_aboutReport (by decide +kernel) ?_
        refine V_iload_n hC dX0_aboutReport_22 rfl rfl ?_
        refine V_B_ld4 hC hN dX0_aboutReport_23 (ix_nI (j := k) (by have := hr.2.1; omega) (by decide)) ?_
        refine V_aload_n hC dX0_aboutReport_24 rfl rfl ?_
        refine V_B_tallies hC hN dX0_aboutReport_25 inX0_X0_aboutReport (by decide +kernel) ?_
        refine V_iconst hC 0 dX0_aboutReport_28 (by decide) ?_
        refine V_B_ld2 hC hN (k := 0) dX0_aboutReport_29 (ix_c (by decide)) ?_
        refine V_isub hC dX0_aboutReport_30 ?_
        refine V_iconst hC 1 dX0_aboutReport_31 (by decide) ?_
        refine V_iadd hC dX0_aboutReport_32 ?_
        refine V_iret hC hR dX0_aboutReport_33 ⟨rfl, rfl, _, rfl, ?_⟩
        refine ⟨?_, rfl⟩
        rw [mReport_yes hk]
        first | (rw [if_neg c15, if_pos c36, hg.2]; done) | (rw [if_neg c15, if_neg c36]; done) | (rw [if_pos c15, hg.1, e8]; done)
    · rw [hr.1] at c9
      have hno := lt_no hl (Or.inr (Int32.not_lt.mp c9))
      refine V_iconst hC (-1) dX0_aboutReport_12 (by decide) ?_
      refine V_iret hC hR dX0_aboutReport_13 ⟨rfl, rfl, _, rfl, ?_⟩
      exact ⟨(mReport_no hno).symm, rfl⟩
theorem lk3 {k : Nat} (h : k ≤ 21) (h1 : k ≠ 1) (h2 : k ≠ 11) (h3 : k ≠ 12) : Op.lookupswitch.offset (#[((1 : Int), (35 : Int)), (11, 40), (12, 45)] : Array (Int × Int)).toList 50 (nI k).toInt = 50 := by
  rcases (show k = 0 ∨ k = 2 ∨ k = 3 ∨ k = 4 ∨ k = 5 ∨ k = 6 ∨ k = 7 ∨ k = 8 ∨ k = 9 ∨ k = 10 ∨ k = 13 ∨ k = 14 ∨ k = 15 ∨ k = 16 ∨ k = 17 ∨ k = 18 ∨ k = 19 ∨ k = 20 ∨ k = 21 by omega) with rfl | rfl | rfl | rfl | rfl | rfl | rfl | rfl | rfl | rfl | rfl | rfl | rfl | rfl | rfl | rfl | rfl | rfl | rfl <;> decide
def numB (k : Nat) (m : MT) : Int32 := if k < 14 then hAll m (8 + k) else m.1 (k - 14)
theorem inX0_X0_number : ∀ w ∈ wsX00, w ∈ wsX0_number := by decide +kernel
abbrev rmX0_number : Room := { frames := 0, cells := 0, slots := 0, locals := 0 }
set_option maxHeartbeats 4000000 in
set_option maxRecDepth 100000 in
theorem c_X0_number (g : GE) (lau : Launch) {N : Nat} {ad : Nat → Nat} {f : Nat → va_E} {c : Nat} {s t : Nat → Int32} {p : Nat → Nat} {bc : Int32} {co ex : Nat → Int32} {rc : Int32} {pl : Nat → Int32} {pn : Int32} {wy : Nat → Int32} {gx : Nat → Nat → Int32} (hN : c + 16 ≤ N) {m : MT} (hm : RepB s t p bc co ex rc pl pn wy gx m) {k : Nat} (hk : k ≤ 21) : Ct g lau yX0_number wsX0_number rmX0_number N ad [.ref (ad c), .int (nI k)] (zB g ad f c s t p bc co ex rc pl pn wy gx) (pI N ad (fun x u => x = numB k m ∧ u = (zB g ad f c s t p bc co ex rc pl pn wy gx))) 0 0 := by
  refine Ct.of (maxL := 3) rfl (by decide +kernel) [some (.ref (ad c)), some (.int (nI k)), none] (Nat.le_of_ble_eq_true rfl) (by simp [lvo, lv_args, Value.category]) (fun E hnl _ hC hR => ?_)
  obtain ⟨hh, hx, hr, hp⟩ := hm
  rcases (show k = 1 ∨ k = 11 ∨ k = 12 ∨ (k ≠ 1 ∧ k ≠ 11 ∧ k ≠ 12) by omega) with rfl | rfl | rfl | ⟨k1, k11, k12⟩
  · refine V_iload_n hC dX0_number_0 rfl rfl ?_
    refine V_lookup (off := 35) hC 36 dX0_number_1 (by decide) (by decide) (by decide) ?_
    refine V_aload_n hC dX0_number_36 rfl rfl ?_
    refine V_B_boxCount hC hN dX0_number_37 inX0_X0_number (by decide +kernel) ?_
    refine V_iret hC hR dX0_number_40 ⟨rfl, rfl, _, rfl, ?_⟩
    exact ⟨hx.1, rfl⟩
  · refine V_iload_n hC dX0_number_0 rfl rfl ?_
    refine V_lookup (off := 40) hC 41 dX0_number_1 (by decide) (by decide) (by decide) ?_
    refine V_aload_n hC dX0_number_41 rfl rfl ?_
    refine V_B_reportCount hC hN dX0_number_42 inX0_X0_number (by decide +kernel) ?_
    refine V_iret hC hR dX0_number_45 ⟨rfl, rfl, _, rfl, ?_⟩
    exact ⟨hr.1, rfl⟩
  · refine V_iload_n hC dX0_number_0 rfl rfl ?_
    refine V_lookup (off := 45) hC 46 dX0_number_1 (by decide) (by decide) (by decide) ?_
    refine V_aload_n hC dX0_number_46 rfl rfl ?_
    refine V_B_planCount hC hN dX0_number_47 inX0_X0_number (by decide +kernel) ?_
    refine V_iret hC hR dX0_number_50 ⟨rfl, rfl, _, rfl, ?_⟩
    exact ⟨hp.1, rfl⟩
  · refine V_iload_n hC dX0_number_0 rfl rfl ?_
    refine V_lookup (off := 50) hC 51 dX0_number_1 (by decide) (lk3 hk k1 k11 k12) (by decide) ?_
    refine V_iload_n hC dX0_number_51 rfl rfl ?_
    refine V_if_lt_f (tgt := 71) hC dX0_number_52 (by decide) (nI_pos (by omega)) ?_
    refine V_iload_n hC dX0_number_55 rfl rfl ?_
    refine V_aload_n hC dX0_number_56 rfl rfl ?_
    refine V_B_tallies hC hN dX0_number_57 inX0_X0_number (by decide +kernel) ?_
    refine V_B_len2 hC hN 14 dX0_number_60 rfl ?_
    refine V_icmp_ge hC 71 dX0_number_61 (by decide) (fun c61 => ?_) (fun c61 => ?_)
    · have hk14 : 14 ≤ k := (nI_leI (a := 14) (by decide) (by omega)).mp c61
      refine V_iload_n hC dX0_number_71 rfl rfl ?_
      refine V_bipush hC 14 dX0_number_72 (by decide) ?_
      refine V_isub hC dX0_number_74 ?_
      refine V_eqt (nI (k - 14)) (isub14 hk14) ?_
      refine V_istore_n2 hC dX0_number_75 rfl (by rw [hnl]; decide) rfl ?_
      refine V_iload_n hC dX0_number_76 rfl rfl ?_
      refine V_if_lt_f (tgt := 98) hC dX0_number_77 (by decide) (nI_pos (by omega)) ?_
      refine V_iload_n hC dX0_number_80 rfl rfl ?_
      refine V_aload_n hC dX0_number_81 rfl rfl ?_
      refine V_B_settings hC hN dX0_number_82 inX0_X0_number (by decide +kernel) ?_
      refine V_B_len1 hC hN 8 dX0_number_85 rfl ?_
      refine V_icmp_ge_f (tgt := 98) hC dX0_number_86 (by decide) (nI_ge (b := 8) (by omega) (by decide)) ?_
      refine V_aload_n hC dX0_number_89 rfl rfl ?_
      refine V_B_settings hC hN dX0_number_90 inX0_X0_number (by decide +kernel) ?_
      refine V_iload_n hC dX0_number_93 rfl rfl ?_
      refine V_B_ld1 hC hN dX0_number_94 (ix_nI (j := k - 14) (by omega) (by decide)) ?_
      refine V_goto hC 100 dX0_number_95 (by decide) ?_
      refine V_iret hC hR dX0_number_100 ⟨rfl, rfl, _, rfl, ?_⟩
      refine ⟨?_, rfl⟩
      rw [numB, if_neg (by omega)]
      exact hh.1 _ (by omega)
    · have hk14 : k < 14 := by rcases Nat.lt_or_ge k 14 with q | q; exact q; exact absurd (nI_le (a := 14) q (by omega)) c61
      refine V_aload_n hC dX0_number_64 rfl rfl ?_
      refine V_B_tallies hC hN dX0_number_65 inX0_X0_number (by decide +kernel) ?_
      refine V_iload_n hC dX0_number_68 rfl rfl ?_
      refine V_B_ld2 hC hN dX0_number_69 (ix_nI (j := k) hk14 (by decide)) ?_
      refine V_iret hC hR dX0_number_70 ⟨rfl, rfl, _, rfl, ?_⟩
      refine ⟨?_, rfl⟩
      rw [numB, if_pos hk14, hAll, if_neg (by omega), if_neg (by omega), if_neg (by omega)]
      exact hh.2.1 k hk14 k1 k11 k12
end
section
theorem isX.move {y x : Nat → Int32} {v : Int32} (q : isX y x) : isX (upd y 0 (y 0 + v)) (xMove v x) := by
  obtain ⟨e0, e1, e2, e5, e6, e3, hb2, hb4⟩ := q
  refine ⟨?_, e1, e2, e5, e6, e3, hb2, hb4⟩
  show y 0 + v = x 0 + v
  rw [e0]
theorem isX.see {y x : Nat → Int32} (q : isX y x) : isX (upd y 2 1) (upd x 2 1) := by
  obtain ⟨e0, e1, e2, e5, e6, e3, hb2, hb4⟩ := q
  exact ⟨e0, e1, rfl, e5, e6, e3, Or.inr rfl, hb4⟩
theorem qR.push {co ex : Nat → Int32} {rc : Int32} {rs : List (Int32 × Int32)} (q : qR co ex rc rs) (h : rs.length < 28) (a b : Int32) : qR (upd co rs.length a) (upd ex rs.length b) (rc + 1) (rs ++ [(a, b)]) := by
  refine ⟨by rw [q.1, List.length_append]; exact nI_1 _, by rw [List.length_append]; simp; omega, fun j w hw => ?_⟩
  have hj : j < rs.length + 1 := by simpa using (List.getElem?_eq_some_iff.mp hw).1
  by_cases h2 : j < rs.length
  · rw [pk_un (by omega), pk_un (by omega)]
    exact q.2.2 j w ((cut_s h2).mp hw)
  · have : j = rs.length := by omega
    subst this
    rw [cut_m] at hw
    cases hw
    rw [pk_us, pk_us]
    exact ⟨rfl, rfl⟩
theorem qP.push {pl : Nat → Int32} {pn : Int32} {ps : List Int32} (q : qP pl pn ps) (h : ps.length < 29) (a : Int32) : qP (upd pl ps.length a) (pn + 1) (ps ++ [a]) := by
  refine ⟨by rw [q.1, List.length_append]; exact nI_1 _, by rw [List.length_append]; simp; omega, fun j w hw => ?_⟩
  have hj : j < ps.length + 1 := by simpa using (List.getElem?_eq_some_iff.mp hw).1
  by_cases h2 : j < ps.length
  · rw [pk_un (by omega)]
    exact q.2.2 j w ((cut_s h2).mp hw)
  · have : j = ps.length := by omega
    subst this
    rw [cut_m] at hw
    cases hw
    exact pk_us ..
theorem qP.set {pl : Nat → Int32} {pn : Int32} {d r : List Int32} {x z : Int32} (q : qP pl pn (d ++ x :: r)) : qP (upd pl d.length z) pn (d ++ z :: r) := by
  refine ⟨by rw [q.1]; simp, by have := q.2.1; simpa using this, fun j w hw => ?_⟩
  by_cases hj : j = d.length
  · subst hj
    rw [cut_m] at hw
    cases hw
    exact pk_us ..
  · rw [pk_un hj]
    refine q.2.2 j w ?_
    rcases Nat.lt_or_gt_of_ne hj with h3 | h3
    · exact (cut_l h3).mpr ((cut_l h3).mp hw)
    · exact (cut_r h3).mpr ((cut_r h3).mp hw)
theorem qP.get {pl : Nat → Int32} {pn : Int32} {d r : List Int32} {x : Int32} (q : qP pl pn (d ++ x :: r)) : pl d.length = x := q.2.2 _ _ cut_m
/-- an array of two parts: the first as K, from i on as r -/
def two {α : Type} (φ : α → Int32) (a : Nat → Int32) (K r : List α) (i : Nat) : Prop := (∀ j q, K[j]? = some q → a j = φ q) ∧ ∀ j q, r[j]? = some q → a (i + j) = φ q
theorem two.hd {α : Type} {φ : α → Int32} {a : Nat → Int32} {K r : List α} {x : α} {i : Nat} (h : two φ a K (x :: r) i) : a i = φ x := h.2 0 x rfl
theorem two.skip {α : Type} {φ : α → Int32} {a : Nat → Int32} {K r : List α} {x : α} {i : Nat} (h : two φ a K (x :: r) i) : two φ a K r (i + 1) := ⟨h.1, fun j q hq => by rw [show i + 1 + j = i + (j + 1) by omega]; exact h.2 (j + 1) q hq⟩
theorem two.keep {α : Type} {φ : α → Int32} {a : Nat → Int32} {K r : List α} {x : α} {i : Nat} {z : Int32} (h : two φ a K (x :: r) i) (hk : K.length ≤ i) (hz : z = φ x) : two φ (upd a K.length z) (K ++ [x]) r (i + 1) := by
  refine ⟨fun j q hq => ?_, fun j q hq => ?_⟩
  · have hj : j < K.length + 1 := by simpa using (List.getElem?_eq_some_iff.mp hq).1
    by_cases h2 : j < K.length
    · rw [pk_un (by omega)]
      exact h.1 j q ((cut_s h2).mp hq)
    · have : j = K.length := by omega
      subst this
      rw [cut_m] at hq
      cases hq
      rw [pk_us, hz]
  · rw [pk_un (by omega), show i + 1 + j = i + (j + 1) by omega]
    exact h.2 (j + 1) q hq
theorem inX0_X0_addReport : ∀ w ∈ wsX00, w ∈ wsX0_addReport := by decide +kernel
abbrev rmX0_addReport : Room := { frames := 0, cells := 0, slots := 0, locals := 0 }
set_option maxHeartbeats 4000000 in
set_option maxRecDepth 100000 in
theorem c_X0_addReport (g : GE) (lau : Launch) {N : Nat} {ad : Nat → Nat} {f : Nat → va_E} {c : Nat} {s t : Nat → Int32} {p : Nat → Nat} {bc : Int32} {co ex : Nat → Int32} {rc : Int32} {pl : Nat → Int32} {pn : Int32} {wy : Nat → Int32} {gx : Nat → Nat → Int32} (hN : c + 16 ≤ N) {n : Nat} (hn : rc = nI n) (h28 : n < 28) (v : Int32) : Ct g lau yX0_addReport wsX0_addReport rmX0_addReport N ad [.ref (ad c), .int (v)] (zB g ad f c s t p bc co ex rc pl pn wy gx) (pV N ad (fun u => u = (zB g ad f c s t p bc (upd co n (t 0 + s 1)) (upd ex n v) (rc + 1) pl pn wy gx))) 0 0 := by
  refine Ct.of (maxL := 2) rfl (by decide +kernel) [some (.ref (ad c)), some (.int (v))] (Nat.le_of_ble_eq_true rfl) (by simp [lvo, lv_args, Value.category]) (fun E hnl _ hC hR => ?_)
  refine V_aload_n hC dX0_addReport_0 rfl rfl ?_
  refine V_B_reportCount hC hN dX0_addReport_1 inX0_X0_addReport (by decide +kernel) ?_
  refine V_bipush hC 32 dX0_addReport_4 (by decide) ?_
  refine V_icmp_ge_f (tgt := 51) hC dX0_addReport_6 (by decide) (by rw [hn]; exact nI_ge (b := 32) (by omega) (by decide)) ?_
  refine V_aload_n hC dX0_addReport_9 rfl rfl ?_
  refine V_B_comes hC hN dX0_addReport_10 inX0_X0_addReport (by decide +kernel) ?_
  refine V_aload_n hC dX0_addReport_13 rfl rfl ?_
  refine V_B_reportCount hC hN dX0_addReport_14 inX0_X0_addReport (by decide +kernel) ?_
  refine V_aload_n hC dX0_addReport_17 rfl rfl ?_
  refine V_B_tallies hC hN dX0_addReport_18 inX0_X0_addReport (by decide +kernel) ?_
  refine V_iconst hC 0 dX0_addReport_21 (by decide) ?_
  refine V_B_ld2 hC hN (k := 0) dX0_addReport_22 (ix_c (by decide)) ?_
  refine V_aload_n hC dX0_addReport_23 rfl rfl ?_
  refine V_B_settings hC hN dX0_addReport_24 inX0_X0_addReport (by decide +kernel) ?_
  refine V_iconst hC 1 dX0_addReport_27 (by decide) ?_
  refine V_B_ld1 hC hN (k := 1) dX0_addReport_28 (ix_c (by decide)) ?_
  refine V_iadd hC dX0_addReport_29 ?_
  refine V_B_st4 hC hN dX0_addReport_30 (ix_of (j := n) hn (by omega) (by decide)) ?_
  refine V_aload_n hC dX0_addReport_31 rfl rfl ?_
  refine V_B_excesses hC hN dX0_addReport_32 inX0_X0_addReport (by decide +kernel) ?_
  refine V_aload_n hC dX0_addReport_35 rfl rfl ?_
  refine V_B_reportCount hC hN dX0_addReport_36 inX0_X0_addReport (by decide +kernel) ?_
  refine V_iload_n hC dX0_addReport_39 rfl rfl ?_
  refine V_B_st5 hC hN dX0_addReport_40 (ix_of (j := n) hn (by omega) (by decide)) ?_
  refine V_aload_n hC dX0_addReport_41 rfl rfl ?_
  refine V_dup hC dX0_addReport_42 rfl ?_
  refine V_B_reportCount hC hN dX0_addReport_43 inX0_X0_addReport (by decide +kernel) ?_
  refine V_iconst hC 1 dX0_addReport_46 (by decide) ?_
  refine V_iadd hC dX0_addReport_47 ?_
  refine V_B_put_reportCount hC hN dX0_addReport_48 inX0_X0_addReport (by decide +kernel) ?_
  refine V_vret hC hR dX0_addReport_51 ⟨rfl, rfl, rfl, ?_⟩
  exact rfl
theorem inX0_X0_moveOn : ∀ w ∈ wsX00, w ∈ wsX0_moveOn := by decide +kernel
theorem inX1_X0_moveOn : ∀ w ∈ wsX10, w ∈ wsX0_moveOn := by decide +kernel
abbrev rmX0_moveOn : Room := { frames := 0, cells := 0, slots := 0, locals := 0 }
set_option maxHeartbeats 4000000 in
set_option maxRecDepth 100000 in
theorem c_X0_moveOn (g : GE) (lau : Launch) {N : Nat} {ad : Nat → Nat} {f : Nat → va_E} {c : Nat} {s t : Nat → Int32} {p : Nat → Nat} {bc : Int32} {co ex : Nat → Int32} {rc : Int32} {pl : Nat → Int32} {pn : Int32} {wy : Nat → Int32} {gx : Nat → Nat → Int32} (hN : c + 16 ≤ N) {h : Nat → Int32} {bs : List (Nat → Int32)} {rs : List (Int32 × Int32)} {ps : List Int32} (hh : qH s t wy h) (hx : qX p gx bc bs) (hr : qR co ex rc rs) (hp : qP pl pn ps) : Ct g lau yX0_moveOn wsX0_moveOn rmX0_moveOn N ad [.ref (ad c)] (zB g ad f c s t p bc co ex rc pl pn wy gx) (pV N ad (fun u => BIs g ad f c (mMove (h, bs, rs, ps)) u)) 0 0 := by
  refine Ct.of (maxL := 3) rfl (by decide +kernel) [some (.ref (ad c)), none, none] (Nat.le_of_ble_eq_true rfl) (by simp [lvo, lv_args, Value.category]) (fun E hnl _ hC hR => ?_)
  have loop : ∀ (r d : List (Nat → Int32)) (gx : Nat → Nat → Int32), d ++ r.map (xMove (h 0)) = bs.map (xMove (h 0)) → qX p gx bc (d ++ r) → V E g N ad 0 0 (zB g ad f c s t p bc co ex rc pl pn wy gx) 9 [some (.ref (ad c)), some (.int (s 0)), some (.int (nI d.length))] [] := by
    intro r
    induction r with
    | nil =>
      intro d gx ht hx
      refine V_iload_n hC dX0_moveOn_9 rfl rfl ?_
      refine V_aload_n hC dX0_moveOn_10 rfl rfl ?_
      refine V_B_boxCount hC hN dX0_moveOn_11 inX0_X0_moveOn (by decide +kernel) ?_
      refine V_icmp_ge_t hC 38 dX0_moveOn_14 (by decide) (lp_end hx.1 (Nat.le_trans hx.2.1 (by decide))) ?_
      refine V_aload_n hC dX0_moveOn_38 rfl rfl ?_
      refine V_B_tallies hC hN dX0_moveOn_39 inX0_X0_moveOn (by decide +kernel) ?_
      refine V_bipush hC 13 dX0_moveOn_42 (by decide) ?_
      refine V_dup2 hC dX0_moveOn_44 rfl rfl ?_
      refine V_B_ld2 hC hN (k := 13) dX0_moveOn_45 (ix_c (by decide)) ?_
      refine V_iload_n hC dX0_moveOn_46 rfl rfl ?_
      refine V_iadd hC dX0_moveOn_47 ?_
      refine V_B_st2 (k := 13) hC hN dX0_moveOn_48 (ix_c (by decide)) ?_
      refine V_aload_n hC dX0_moveOn_49 rfl rfl ?_
      refine V_B_ways hC hN dX0_moveOn_50 inX0_X0_moveOn (by decide +kernel) ?_
      refine V_B_len7 hC hN 5 dX0_moveOn_53 rfl ?_
      refine V_iconst hC 1 dX0_moveOn_54 (by decide) ?_
      refine V_isub hC dX0_moveOn_55 ?_
      refine V_eqt (4) (by decide) ?_
      refine V_istore_n2 hC dX0_moveOn_56 rfl (by rw [hnl]; decide) rfl ?_
      refine V_iload_n hC dX0_moveOn_57 rfl rfl ?_
      refine V_if_le_f (tgt := 81) hC dX0_moveOn_58 (by decide) (by decide) ?_
      refine V_aload_n hC dX0_moveOn_61 rfl rfl ?_
      refine V_B_ways hC hN dX0_moveOn_62 inX0_X0_moveOn (by decide +kernel) ?_
      refine V_iload_n hC dX0_moveOn_65 rfl rfl ?_
      refine V_aload_n hC dX0_moveOn_66 rfl rfl ?_
      refine V_B_ways hC hN dX0_moveOn_67 inX0_X0_moveOn (by decide +kernel) ?_
      refine V_iload_n hC dX0_moveOn_70 rfl rfl ?_
      refine V_iconst hC 1 dX0_moveOn_71 (by decide) ?_
      refine V_isub hC dX0_moveOn_72 ?_
      refine V_eqt (3) (by decide) ?_
      refine V_B_ld7 hC hN dX0_moveOn_73 (show ix _ 3 5 from ix_c (by decide)) ?_
      refine V_B_st7 hC hN dX0_moveOn_74 (show ix _ 4 5 from ix_c (by decide)) ?_
      refine V_iinc2 hC 3 dX0_moveOn_75 (by decide) (by rw [hnl]; decide) rfl ?_
      refine V_goto hC 57 dX0_moveOn_78 (by decide) ?_
      refine V_iload_n hC dX0_moveOn_57 rfl rfl ?_
      refine V_if_le_f (tgt := 81) hC dX0_moveOn_58 (by decide) (by decide) ?_
      refine V_aload_n hC dX0_moveOn_61 rfl rfl ?_
      refine V_B_ways hC hN dX0_moveOn_62 inX0_X0_moveOn (by decide +kernel) ?_
      refine V_iload_n hC dX0_moveOn_65 rfl rfl ?_
      refine V_aload_n hC dX0_moveOn_66 rfl rfl ?_
      refine V_B_ways hC hN dX0_moveOn_67 inX0_X0_moveOn (by decide +kernel) ?_
      refine V_iload_n hC dX0_moveOn_70 rfl rfl ?_
      refine V_iconst hC 1 dX0_moveOn_71 (by decide) ?_
      refine V_isub hC dX0_moveOn_72 ?_
      refine V_eqt (2) (by decide) ?_
      refine V_B_ld7 hC hN dX0_moveOn_73 (show ix _ 2 5 from ix_c (by decide)) ?_
      refine V_B_st7 hC hN dX0_moveOn_74 (show ix _ 3 5 from ix_c (by decide)) ?_
      refine V_iinc2 hC 2 dX0_moveOn_75 (by decide) (by rw [hnl]; decide) rfl ?_
      refine V_goto hC 57 dX0_moveOn_78 (by decide) ?_
      refine V_iload_n hC dX0_moveOn_57 rfl rfl ?_
      refine V_if_le_f (tgt := 81) hC dX0_moveOn_58 (by decide) (by decide) ?_
      refine V_aload_n hC dX0_moveOn_61 rfl rfl ?_
      refine V_B_ways hC hN dX0_moveOn_62 inX0_X0_moveOn (by decide +kernel) ?_
      refine V_iload_n hC dX0_moveOn_65 rfl rfl ?_
      refine V_aload_n hC dX0_moveOn_66 rfl rfl ?_
      refine V_B_ways hC hN dX0_moveOn_67 inX0_X0_moveOn (by decide +kernel) ?_
      refine V_iload_n hC dX0_moveOn_70 rfl rfl ?_
      refine V_iconst hC 1 dX0_moveOn_71 (by decide) ?_
      refine V_isub hC dX0_moveOn_72 ?_
      refine V_eqt (1) (by decide) ?_
      refine V_B_ld7 hC hN dX0_moveOn_73 (show ix _ 1 5 from ix_c (by decide)) ?_
      refine V_B_st7 hC hN dX0_moveOn_74 (show ix _ 2 5 from ix_c (by decide)) ?_
      refine V_iinc2 hC 1 dX0_moveOn_75 (by decide) (by rw [hnl]; decide) rfl ?_
      refine V_goto hC 57 dX0_moveOn_78 (by decide) ?_
      refine V_iload_n hC dX0_moveOn_57 rfl rfl ?_
      refine V_if_le_f (tgt := 81) hC dX0_moveOn_58 (by decide) (by decide) ?_
      refine V_aload_n hC dX0_moveOn_61 rfl rfl ?_
      refine V_B_ways hC hN dX0_moveOn_62 inX0_X0_moveOn (by decide +kernel) ?_
      refine V_iload_n hC dX0_moveOn_65 rfl rfl ?_
      refine V_aload_n hC dX0_moveOn_66 rfl rfl ?_
      refine V_B_ways hC hN dX0_moveOn_67 inX0_X0_moveOn (by decide +kernel) ?_
      refine V_iload_n hC dX0_moveOn_70 rfl rfl ?_
      refine V_iconst hC 1 dX0_moveOn_71 (by decide) ?_
      refine V_isub hC dX0_moveOn_72 ?_
      refine V_eqt (0) (by decide) ?_
      refine V_B_ld7 hC hN dX0_moveOn_73 (show ix _ 0 5 from ix_c (by decide)) ?_
      refine V_B_st7 hC hN dX0_moveOn_74 (show ix _ 1 5 from ix_c (by decide)) ?_
      refine V_iinc2 hC 0 dX0_moveOn_75 (by decide) (by rw [hnl]; decide) rfl ?_
      refine V_goto hC 57 dX0_moveOn_78 (by decide) ?_
      refine V_iload_n hC dX0_moveOn_57 rfl rfl ?_
      refine V_if_le_t hC 81 dX0_moveOn_58 (by decide) (by decide) ?_
      refine V_aload_n hC dX0_moveOn_81 rfl rfl ?_
      refine V_B_ways hC hN dX0_moveOn_82 inX0_X0_moveOn (by decide +kernel) ?_
      refine V_iconst hC 0 dX0_moveOn_85 (by decide) ?_
      refine V_iload_n hC dX0_moveOn_86 rfl rfl ?_
      refine V_B_st7 (k := 0) hC hN dX0_moveOn_87 (ix_c (by decide)) ?_
      refine V_vret hC hR dX0_moveOn_88 ⟨rfl, rfl, rfl, ?_⟩
      rw [List.append_nil] at hx
      rw [List.map_nil, List.append_nil] at ht
      subst ht
      refine BIs.mk ⟨⟨fun i hi => ?_, fun i h1 h2 h3 h4 => ?_, fun k hk => ?_⟩, hx, hr, hp⟩
      · show s i = hMove h i
        rw [hh.1 i hi]
        unfold hMove
        rw [if_neg (by omega), if_neg (by omega), if_neg (by omega)]
      · show (upd t 13 (t 13 + s 0)) i = hMove h (8 + i)
        by_cases hi : i = 13
        · subst hi
          rw [pk_us, hh.1 0 (by decide), hh.2.1 13 (by decide) (by decide) (by decide) (by decide)]
          rfl
        · rw [pk_un hi, hh.2.1 i h1 h2 h3 h4]
          unfold hMove
          rw [if_neg (by omega), if_neg (by omega), if_neg (by omega)]
      · have e0 := hh.1 0 (by decide)
        have w0 := hh.2.2 0 (by decide)
        have w1 := hh.2.2 1 (by decide)
        have w2 := hh.2.2 2 (by decide)
        have w3 := hh.2.2 3 (by decide)
        rcases (show k = 0 ∨ k = 1 ∨ k = 2 ∨ k = 3 ∨ k = 4 by omega) with rfl | rfl | rfl | rfl | rfl
        · exact e0
        · exact w0
        · exact w1
        · exact w2
        · exact w3
    | cons x r ih =>
      intro d gx ht hx
      have hlt := hx.lt
      have hpl := hx.p8 hlt
      have ex0 := hx.get
      refine V_iload_n hC dX0_moveOn_9 rfl rfl ?_
      refine V_aload_n hC dX0_moveOn_10 rfl rfl ?_
      refine V_B_boxCount hC hN dX0_moveOn_11 inX0_X0_moveOn (by decide +kernel) ?_
      refine V_icmp_ge_f (tgt := 38) hC dX0_moveOn_14 (by decide) (lp_go hx.1 (Nat.le_trans hx.2.1 (by decide))) ?_
      refine V_aload_n hC dX0_moveOn_17 rfl rfl ?_
      refine V_B_boxes hC hN dX0_moveOn_18 inX0_X0_moveOn (by decide +kernel) ?_
      refine V_iload_n hC dX0_moveOn_21 rfl rfl ?_
      refine V_B_ld3 hC hN dX0_moveOn_22 (ix_nI (j := d.length) hlt (by decide)) ?_
      refine V_dup hC dX0_moveOn_23 rfl ?_
      refine V_X_front hC (by have := hpl; omega) (zB_box hpl) dX0_moveOn_24 inX1_X0_moveOn (by decide +kernel) ?_
      refine V_iload_n hC dX0_moveOn_27 rfl rfl ?_
      refine V_iadd hC dX0_moveOn_28 ?_
      refine V_X_put_front hC (by have := hpl; omega) (zB_box hpl) dX0_moveOn_29 inX1_X0_moveOn (by decide +kernel) ?_
      refine V_f (zB_ubox hpl) ?_
      refine V_iinc2 hC (nI (d ++ [xMove (h 0) x]).length) dX0_moveOn_32 len_s (by rw [hnl]; decide) rfl ?_
      refine V_goto hC 9 dX0_moveOn_35 (by decide) ?_
      rw [hh.1 0 (by decide)]
      refine V_lo (by rw [hh.1 0 (by decide)]; exact fun _ q => q) (ih (d ++ [xMove (h 0) x]) _ (by rw [List.append_assoc]; exact ht) ?_)
      rw [List.append_assoc]
      exact hx.set ex0.move
  refine V_aload_n hC dX0_moveOn_0 rfl rfl ?_
  refine V_B_settings hC hN dX0_moveOn_1 inX0_X0_moveOn (by decide +kernel) ?_
  refine V_iconst hC 0 dX0_moveOn_4 (by decide) ?_
  refine V_B_ld1 hC hN (k := 0) dX0_moveOn_5 (ix_c (by decide)) ?_
  refine V_istore_n1 hC dX0_moveOn_6 rfl (by rw [hnl]; decide) rfl ?_
  refine V_iconst hC 0 dX0_moveOn_7 (by decide) ?_
  refine V_istore_n2 hC dX0_moveOn_8 rfl (by rw [hnl]; decide) rfl ?_
  exact loop bs [] gx rfl hx
theorem inX0_X0_seeBoxes : ∀ w ∈ wsX00, w ∈ wsX0_seeBoxes := by decide +kernel
theorem inX1_X0_seeBoxes : ∀ w ∈ wsX10, w ∈ wsX0_seeBoxes := by decide +kernel
abbrev rmX0_seeBoxes : Room := { frames := 1, cells := 0, slots := 0, locals := 21 }
set_option maxHeartbeats 4000000 in
set_option maxRecDepth 100000 in
theorem c_X0_seeBoxes (g : GE) (lau : Launch) {N : Nat} {ad : Nat → Nat} {f : Nat → va_E} {c : Nat} {s t : Nat → Int32} {p : Nat → Nat} {bc : Int32} {co ex : Nat → Int32} {rc : Int32} {pl : Nat → Int32} {pn : Int32} {wy : Nat → Int32} {gx : Nat → Nat → Int32} (hN : c + 16 ≤ N) {h : Nat → Int32} {bs : List (Nat → Int32)} {rs : List (Int32 × Int32)} {ps : List Int32} (hh : qH s t wy h) (hx : qX p gx bc bs) (hr : qR co ex rc rs) (hp : qP pl pn ps) (hn : rs.length + (bs.filter unseen).length ≤ 28) : Ct g lau yX0_seeBoxes wsX0_seeBoxes rmX0_seeBoxes N ad [.ref (ad c)] (zB g ad f c s t p bc co ex rc pl pn wy gx) (pV N ad (fun u => BIs g ad f c (mSee (h, bs, rs, ps)) u)) 0 0 := by
  refine Ct.of (maxL := 3) rfl (by decide +kernel) [some (.ref (ad c)), none, none] (Nat.le_of_ble_eq_true rfl) (by simp [lvo, lv_args, Value.category]) (fun E hnl _ hC hR => ?_)
  obtain ⟨tg, htg⟩ : ∃ z, z = rs ++ (bs.filter unseen).map (mkRep h) := ⟨_, rfl⟩
  have loop : ∀ (r d : List (Nat → Int32)) (gx : Nat → Nat → Int32) (co ex : Nat → Int32) (rc : Int32) (rs : List (Int32 × Int32)) (w2 : Option Value), d ++ r.map xSee = bs.map xSee → rs ++ (r.filter unseen).map (mkRep h) = tg → rs.length + (r.filter unseen).length ≤ 28 → qX p gx bc (d ++ r) → qR co ex rc rs → V E g N ad 0 0 (zB g ad f c s t p bc co ex rc pl pn wy gx) 2 [some (.ref (ad c)), some (.int (nI d.length)), w2] [] := by
    intro r
    induction r with
    | nil =>
      intro d gx co ex rc rs w2 ht hq hn hx hr
      refine V_iload_n hC dX0_seeBoxes_2 rfl rfl ?_
      refine V_aload_n hC dX0_seeBoxes_3 rfl rfl ?_
      refine V_B_boxCount hC hN dX0_seeBoxes_4 inX0_X0_seeBoxes (by decide +kernel) ?_
      refine V_icmp_ge_t hC 55 dX0_seeBoxes_7 (by decide) (lp_end hx.1 (Nat.le_trans hx.2.1 (by decide))) ?_
      refine V_vret hC hR dX0_seeBoxes_55 ⟨rfl, rfl, rfl, ?_⟩
      rw [List.append_nil] at hx
      rw [List.map_nil, List.append_nil] at ht
      simp only [List.filter_nil, List.map_nil, List.append_nil] at hq
      subst ht
      exact BIs.mk ⟨hh, hx, (by have q := hr; rw [hq.trans htg] at q; exact q), hp⟩
    | cons x r ih =>
      intro d gx co ex rc rs w2 ht hq hn hx hr
      have hlt := hx.lt
      have hpl := hx.p8 hlt
      have e := hx.get
      refine V_iload_n hC dX0_seeBoxes_2 rfl rfl ?_
      refine V_aload_n hC dX0_seeBoxes_3 rfl rfl ?_
      refine V_B_boxCount hC hN dX0_seeBoxes_4 inX0_X0_seeBoxes (by decide +kernel) ?_
      refine V_icmp_ge_f (tgt := 55) hC dX0_seeBoxes_7 (by decide) (lp_go hx.1 (Nat.le_trans hx.2.1 (by decide))) ?_
      refine V_aload_n hC dX0_seeBoxes_10 rfl rfl ?_
      refine V_B_boxes hC hN dX0_seeBoxes_11 inX0_X0_seeBoxes (by decide +kernel) ?_
      refine V_iload_n hC dX0_seeBoxes_14 rfl rfl ?_
      refine V_B_ld3 hC hN dX0_seeBoxes_15 (ix_nI (j := d.length) hlt (by decide)) ?_
      refine V_astore_n2 hC dX0_seeBoxes_16 rfl (by rw [hnl]; decide) rfl ?_
      refine V_aload_n hC dX0_seeBoxes_17 rfl rfl ?_
      refine V_X_seen hC (by have := hpl; omega) (zB_box hpl) dX0_seeBoxes_18 inX1_X0_seeBoxes (by decide +kernel) ?_
      refine V_if_ne hC 49 dX0_seeBoxes_21 (by decide) (fun c21 => ?_) (fun c21 => ?_)
      · have hu : unseen x = false := by rw [e.2.2.1] at c21; simp [unseen, c21]
        refine V_iinc1 hC (nI (d ++ [x]).length) dX0_seeBoxes_49 len_s (by rw [hnl]; decide) rfl ?_
        refine V_goto hC 2 dX0_seeBoxes_52 (by decide) ?_
        simp only [List.map_cons, List.filter_cons, hu, xSee_no hu, Bool.false_eq_true, if_false] at ht hq hn
        exact ih (d ++ [x]) gx co ex rc rs _ (by rw [List.append_assoc]; exact ht) hq hn (by rw [List.append_assoc]; exact hx) hr
      · refine V_aload_n hC dX0_seeBoxes_24 rfl rfl ?_
        refine V_X_front hC (by have := hpl; omega) (zB_box hpl) dX0_seeBoxes_25 inX1_X0_seeBoxes (by decide +kernel) ?_
        refine V_bipush hC 20 dX0_seeBoxes_28 (by decide) ?_
        refine V_icmp_lt hC 49 dX0_seeBoxes_30 (by decide) (fun c30 => ?_) (fun c30 => ?_)
        · have hu : unseen x = false := by rw [e.1] at c30; simp [unseen]; intro _; exact c30
          refine V_iinc1 hC (nI (d ++ [x]).length) dX0_seeBoxes_49 len_s (by rw [hnl]; decide) rfl ?_
          refine V_goto hC 2 dX0_seeBoxes_52 (by decide) ?_
          simp only [List.map_cons, List.filter_cons, hu, xSee_no hu, Bool.false_eq_true, if_false] at ht hq hn
          exact ih (d ++ [x]) gx co ex rc rs _ (by rw [List.append_assoc]; exact ht) hq hn (by rw [List.append_assoc]; exact hx) hr
        · have hu : unseen x = true := by rw [e.1] at c30; rw [e.2.2.1] at c21; simp [unseen, c21]; exact Int32.not_lt.mp c30
          have hl28 : rs.length < 28 := by simp only [List.filter_cons, hu, if_true, List.length_cons] at hn; omega
          have hn2 : rs.length + 1 + (r.filter unseen).length ≤ 28 := by simp only [List.filter_cons, hu, if_true, List.length_cons] at hn; omega
          refine V_aload_n hC dX0_seeBoxes_33 rfl rfl ?_
          refine V_iconst hC 1 dX0_seeBoxes_34 (by decide) ?_
          refine V_X_put_seen hC (by omega) (zB_box hpl) (Or.inr rfl) dX0_seeBoxes_35 inX1_X0_seeBoxes (by decide +kernel) ?_
          refine V_f (zB_ubox hpl) ?_
          refine V_aload_n hC dX0_seeBoxes_38 rfl rfl ?_
          refine V_aload_n hC dX0_seeBoxes_39 rfl rfl ?_
          refine V_X_front hC (by omega) (zB_box hpl) dX0_seeBoxes_40 inX1_X0_seeBoxes (by decide +kernel) ?_
          refine V_eqt (upd (gx (p d.length)) 2 1 0) (by simp [va_up]) ?_
          refine V_bipush hC 20 dX0_seeBoxes_43 (by decide) ?_
          refine V_isub hC dX0_seeBoxes_45 ?_
          refine V_cvV (n := 1) hC (c_X0_addReport g (eL E) hN hr.1 hl28 _) dX0_seeBoxes_46 gX0_seeBoxes_X0_addReport rfl rfl rfl ⟨rfl, rfl⟩ (by decide +kernel) (by decide +kernel) (by omega) zB_0 rfl (Nat.le_of_ble_eq_true rfl) (by decide) (fun u46 h46 => ?_)
          obtain rfl := h46
          refine V_iinc1 hC (nI (d ++ [upd x 2 1]).length) dX0_seeBoxes_49 len_s (by rw [hnl]; decide) rfl ?_
          refine V_goto hC 2 dX0_seeBoxes_52 (by decide) ?_
          simp only [List.map_cons, List.filter_cons, hu, xSee_yes hu, if_true] at ht hq
          have er : mkRep h x = (t 0 + s 1, upd (gx (p d.length)) 2 1 0 - 20) := by
            rw [hh.1 1 (by decide), hh.2.1 0 (by decide) (by decide) (by decide) (by decide), pk_un (by decide), e.1]
            rfl
          refine ih (d ++ [upd x 2 1]) _ _ _ _ (rs ++ [mkRep h x]) _ (by rw [List.append_assoc]; exact ht) (by rw [List.append_assoc]; exact hq) (by rw [List.length_append]; simp only [List.length_singleton]; omega) ?_ ?_
          · rw [List.append_assoc]
            exact hx.set e.see
          · rw [er]
            exact hr.push hl28 _ _
  refine V_iconst hC 0 dX0_seeBoxes_0 (by decide) ?_
  refine V_istore_n1 hC dX0_seeBoxes_1 rfl (by rw [hnl]; decide) rfl ?_
  exact loop bs [] gx co ex rc rs _ rfl htg.symm hn hx hr
theorem inX0_X0_countPlansDown : ∀ w ∈ wsX00, w ∈ wsX0_countPlansDown := by decide +kernel
abbrev rmX0_countPlansDown : Room := { frames := 0, cells := 0, slots := 0, locals := 0 }
set_option maxHeartbeats 4000000 in
set_option maxRecDepth 100000 in
theorem c_X0_countPlansDown (g : GE) (lau : Launch) {N : Nat} {ad : Nat → Nat} {f : Nat → va_E} {c : Nat} {s t : Nat → Int32} {p : Nat → Nat} {bc : Int32} {co ex : Nat → Int32} {rc : Int32} {pl : Nat → Int32} {pn : Int32} {wy : Nat → Int32} {gx : Nat → Nat → Int32} (hN : c + 16 ≤ N) {h : Nat → Int32} {bs : List (Nat → Int32)} {rs : List (Int32 × Int32)} {ps : List Int32} (hh : qH s t wy h) (hx : qX p gx bc bs) (hr : qR co ex rc rs) (hp : qP pl pn ps) : Ct g lau yX0_countPlansDown wsX0_countPlansDown rmX0_countPlansDown N ad [.ref (ad c)] (zB g ad f c s t p bc co ex rc pl pn wy gx) (pV N ad (fun u => BIs g ad f c (mCount (h, bs, rs, ps)) u)) 0 0 := by
  refine Ct.of (maxL := 2) rfl (by decide +kernel) [some (.ref (ad c)), none] (Nat.le_of_ble_eq_true rfl) (by simp [lvo, lv_args, Value.category]) (fun E hnl _ hC hR => ?_)
  have loop : ∀ (r d : List Int32) (pl : Nat → Int32), d ++ r.map (fun p => p - h 0) = ps.map (fun p => p - h 0) → qP pl pn (d ++ r) → V E g N ad 0 0 (zB g ad f c s t p bc co ex rc pl pn wy gx) 2 [some (.ref (ad c)), some (.int (nI d.length))] [] := by
    intro r
    induction r with
    | nil =>
      intro d pl ht hp
      refine V_iload_n hC dX0_countPlansDown_2 rfl rfl ?_
      refine V_aload_n hC dX0_countPlansDown_3 rfl rfl ?_
      refine V_B_planCount hC hN dX0_countPlansDown_4 inX0_X0_countPlansDown (by decide +kernel) ?_
      refine V_icmp_ge_t hC 31 dX0_countPlansDown_7 (by decide) (lp_end hp.1 (Nat.le_trans hp.2.1 (by decide))) ?_
      refine V_vret hC hR dX0_countPlansDown_31 ⟨rfl, rfl, rfl, ?_⟩
      rw [List.append_nil] at hp
      rw [List.map_nil, List.append_nil] at ht
      subst ht
      exact BIs.mk ⟨hh, hx, hr, hp⟩
    | cons x r ih =>
      intro d pl ht hp
      have hlt : d.length < 32 := by have := hp.2.1; simp at this; omega
      have e := hp.get
      have e0 := hh.1 0 (by decide)
      refine V_iload_n hC dX0_countPlansDown_2 rfl rfl ?_
      refine V_aload_n hC dX0_countPlansDown_3 rfl rfl ?_
      refine V_B_planCount hC hN dX0_countPlansDown_4 inX0_X0_countPlansDown (by decide +kernel) ?_
      refine V_icmp_ge_f (tgt := 31) hC dX0_countPlansDown_7 (by decide) (lp_go hp.1 (Nat.le_trans hp.2.1 (by decide))) ?_
      refine V_aload_n hC dX0_countPlansDown_10 rfl rfl ?_
      refine V_B_plans hC hN dX0_countPlansDown_11 inX0_X0_countPlansDown (by decide +kernel) ?_
      refine V_iload_n hC dX0_countPlansDown_14 rfl rfl ?_
      refine V_dup2 hC dX0_countPlansDown_15 rfl rfl ?_
      refine V_B_ld6 hC hN dX0_countPlansDown_16 (ix_nI (j := d.length) hlt (by decide)) ?_
      refine V_aload_n hC dX0_countPlansDown_17 rfl rfl ?_
      refine V_B_settings hC hN dX0_countPlansDown_18 inX0_X0_countPlansDown (by decide +kernel) ?_
      refine V_iconst hC 0 dX0_countPlansDown_21 (by decide) ?_
      refine V_B_ld1 hC hN (k := 0) dX0_countPlansDown_22 (ix_c (by decide)) ?_
      refine V_isub hC dX0_countPlansDown_23 ?_
      refine V_eqt (x - h 0) (by rw [e, e0]) ?_
      refine V_B_st6 hC hN dX0_countPlansDown_24 (ix_nI (j := d.length) hlt (by decide)) ?_
      refine V_iinc1 hC (nI (d ++ [x - h 0]).length) dX0_countPlansDown_25 len_s (by rw [hnl]; decide) rfl ?_
      refine V_goto hC 2 dX0_countPlansDown_28 (by decide) ?_
      refine ih (d ++ [x - h 0]) _ (by rw [List.append_assoc]; exact ht) ?_
      rw [List.append_assoc]
      exact hp.set
  refine V_iconst hC 0 dX0_countPlansDown_0 (by decide) ?_
  refine V_istore_n1 hC dX0_countPlansDown_1 rfl (by rw [hnl]; decide) rfl ?_
  exact loop ps [] pl rfl hp
theorem inX0_X0_guessedWay : ∀ w ∈ wsX00, w ∈ wsX0_guessedWay := by decide +kernel
abbrev rmX0_guessedWay : Room := { frames := 0, cells := 0, slots := 0, locals := 0 }
set_option maxHeartbeats 4000000 in
set_option maxRecDepth 100000 in
theorem c_X0_guessedWay (g : GE) (lau : Launch) {N : Nat} {ad : Nat → Nat} {f : Nat → va_E} {c : Nat} {s t : Nat → Int32} {p : Nat → Nat} {bc : Int32} {co ex : Nat → Int32} {rc : Int32} {pl : Nat → Int32} {pn : Int32} {wy : Nat → Int32} {gx : Nat → Nat → Int32} (hN : c + 16 ≤ N) {h : Nat → Int32} (hh : qH s t wy h) {G : Nat} (hG : G ≤ 5) (hg : h 2 = nI G) : Ct g lau yX0_guessedWay wsX0_guessedWay rmX0_guessedWay N ad [.ref (ad c)] (zB g ad f c s t p bc co ex rc pl pn wy gx) (pI N ad (fun x u => x = gw h ∧ u = (zB g ad f c s t p bc co ex rc pl pn wy gx))) 0 0 := by
  refine Ct.of (maxL := 3) rfl (by decide +kernel) [some (.ref (ad c)), none, none] (Nat.le_of_ble_eq_true rfl) (by simp [lvo, lv_args, Value.category]) (fun E hnl _ hC hR => ?_)
  have e2 := hh.1 2 (by decide)
  have loop : ∀ (n k : Nat), k + n = G → V E g N ad 0 0 (zB g ad f c s t p bc co ex rc pl pn wy gx) 4 [some (.ref (ad c)), some (.int (gwN h k)), some (.int (nI k))] [] := by
    intro n
    induction n with
    | zero =>
      intro k hk
      have hk : k = G := by omega
      subst hk
      refine V_iload_n hC dX0_guessedWay_4 rfl rfl ?_
      refine V_aload_n hC dX0_guessedWay_5 rfl rfl ?_
      refine V_B_settings hC hN dX0_guessedWay_6 inX0_X0_guessedWay (by decide +kernel) ?_
      refine V_iconst hC 2 dX0_guessedWay_9 (by decide) ?_
      refine V_B_ld1 hC hN (k := 2) dX0_guessedWay_10 (ix_c (by decide)) ?_
      refine V_icmp_ge_t hC 38 dX0_guessedWay_11 (by decide) (by rw [e2, hg]; exact Int32.le_refl _) ?_
      refine V_iload_n hC dX0_guessedWay_38 rfl rfl ?_
      refine V_iret hC hR dX0_guessedWay_39 ⟨rfl, rfl, _, rfl, ?_⟩
      exact ⟨by rw [gw, hg, nI_clamp (by omega)], rfl⟩
    | succ n ih =>
      intro k hk
      have ek := hh.2.2 k (by omega)
      refine V_iload_n hC dX0_guessedWay_4 rfl rfl ?_
      refine V_aload_n hC dX0_guessedWay_5 rfl rfl ?_
      refine V_B_settings hC hN dX0_guessedWay_6 inX0_X0_guessedWay (by decide +kernel) ?_
      refine V_iconst hC 2 dX0_guessedWay_9 (by decide) ?_
      refine V_B_ld1 hC hN (k := 2) dX0_guessedWay_10 (ix_c (by decide)) ?_
      refine V_icmp_ge_f (tgt := 38) hC dX0_guessedWay_11 (by decide) (by rw [e2, hg]; exact nI_ge (by omega) (by omega)) ?_
      refine V_iload_n hC dX0_guessedWay_14 rfl rfl ?_
      refine V_aload_n hC dX0_guessedWay_15 rfl rfl ?_
      refine V_B_ways hC hN dX0_guessedWay_16 inX0_X0_guessedWay (by decide +kernel) ?_
      refine V_B_len7 hC hN 5 dX0_guessedWay_19 rfl ?_
      refine V_icmp_ge_f (tgt := 38) hC dX0_guessedWay_20 (by decide) (nI_ge (b := 5) (by omega) (by omega)) ?_
      refine V_iload_n hC dX0_guessedWay_23 rfl rfl ?_
      refine V_aload_n hC dX0_guessedWay_24 rfl rfl ?_
      refine V_B_ways hC hN dX0_guessedWay_25 inX0_X0_guessedWay (by decide +kernel) ?_
      refine V_iload_n hC dX0_guessedWay_28 rfl rfl ?_
      refine V_B_ld7 hC hN dX0_guessedWay_29 (ix_nI (j := k) (by omega) (by decide)) ?_
      refine V_iadd hC dX0_guessedWay_30 ?_
      refine V_eqt (gwN h (k + 1)) (by rw [ek]; rfl) ?_
      refine V_istore_n1 hC dX0_guessedWay_31 rfl (by rw [hnl]; decide) rfl ?_
      refine V_iinc2 hC (nI (k + 1)) dX0_guessedWay_32 (nI_1 k) (by rw [hnl]; decide) rfl ?_
      refine V_goto hC 4 dX0_guessedWay_35 (by decide) ?_
      exact ih (k + 1) (by omega)
  refine V_iconst hC 0 dX0_guessedWay_0 (by decide) ?_
  refine V_istore_n1 hC dX0_guessedWay_1 rfl (by rw [hnl]; decide) rfl ?_
  refine V_iconst hC 0 dX0_guessedWay_2 (by decide) ?_
  refine V_istore_n2 hC dX0_guessedWay_3 rfl (by rw [hnl]; decide) rfl ?_
  exact loop G 0 (by omega)
theorem inX0_X0_addPlan : ∀ w ∈ wsX00, w ∈ wsX0_addPlan := by decide +kernel
abbrev rmX0_addPlan : Room := { frames := 1, cells := 0, slots := 0, locals := 22 }
set_option maxHeartbeats 4000000 in
set_option maxRecDepth 100000 in
theorem c_X0_addPlan (g : GE) (lau : Launch) {N : Nat} {ad : Nat → Nat} {f : Nat → va_E} {c : Nat} {s t : Nat → Int32} {p : Nat → Nat} {bc : Int32} {co ex : Nat → Int32} {rc : Int32} {pl : Nat → Int32} {pn : Int32} {wy : Nat → Int32} {gx : Nat → Nat → Int32} (hN : c + 16 ≤ N) {h : Nat → Int32} (hh : qH s t wy h) {G : Nat} (hG : G ≤ 5) (hg : h 2 = nI G) {n : Nat} (hn : pn = nI n) (h29 : n < 29) (v : Int32) : Ct g lau yX0_addPlan wsX0_addPlan rmX0_addPlan N ad [.ref (ad c), .int (v)] (zB g ad f c s t p bc co ex rc pl pn wy gx) (pV N ad (fun u => u = (zB g ad f c s t p bc co ex rc (upd pl n (40 + h 3 - v - gw h)) (pn + 1) wy gx))) 0 0 := by
  refine Ct.of (maxL := 2) rfl (by decide +kernel) [some (.ref (ad c)), some (.int (v))] (Nat.le_of_ble_eq_true rfl) (by simp [lvo, lv_args, Value.category]) (fun E hnl _ hC hR => ?_)
  have e3 := hh.1 3 (by decide)
  refine V_aload_n hC dX0_addPlan_0 rfl rfl ?_
  refine V_B_planCount hC hN dX0_addPlan_1 inX0_X0_addPlan (by decide +kernel) ?_
  refine V_bipush hC 32 dX0_addPlan_4 (by decide) ?_
  refine V_icmp_ge_f (tgt := 44) hC dX0_addPlan_6 (by decide) (by rw [hn]; exact nI_ge (b := 32) (by omega) (by decide)) ?_
  refine V_aload_n hC dX0_addPlan_9 rfl rfl ?_
  refine V_B_plans hC hN dX0_addPlan_10 inX0_X0_addPlan (by decide +kernel) ?_
  refine V_aload_n hC dX0_addPlan_13 rfl rfl ?_
  refine V_B_planCount hC hN dX0_addPlan_14 inX0_X0_addPlan (by decide +kernel) ?_
  refine V_bipush hC 40 dX0_addPlan_17 (by decide) ?_
  refine V_aload_n hC dX0_addPlan_19 rfl rfl ?_
  refine V_B_settings hC hN dX0_addPlan_20 inX0_X0_addPlan (by decide +kernel) ?_
  refine V_iconst hC 3 dX0_addPlan_23 (by decide) ?_
  refine V_B_ld1 hC hN (k := 3) dX0_addPlan_24 (ix_c (by decide)) ?_
  refine V_iadd hC dX0_addPlan_25 ?_
  refine V_eqt (40 + h 3) (by rw [e3]) ?_
  refine V_iload_n hC dX0_addPlan_26 rfl rfl ?_
  refine V_isub hC dX0_addPlan_27 ?_
  refine V_aload_n hC dX0_addPlan_28 rfl rfl ?_
  refine V_cvI (n := 0) hC (c_X0_guessedWay g (eL E) hN hh hG hg) dX0_addPlan_29 gX0_addPlan_X0_guessedWay rfl rfl rfl ⟨rfl, rfl⟩ (by decide +kernel) (by decide +kernel) (by omega) zB_0 rfl (Nat.le_of_ble_eq_true rfl) (by decide) (fun x29 u29 h29 => ?_)
  obtain ⟨rfl, rfl⟩ := h29
  refine V_isub hC dX0_addPlan_32 ?_
  refine V_B_st6 hC hN dX0_addPlan_33 (ix_of (j := n) hn (by omega) (by decide)) ?_
  refine V_aload_n hC dX0_addPlan_34 rfl rfl ?_
  refine V_dup hC dX0_addPlan_35 rfl ?_
  refine V_B_planCount hC hN dX0_addPlan_36 inX0_X0_addPlan (by decide +kernel) ?_
  refine V_iconst hC 1 dX0_addPlan_39 (by decide) ?_
  refine V_iadd hC dX0_addPlan_40 ?_
  refine V_B_put_planCount hC hN dX0_addPlan_41 inX0_X0_addPlan (by decide +kernel) ?_
  refine V_vret hC hR dX0_addPlan_44 ⟨rfl, rfl, rfl, ?_⟩
  exact rfl
theorem inX0_X0_takeReports : ∀ w ∈ wsX00, w ∈ wsX0_takeReports := by decide +kernel
abbrev rmX0_takeReports : Room := { frames := 2, cells := 0, slots := 0, locals := 43 }
set_option maxHeartbeats 4000000 in
set_option maxRecDepth 100000 in
theorem c_X0_takeReports (g : GE) (lau : Launch) {N : Nat} {ad : Nat → Nat} {f : Nat → va_E} {c : Nat} {s t : Nat → Int32} {p : Nat → Nat} {bc : Int32} {co ex : Nat → Int32} {rc : Int32} {pl : Nat → Int32} {pn : Int32} {wy : Nat → Int32} {gx : Nat → Nat → Int32} (hN : c + 16 ≤ N) {h : Nat → Int32} {bs : List (Nat → Int32)} {rs : List (Int32 × Int32)} {ps : List Int32} (hh : qH s t wy h) (hx : qX p gx bc bs) (hr : qR co ex rc rs) (hp : qP pl pn ps) {G : Nat} (hG : G ≤ 5) (hg : h 2 = nI G) (hlen : rs.length + ps.length ≤ 28) : Ct g lau yX0_takeReports wsX0_takeReports rmX0_takeReports N ad [.ref (ad c)] (zB g ad f c s t p bc co ex rc pl pn wy gx) (pV N ad (fun u => BIs g ad f c (mTake (h, bs, rs, ps)) u)) 0 0 := by
  refine Ct.of (maxL := 3) rfl (by decide +kernel) [some (.ref (ad c)), none, none] (Nat.le_of_ble_eq_true rfl) (by simp [lvo, lv_args, Value.category]) (fun E hnl _ hC hR => ?_)
  obtain ⟨ps00, hps00⟩ : ∃ z, z = ps := ⟨_, rfl⟩
  have hB : ∀ u, BIs g ad f c (mTake (h, bs, rs, ps00)) u → BIs g ad f c (mTake (h, bs, rs, ps)) u := fun u q => hps00 ▸ q
  obtain ⟨tg, htg⟩ : ∃ z, z = ps00 ++ (rs.filter (isDue h)).map (mkPlan h) := ⟨_, rfl⟩
  have hrc := hr.1
  have h28 := hr.2.1
  have loop : ∀ (r K : List (Int32 × Int32)) (i : Nat) (co ex pl : Nat → Int32) (pn : Int32) (ps : List Int32), i + r.length = rs.length → K.length ≤ i → K ++ r.filter (fun q => !isDue h q) = rs.filter (fun q => !isDue h q) → ps ++ (r.filter (isDue h)).map (mkPlan h) = tg → r.length + ps.length ≤ 28 → two Prod.fst co K r i → two Prod.snd ex K r i → qP pl pn ps → V E g N ad 0 0 (zB g ad f c s t p bc co ex rc pl pn wy gx) 4 [some (.ref (ad c)), some (.int (nI K.length)), some (.int (nI i))] [] := by
    intro r
    induction r with
    | nil =>
      intro K i co ex pl pn ps hi hk ht hq hn h1 h2 hp
      refine V_iload_n hC dX0_takeReports_4 rfl rfl ?_
      refine V_aload_n hC dX0_takeReports_5 rfl rfl ?_
      refine V_B_reportCount hC hN dX0_takeReports_6 inX0_X0_takeReports (by decide +kernel) ?_
      refine V_icmp_ge_t hC 73 dX0_takeReports_9 (by decide) (by rw [hrc, ← hi]; exact nI_le (Nat.le_refl _) (by simp at hi ⊢; omega)) ?_
      refine V_aload_n hC dX0_takeReports_73 rfl rfl ?_
      refine V_iload_n hC dX0_takeReports_74 rfl rfl ?_
      refine V_B_put_reportCount hC hN dX0_takeReports_75 inX0_X0_takeReports (by decide +kernel) ?_
      refine V_vret hC hR dX0_takeReports_78 ⟨rfl, rfl, rfl, ?_⟩
      simp only [List.filter_nil, List.map_nil, List.append_nil] at ht hq
      refine hB _ (BIs.mk ⟨hh, hx, ?_, ?_⟩)
      · show qR co ex _ (rs.filter (fun q => !isDue h q))
        rw [← ht]
        exact ⟨rfl, by simp at hi; omega, fun j q hq => ⟨h1.1 j q hq, h2.1 j q hq⟩⟩
      · have q := hp
        rw [hq.trans htg] at q
        exact q
    | cons x r ih =>
      intro K i co ex pl pn ps hi hk ht hq hn h1 h2 hp
      simp only [List.length_cons] at hi hn
      have e8 := hh.2.1 0 (by decide) (by decide) (by decide) (by decide)
      have ec := h1.hd
      have ee := h2.hd
      refine V_iload_n hC dX0_takeReports_4 rfl rfl ?_
      refine V_aload_n hC dX0_takeReports_5 rfl rfl ?_
      refine V_B_reportCount hC hN dX0_takeReports_6 inX0_X0_takeReports (by decide +kernel) ?_
      refine V_icmp_ge_f (tgt := 73) hC dX0_takeReports_9 (by decide) (by rw [hrc]; exact nI_ge (by omega) (by omega)) ?_
      refine V_aload_n hC dX0_takeReports_12 rfl rfl ?_
      refine V_B_comes hC hN dX0_takeReports_13 inX0_X0_takeReports (by decide +kernel) ?_
      refine V_iload_n hC dX0_takeReports_16 rfl rfl ?_
      refine V_B_ld4 hC hN dX0_takeReports_17 (ix_nI (j := i) (by omega) (by decide)) ?_
      refine V_aload_n hC dX0_takeReports_18 rfl rfl ?_
      refine V_B_tallies hC hN dX0_takeReports_19 inX0_X0_takeReports (by decide +kernel) ?_
      refine V_iconst hC 0 dX0_takeReports_22 (by decide) ?_
      refine V_B_ld2 hC hN (k := 0) dX0_takeReports_23 (ix_c (by decide)) ?_
      refine V_icmp_gt hC 40 dX0_takeReports_24 (by decide) (fun c24 => ?_) (fun c24 => ?_)
      · have hu : isDue h x = false := by rw [ec, e8] at c24; simp [isDue]; exact c24
        refine V_aload_n hC dX0_takeReports_40 rfl rfl ?_
        refine V_B_comes hC hN dX0_takeReports_41 inX0_X0_takeReports (by decide +kernel) ?_
        refine V_iload_n hC dX0_takeReports_44 rfl rfl ?_
        refine V_aload_n hC dX0_takeReports_45 rfl rfl ?_
        refine V_B_comes hC hN dX0_takeReports_46 inX0_X0_takeReports (by decide +kernel) ?_
        refine V_iload_n hC dX0_takeReports_49 rfl rfl ?_
        refine V_B_ld4 hC hN dX0_takeReports_50 (ix_nI (j := i) (by omega) (by decide)) ?_
        refine V_B_st4 hC hN dX0_takeReports_51 (ix_nI (j := K.length) (by omega) (by decide)) ?_
        refine V_aload_n hC dX0_takeReports_52 rfl rfl ?_
        refine V_B_excesses hC hN dX0_takeReports_53 inX0_X0_takeReports (by decide +kernel) ?_
        refine V_iload_n hC dX0_takeReports_56 rfl rfl ?_
        refine V_aload_n hC dX0_takeReports_57 rfl rfl ?_
        refine V_B_excesses hC hN dX0_takeReports_58 inX0_X0_takeReports (by decide +kernel) ?_
        refine V_iload_n hC dX0_takeReports_61 rfl rfl ?_
        refine V_B_ld5 hC hN dX0_takeReports_62 (ix_nI (j := i) (by omega) (by decide)) ?_
        refine V_B_st5 hC hN dX0_takeReports_63 (ix_nI (j := K.length) (by omega) (by decide)) ?_
        refine V_iinc1 hC (nI (K ++ [x]).length) dX0_takeReports_64 len_s (by rw [hnl]; decide) rfl ?_
        refine V_iinc2 hC (nI (i + 1)) dX0_takeReports_67 (nI_1 i) (by rw [hnl]; decide) rfl ?_
        refine V_goto hC 4 dX0_takeReports_70 (by decide) ?_
        simp only [List.filter_cons, hu, Bool.not_false, if_true, Bool.false_eq_true, if_false] at ht hq
        exact ih (K ++ [x]) (i + 1) _ _ pl pn ps (by omega) (by simp; omega) (by rw [List.append_assoc]; exact ht) hq (by omega) (h1.keep hk ec) (h2.keep hk ee) hp
      · have hu : isDue h x = true := by rw [ec, e8] at c24; simp [isDue]; exact Int32.not_lt.mp c24
        refine V_aload_n hC dX0_takeReports_27 rfl rfl ?_
        refine V_aload_n hC dX0_takeReports_28 rfl rfl ?_
        refine V_B_excesses hC hN dX0_takeReports_29 inX0_X0_takeReports (by decide +kernel) ?_
        refine V_iload_n hC dX0_takeReports_32 rfl rfl ?_
        refine V_B_ld5 hC hN dX0_takeReports_33 (ix_nI (j := i) (by omega) (by decide)) ?_
        refine V_cvV (n := 1) hC (c_X0_addPlan g (eL E) hN hh hG hg hp.1 (by omega) _) dX0_takeReports_34 gX0_takeReports_X0_addPlan rfl rfl rfl ⟨rfl, rfl⟩ (by decide +kernel) (by decide +kernel) (by omega) zB_0 rfl (Nat.le_of_ble_eq_true rfl) (by decide) (fun u34 h34 => ?_)
        obtain rfl := h34
        refine V_goto hC 67 dX0_takeReports_37 (by decide) ?_
        refine V_iinc2 hC (nI (i + 1)) dX0_takeReports_67 (nI_1 i) (by rw [hnl]; decide) rfl ?_
        refine V_goto hC 4 dX0_takeReports_70 (by decide) ?_
        simp only [List.filter_cons, hu, Bool.not_true, if_true, Bool.false_eq_true, if_false, List.map_cons] at ht hq
        have ev : 40 + h 3 - ex i - gw h = mkPlan h x := by rw [ee]; rfl
        refine ih K (i + 1) co ex _ _ (ps ++ [mkPlan h x]) (by omega) (by omega) ht (by rw [List.append_assoc]; exact hq) (by rw [List.length_append]; simp only [List.length_singleton]; omega) h1.skip h2.skip ?_
        rw [ev]
        exact hp.push (by omega) _
  refine V_iconst hC 0 dX0_takeReports_0 (by decide) ?_
  refine V_istore_n1 hC dX0_takeReports_1 rfl (by rw [hnl]; decide) rfl ?_
  refine V_iconst hC 0 dX0_takeReports_2 (by decide) ?_
  refine V_istore_n2 hC dX0_takeReports_3 rfl (by rw [hnl]; decide) rfl ?_
  exact loop rs [] 0 co ex pl pn ps (by omega) (Nat.le_refl _) rfl (by rw [htg, hps00]) hlen ⟨fun j q hq => by simp at hq, fun j q hq => by rw [Nat.zero_add]; exact (hr.2.2 j q hq).1⟩ ⟨fun j q hq => by simp at hq, fun j q hq => by rw [Nat.zero_add]; exact (hr.2.2 j q hq).2⟩ hp
end
section
theorem up_uu {α : Type} {f : Nat → α} {i : Nat} {a b : α} : va_up (va_up f i a) i b = va_up f i b := by
  funext j
  unfold va_up
  split <;> rfl
theorem sub60 {x : Int32} (h : 60 ≤ x) : ¬ x - 60 = -6 := by
  intro e
  have e2 : x = -6 + 60 := by rw [← e, Int32.sub_add_cancel]
  subst e2
  exact absurd h (by decide)
theorem i_sub {a b : Int32} (h1 : -2147483648 ≤ a.toInt - b.toInt) (h2 : a.toInt - b.toInt ≤ 2147483647) : (a - b).toInt = a.toInt - b.toInt := by
  rw [Int32.toInt_sub]
  exact Int.bmod_eq_of_le (by omega) (by omega)
theorem i_add {a b : Int32} (h1 : -2147483648 ≤ a.toInt + b.toInt) (h2 : a.toInt + b.toInt ≤ 2147483647) : (a + b).toInt = a.toInt + b.toInt := by
  rw [Int32.toInt_add]
  exact Int.bmod_eq_of_le (by omega) (by omega)
theorem i_neg {a : Int32} (h1 : -2147483648 < a.toInt) : (-a).toInt = - a.toInt := by
  rw [Int32.toInt_neg]
  have := a.toInt_lt
  exact Int.bmod_eq_of_le (by omega) (by omega)
theorem abs_in {d w : Int32} (hd : -1000 ≤ d.toInt) (hw : 0 ≤ w.toInt ∧ w.toInt ≤ 9) : ¬ w < (if 0 ≤ d then d else 0 - d) ↔ (-w ≤ d ∧ d ≤ w) := by
  have e0 : (0 : Int32).toInt = 0 := rfl
  have l := d.toInt_lt
  simp only [Int32.lt_iff_toInt_lt, Int32.le_iff_toInt_le, e0]
  rw [i_neg (by omega)]
  split
  · omega
  · rw [i_sub (by omega) (by omega)]
    omega
/-- the marks of the boxes, the place and the nearness are as they can be -/
def MarkOK (m : MT) : Prop := (0 ≤ (m.1 3).toInt ∧ (m.1 3).toInt ≤ 20) ∧ (0 ≤ (m.1 7).toInt ∧ (m.1 7).toInt ≤ 9) ∧ ∀ x ∈ m.2.1, x 3 = -6 ∨ 0 ≤ (x 3).toInt
theorem isX.mark {y x : Nat → Int32} (q : isX y x) (hu : isUnder x = true) : (y 3 = 0 → isX (upd (upd y 3 1) 4 (y 0 - 60)) (xMark x)) ∧ (y 3 = 1 → isX (upd (upd (upd y 5 1) 3 1) 4 (y 0 - 60)) (xMark x)) := by
  obtain ⟨e0, e1, e2, e5, e6, e3, hb2, hb4⟩ := q
  have h60 : ¬ x 0 - 60 = -6 := sub60 (by simp [isUnder] at hu; exact hu.1)
  refine ⟨fun h => ?_, fun h => ?_⟩
  · have h3 : x 3 = -6 := by
      rcases e3 with ⟨-, k⟩ | ⟨k, -⟩
      · exact k
      · rw [h] at k; exact absurd k (by decide)
    unfold xMark
    rw [if_pos h3]
    exact ⟨e0, e1, e2, e5, e6, Or.inr ⟨rfl, by show y 0 - 60 = x 0 - 60; rw [e0], h60⟩, hb2, hb4⟩
  · have h3 : ¬ x 3 = -6 := by
      rcases e3 with ⟨k, -⟩ | ⟨-, -, k⟩
      · rw [h] at k; exact absurd k (by decide)
      · exact k
    unfold xMark
    rw [if_neg h3]
    exact ⟨e0, e1, e2, rfl, e6, Or.inr ⟨rfl, by show y 0 - 60 = x 0 - 60; rw [e0], h60⟩, hb2, Or.inr rfl⟩
theorem isX.m3 {y x : Nat → Int32} (q : isX y x) : (x 3 = -6 ∧ y 3 = 0) ∨ (¬ x 3 = -6 ∧ y 3 = 1 ∧ y 4 = x 3) := by
  rcases q.2.2.2.2.2.1 with ⟨a, b⟩ | ⟨a, b, d⟩
  · exact Or.inl ⟨b, a⟩
  · exact Or.inr ⟨d, a, b⟩
theorem inX0_X0_markBox : ∀ w ∈ wsX00, w ∈ wsX0_markBox := by decide +kernel
theorem inX1_X0_markBox : ∀ w ∈ wsX10, w ∈ wsX0_markBox := by decide +kernel
abbrev rmX0_markBox : Room := { frames := 0, cells := 0, slots := 0, locals := 0 }
set_option maxHeartbeats 4000000 in
set_option maxRecDepth 100000 in
theorem c_X0_markBox (g : GE) (lau : Launch) {N : Nat} {ad : Nat → Nat} {f : Nat → va_E} {c : Nat} {s t : Nat → Int32} {p : Nat → Nat} {bc : Int32} {co ex : Nat → Int32} {rc : Int32} {pl : Nat → Int32} {pn : Int32} {wy : Nat → Int32} {gx : Nat → Nat → Int32} (hN : c + 16 ≤ N) {h : Nat → Int32} (hh : qH s t wy h) {q : Nat} (hq : q < 8) {x : Nat → Int32} (hy : isX (gx q) x) (hu : isUnder x = true) : Ct g lau yX0_markBox wsX0_markBox rmX0_markBox N ad [.ref (ad c), .ref (ad (c + 8 + q))] (zB g ad f c s t p bc co ex rc pl pn wy gx) (pV N ad (fun u => ∃ t2 y2, u = (zB g ad f c s t2 p bc co ex rc pl pn wy (va_up gx q y2)) ∧ qH s t2 wy (hMarked h x) ∧ isX y2 (xMark x))) 0 0 := by
  refine Ct.of (maxL := 2) rfl (by decide +kernel) [some (.ref (ad c)), some (.ref (ad (c + 8 + q)))] (Nat.le_of_ble_eq_true rfl) (by simp [lvo, lv_args, Value.category]) (fun E hnl _ hC hR => ?_)
  have e6 := hh.2.1 6 (by decide) (by decide) (by decide) (by decide)
  have e8 := hh.2.1 8 (by decide) (by decide) (by decide) (by decide)
  refine V_aload_n hC dX0_markBox_0 rfl rfl ?_
  refine V_B_tallies hC hN dX0_markBox_1 inX0_X0_markBox (by decide +kernel) ?_
  refine V_bipush hC 6 dX0_markBox_4 (by decide) ?_
  refine V_dup2 hC dX0_markBox_6 rfl rfl ?_
  refine V_B_ld2 hC hN (k := 6) dX0_markBox_7 (ix_c (by decide)) ?_
  refine V_iconst hC 1 dX0_markBox_8 (by decide) ?_
  refine V_iadd hC dX0_markBox_9 ?_
  refine V_B_st2 (k := 6) hC hN dX0_markBox_10 (ix_c (by decide)) ?_
  refine V_aload_n hC dX0_markBox_11 rfl rfl ?_
  refine V_X_marked hC (by omega) (zB_box hq) dX0_markBox_12 inX1_X0_markBox (by decide +kernel) ?_
  refine V_if_eq hC 34 dX0_markBox_15 (by decide) (fun c15 => ?_) (fun c15 => ?_)
  · have e3 : x 3 = -6 := by
      rcases hy.m3 with k | k
      · exact k.1
      · rw [k.2.1] at c15; exact absurd c15 (by decide)
    refine V_aload_n hC dX0_markBox_34 rfl rfl ?_
    refine V_iconst hC 1 dX0_markBox_35 (by decide) ?_
    refine V_X_put_marked hC (by omega) (zB_box hq) (Or.inr rfl) dX0_markBox_36 inX1_X0_markBox (by decide +kernel) ?_
    first | (refine V_f (zB_ubox hq) ?_; refine V_f (by rw [va_up_self, up_uu]) ?_) | (refine V_f (zB_ubox hq) ?_)
    refine V_aload_n hC dX0_markBox_39 rfl rfl ?_
    refine V_aload_n hC dX0_markBox_40 rfl rfl ?_
    refine V_X_front hC (by omega) (zB_box hq) dX0_markBox_41 inX1_X0_markBox (by decide +kernel) ?_
    refine V_eqt (gx q 0) (by rw [va_up_self]; rfl) ?_
    refine V_bipush hC 60 dX0_markBox_44 (by decide) ?_
    refine V_isub hC dX0_markBox_46 ?_
    refine V_X_put_mark hC (by omega) (zB_box hq) dX0_markBox_47 inX1_X0_markBox (by decide +kernel) ?_
    refine V_f (zB_ubox hq) ?_
    refine V_f (by rw [va_up_self, up_uu]) ?_
    refine V_vret hC hR dX0_markBox_50 ⟨rfl, rfl, rfl, ?_⟩
    refine ⟨_, _, rfl, ?_, ?_⟩
    · unfold hMarked
      first | (rw [if_pos e3, ← e6]; exact hh.t (k := 6) (by decide)) | (rw [if_neg e3, ← e6, ← e8]; exact (hh.t (k := 6) (by decide)).t (k := 8) (by decide))
    · first | exact (hy.mark hu).1 c15 | exact (hy.mark hu).2 (by rcases hy.m3 with k | k; exact absurd k.2 c15; exact k.2.1)
  · have e3 : ¬ x 3 = -6 := by
      rcases hy.m3 with k | k
      · exact absurd k.2 c15
      · exact k.1
    refine V_aload_n hC dX0_markBox_18 rfl rfl ?_
    refine V_iconst hC 1 dX0_markBox_19 (by decide) ?_
    refine V_X_put_twice hC (by omega) (zB_box hq) (Or.inr rfl) dX0_markBox_20 inX1_X0_markBox (by decide +kernel) ?_
    refine V_f (zB_ubox hq) ?_
    refine V_aload_n hC dX0_markBox_23 rfl rfl ?_
    refine V_B_tallies hC hN dX0_markBox_24 inX0_X0_markBox (by decide +kernel) ?_
    refine V_bipush hC 8 dX0_markBox_27 (by decide) ?_
    refine V_dup2 hC dX0_markBox_29 rfl rfl ?_
    refine V_B_ld2 hC hN (k := 8) dX0_markBox_30 (ix_c (by decide)) ?_
    refine V_iconst hC 1 dX0_markBox_31 (by decide) ?_
    refine V_iadd hC dX0_markBox_32 ?_
    refine V_B_st2 (k := 8) hC hN dX0_markBox_33 (ix_c (by decide)) ?_
    refine V_aload_n hC dX0_markBox_34 rfl rfl ?_
    refine V_iconst hC 1 dX0_markBox_35 (by decide) ?_
    refine V_X_put_marked hC (by omega) (zB_box hq) (Or.inr rfl) dX0_markBox_36 inX1_X0_markBox (by decide +kernel) ?_
    first | (refine V_f (zB_ubox hq) ?_; refine V_f (by rw [va_up_self, up_uu]) ?_) | (refine V_f (zB_ubox hq) ?_)
    refine V_aload_n hC dX0_markBox_39 rfl rfl ?_
    refine V_aload_n hC dX0_markBox_40 rfl rfl ?_
    refine V_X_front hC (by omega) (zB_box hq) dX0_markBox_41 inX1_X0_markBox (by decide +kernel) ?_
    refine V_eqt (gx q 0) (by rw [va_up_self]; rfl) ?_
    refine V_bipush hC 60 dX0_markBox_44 (by decide) ?_
    refine V_isub hC dX0_markBox_46 ?_
    refine V_X_put_mark hC (by omega) (zB_box hq) dX0_markBox_47 inX1_X0_markBox (by decide +kernel) ?_
    refine V_f (zB_ubox hq) ?_
    refine V_f (by rw [va_up_self, up_uu]) ?_
    refine V_vret hC hR dX0_markBox_50 ⟨rfl, rfl, rfl, ?_⟩
    refine ⟨_, _, rfl, ?_, ?_⟩
    · unfold hMarked
      first | (rw [if_pos e3, ← e6]; exact hh.t (k := 6) (by decide)) | (rw [if_neg e3, ← e6, ← e8]; exact (hh.t (k := 6) (by decide)).t (k := 8) (by decide))
    · first | exact (hy.mark hu).1 c15 | exact (hy.mark hu).2 (by rcases hy.m3 with k | k; exact absurd k.2 c15; exact k.2.1)
theorem inX0_X0_useLabel : ∀ w ∈ wsX00, w ∈ wsX0_useLabel := by decide +kernel
theorem inX1_X0_useLabel : ∀ w ∈ wsX10, w ∈ wsX0_useLabel := by decide +kernel
abbrev rmX0_useLabel : Room := { frames := 1, cells := 0, slots := 0, locals := 21 }
set_option maxHeartbeats 4000000 in
set_option maxRecDepth 100000 in
theorem c_X0_useLabel (g : GE) (lau : Launch) {N : Nat} {ad : Nat → Nat} {f : Nat → va_E} {c : Nat} {s t : Nat → Int32} {p : Nat → Nat} {bc : Int32} {co ex : Nat → Int32} {rc : Int32} {pl : Nat → Int32} {pn : Int32} {wy : Nat → Int32} {gx : Nat → Nat → Int32} (hN : c + 16 ≤ N) {h : Nat → Int32} {bs : List (Nat → Int32)} (hh : qH s t wy h) (hx : qX p gx bc bs) : Ct g lau yX0_useLabel wsX0_useLabel rmX0_useLabel N ad [.ref (ad c)] (zB g ad f c s t p bc co ex rc pl pn wy gx) (pV N ad (fun u => ∃ t2 gx2, u = (zB g ad f c s t2 p bc co ex rc pl pn wy gx2) ∧ qH s t2 wy (mMark (h, bs)).1 ∧ qX p gx2 bc (mMark (h, bs)).2)) 0 0 := by
  refine Ct.of (maxL := 2) rfl (by decide +kernel) [some (.ref (ad c)), none] (Nat.le_of_ble_eq_true rfl) (by simp [lvo, lv_args, Value.category]) (fun E hnl _ hC hR => ?_)
  have e10 := hh.2.1 10 (by decide) (by decide) (by decide) (by decide)
  have e9 := hh.2.1 9 (by decide) (by decide) (by decide) (by decide)
  have e4 := hh.1 4 (by decide)
  have hh1 : qH s (upd t 10 (t 10 - s 4)) wy (hTaken h) := by
    rw [e10, e4]
    exact hh.t (k := 10) (by decide)
  have e7 := hh1.2.1 7 (by decide) (by decide) (by decide) (by decide)
  have loop : ∀ (r d : List (Nat → Int32)), d ++ r = bs → (∀ z ∈ d, isUnder z = false) → ¬ h 18 < h 4 → V E g N ad 0 0 (zB g ad f c s (upd t 10 (t 10 - s 4)) p bc co ex rc pl pn wy gx) 46 [some (.ref (ad c)), some (.int (nI d.length))] [] := by
    intro r
    induction r with
    | nil =>
      intro d hd hz hlt4
      refine V_iload_n hC dX0_useLabel_46 rfl rfl ?_
      refine V_aload_n hC dX0_useLabel_47 rfl rfl ?_
      refine V_B_boxCount hC hN dX0_useLabel_48 inX0_X0_useLabel (by decide +kernel) ?_
      refine V_icmp_ge_t hC 85 dX0_useLabel_51 (by decide) (by rw [hx.1, ← hd]; simp only [List.append_nil]; exact Int32.le_refl _) ?_
      refine V_aload_n hC dX0_useLabel_85 rfl rfl ?_
      refine V_B_tallies hC hN dX0_useLabel_86 inX0_X0_useLabel (by decide +kernel) ?_
      refine V_bipush hC 7 dX0_useLabel_89 (by decide) ?_
      refine V_dup2 hC dX0_useLabel_91 rfl rfl ?_
      refine V_B_ld2 hC hN (k := 7) dX0_useLabel_92 (ix_c (by decide)) ?_
      refine V_iconst hC 1 dX0_useLabel_93 (by decide) ?_
      refine V_iadd hC dX0_useLabel_94 ?_
      refine V_B_st2 (k := 7) hC hN dX0_useLabel_95 (ix_c (by decide)) ?_
      refine V_vret hC hR dX0_useLabel_96 ⟨rfl, rfl, rfl, ?_⟩
      rw [List.append_nil] at hd
      subst hd
      have q : mMark (h, d) = (upd (hTaken h) 15 (h 15 + 1), d) := by unfold mMark; rw [if_neg hlt4, find_non hz]
      rw [q]
      refine ⟨_, _, rfl, ?_, hx⟩
      rw [e7]
      exact hh1.t (k := 7) (by decide)
    | cons x r ih =>
      intro d hd hz hlt4
      have hx2 := hx
      rw [← hd] at hx2
      have hlt := hx2.lt
      have hpl := hx2.p8 hlt
      have e := hx2.get
      refine V_iload_n hC dX0_useLabel_46 rfl rfl ?_
      refine V_aload_n hC dX0_useLabel_47 rfl rfl ?_
      refine V_B_boxCount hC hN dX0_useLabel_48 inX0_X0_useLabel (by decide +kernel) ?_
      refine V_icmp_ge_f (tgt := 85) hC dX0_useLabel_51 (by decide) (by rw [hx2.1]; exact nI_ge (by simp) (by have := hx2.2.1; omega)) ?_
      refine V_aload_n hC dX0_useLabel_54 rfl rfl ?_
      refine V_B_boxes hC hN dX0_useLabel_55 inX0_X0_useLabel (by decide +kernel) ?_
      refine V_iload_n hC dX0_useLabel_58 rfl rfl ?_
      refine V_B_ld3 hC hN dX0_useLabel_59 (ix_nI (j := d.length) hlt (by decide)) ?_
      refine V_bipush hC 60 dX0_useLabel_60 (by decide) ?_
      refine V_cvI (n := 1) hC (c_X1_liesUnder g (eL E) (i := c + 8 + p d.length) (by omega) (zB_box hpl) 60) dX0_useLabel_62 gX0_useLabel_X1_liesUnder rfl rfl rfl ⟨rfl, rfl⟩ (by decide +kernel) (by decide +kernel) (by omega) (zB_box hpl) rfl (Nat.le_of_ble_eq_true rfl) (by decide) (fun x62 u62 h62 => ?_)
      rcases h62 with ⟨rfl, hj, rfl⟩ | ⟨rfl, hj, rfl⟩
      · have hu : isUnder x = true := by rw [e.1, e.2.1] at hj; simp [isUnder, hj.1, hj.2]
        refine V_if_eq_f (tgt := 79) hC dX0_useLabel_65 (by decide) (by decide) ?_
        refine V_aload_n hC dX0_useLabel_68 rfl rfl ?_
        refine V_aload_n hC dX0_useLabel_69 rfl rfl ?_
        refine V_B_boxes hC hN dX0_useLabel_70 inX0_X0_useLabel (by decide +kernel) ?_
        refine V_iload_n hC dX0_useLabel_73 rfl rfl ?_
        refine V_B_ld3 hC hN dX0_useLabel_74 (ix_nI (j := d.length) hlt (by decide)) ?_
        refine V_cvV (n := 1) hC (c_X0_markBox g (eL E) hN hh1 hpl e hu) dX0_useLabel_75 gX0_useLabel_X0_markBox rfl rfl rfl ⟨rfl, rfl⟩ (by decide +kernel) (by decide +kernel) (by omega) zB_0 rfl (Nat.le_of_ble_eq_true rfl) (by decide) (fun u75 h75 => ?_)
        obtain ⟨t2, y2, rfl, k1, k2⟩ := h75
        refine V_vret hC hR dX0_useLabel_78 ⟨rfl, rfl, rfl, ?_⟩
        have q : mMark (h, bs) = (hMarked (hTaken h) x, d ++ xMark x :: r) := by rw [← hd]; unfold mMark; rw [if_neg hlt4, find_cut hz hu, bMark_cut hz hu]
        rw [q]
        exact ⟨_, _, rfl, k1, hx2.set k2⟩
      · have hu : isUnder x = false := by rw [e.1, e.2.1] at hj; rw [← Bool.not_eq_true]; intro q; simp [isUnder] at q; exact hj q
        refine V_if_eq_t hC 79 dX0_useLabel_65 (by decide) rfl ?_
        refine V_iinc1 hC (nI (d ++ [x]).length) dX0_useLabel_79 len_s (by rw [hnl]; decide) rfl ?_
        refine V_goto hC 46 dX0_useLabel_82 (by decide) ?_
        exact ih (d ++ [x]) (by rw [List.append_assoc]; exact hd) (fun z hz2 => by rcases List.mem_append.mp hz2 with k | k; exact hz z k; rw [List.mem_singleton.mp k]; exact hu) hlt4
  refine V_aload_n hC dX0_useLabel_0 rfl rfl ?_
  refine V_B_tallies hC hN dX0_useLabel_1 inX0_X0_useLabel (by decide +kernel) ?_
  refine V_bipush hC 10 dX0_useLabel_4 (by decide) ?_
  refine V_B_ld2 hC hN (k := 10) dX0_useLabel_6 (ix_c (by decide)) ?_
  refine V_aload_n hC dX0_useLabel_7 rfl rfl ?_
  refine V_B_settings hC hN dX0_useLabel_8 inX0_X0_useLabel (by decide +kernel) ?_
  refine V_iconst hC 4 dX0_useLabel_11 (by decide) ?_
  refine V_B_ld1 hC hN (k := 4) dX0_useLabel_12 (ix_c (by decide)) ?_
  refine V_icmp_ge hC 28 dX0_useLabel_13 (by decide) (fun c13 => ?_) (fun c13 => ?_)
  · have hl : ¬ h 18 < h 4 := by rw [e10, e4] at c13; exact Int32.not_lt.mpr c13
    refine V_aload_n hC dX0_useLabel_28 rfl rfl ?_
    refine V_B_tallies hC hN dX0_useLabel_29 inX0_X0_useLabel (by decide +kernel) ?_
    refine V_bipush hC 10 dX0_useLabel_32 (by decide) ?_
    refine V_dup2 hC dX0_useLabel_34 rfl rfl ?_
    refine V_B_ld2 hC hN (k := 10) dX0_useLabel_35 (ix_c (by decide)) ?_
    refine V_aload_n hC dX0_useLabel_36 rfl rfl ?_
    refine V_B_settings hC hN dX0_useLabel_37 inX0_X0_useLabel (by decide +kernel) ?_
    refine V_iconst hC 4 dX0_useLabel_40 (by decide) ?_
    refine V_B_ld1 hC hN (k := 4) dX0_useLabel_41 (ix_c (by decide)) ?_
    refine V_isub hC dX0_useLabel_42 ?_
    refine V_B_st2 (k := 10) hC hN dX0_useLabel_43 (ix_c (by decide)) ?_
    refine V_iconst hC 0 dX0_useLabel_44 (by decide) ?_
    refine V_istore_n1 hC dX0_useLabel_45 rfl (by rw [hnl]; decide) rfl ?_
    exact loop bs [] rfl (fun z hz => by simp at hz) hl
  · have hl : h 18 < h 4 := by rw [e10, e4] at c13; exact Int32.not_le.mp c13
    refine V_aload_n hC dX0_useLabel_16 rfl rfl ?_
    refine V_B_tallies hC hN dX0_useLabel_17 inX0_X0_useLabel (by decide +kernel) ?_
    refine V_bipush hC 9 dX0_useLabel_20 (by decide) ?_
    refine V_dup2 hC dX0_useLabel_22 rfl rfl ?_
    refine V_B_ld2 hC hN (k := 9) dX0_useLabel_23 (ix_c (by decide)) ?_
    refine V_iconst hC 1 dX0_useLabel_24 (by decide) ?_
    refine V_iadd hC dX0_useLabel_25 ?_
    refine V_B_st2 (k := 9) hC hN dX0_useLabel_26 (ix_c (by decide)) ?_
    refine V_vret hC hR dX0_useLabel_27 ⟨rfl, rfl, rfl, ?_⟩
    have q : mMark (h, bs) = (upd h 17 (h 17 + 1), bs) := by unfold mMark; rw [if_pos hl]
    rw [q]
    refine ⟨_, _, rfl, ?_, hx⟩
    rw [e9]
    exact hh.t (k := 9) (by decide)
theorem inX0_X0_doPlans : ∀ w ∈ wsX00, w ∈ wsX0_doPlans := by decide +kernel
theorem inX1_X0_doPlans : ∀ w ∈ wsX10, w ∈ wsX0_doPlans := by decide +kernel
abbrev rmX0_doPlans : Room := { frames := 2, cells := 0, slots := 0, locals := 42 }
set_option maxHeartbeats 4000000 in
set_option maxRecDepth 100000 in
theorem c_X0_doPlans (g : GE) (lau : Launch) {N : Nat} {ad : Nat → Nat} {f : Nat → va_E} {c : Nat} {s t : Nat → Int32} {p : Nat → Nat} {bc : Int32} {co ex : Nat → Int32} {rc : Int32} {pl : Nat → Int32} {pn : Int32} {wy : Nat → Int32} {gx : Nat → Nat → Int32} (hN : c + 16 ≤ N) {h : Nat → Int32} {bs : List (Nat → Int32)} {rs : List (Int32 × Int32)} {ps : List Int32} (hh : qH s t wy h) (hx : qX p gx bc bs) (hr : qR co ex rc rs) (hp : qP pl pn ps) : Ct g lau yX0_doPlans wsX0_doPlans rmX0_doPlans N ad [.ref (ad c)] (zB g ad f c s t p bc co ex rc pl pn wy gx) (pV N ad (fun u => BIs g ad f c (mDo (h, bs, rs, ps)) u)) 0 0 := by
  refine Ct.of (maxL := 3) rfl (by decide +kernel) [some (.ref (ad c)), none, none] (Nat.le_of_ble_eq_true rfl) (by simp [lvo, lv_args, Value.category]) (fun E hnl _ hC hR => ?_)
  obtain ⟨tg, htg⟩ : ∃ z, z = ps.foldl doOne (h, bs) := ⟨_, rfl⟩
  have hpn := hp.1
  have h29 := hp.2.1
  have loop : ∀ (r K : List Int32) (i : Nat) (pl t h : Nat → Int32) (bs : List (Nat → Int32)) (gx : Nat → Nat → Int32), i + r.length = ps.length → K.length ≤ i → K ++ r.filter (fun p => !decide (p ≤ 0)) = ps.filter (fun p => !decide (p ≤ 0)) → r.foldl doOne (h, bs) = tg → two id pl K r i → qH s t wy h → qX p gx bc bs → V E g N ad 0 0 (zB g ad f c s t p bc co ex rc pl pn wy gx) 4 [some (.ref (ad c)), some (.int (nI K.length)), some (.int (nI i))] [] := by
    intro r
    induction r with
    | nil =>
      intro K i pl t h1 bs1 gx hi hk ht hq h2 hh hx
      refine V_iload_n hC dX0_doPlans_4 rfl rfl ?_
      refine V_aload_n hC dX0_doPlans_5 rfl rfl ?_
      refine V_B_planCount hC hN dX0_doPlans_6 inX0_X0_doPlans (by decide +kernel) ?_
      refine V_icmp_ge_t hC 49 dX0_doPlans_9 (by decide) (by rw [hpn, ← hi]; exact nI_le (Nat.le_refl _) (by simp at hi ⊢; omega)) ?_
      refine V_aload_n hC dX0_doPlans_49 rfl rfl ?_
      refine V_iload_n hC dX0_doPlans_50 rfl rfl ?_
      refine V_B_put_planCount hC hN dX0_doPlans_51 inX0_X0_doPlans (by decide +kernel) ?_
      refine V_vret hC hR dX0_doPlans_54 ⟨rfl, rfl, rfl, ?_⟩
      simp only [List.filter_nil, List.append_nil] at ht
      have hq2 : (h1, bs1) = ps.foldl doOne (h, bs) := hq.trans htg
      have hm : mDo (h, bs, rs, ps) = (h1, bs1, rs, K) := by
        show ((ps.foldl doOne (h, bs)).1, (ps.foldl doOne (h, bs)).2, rs, ps.filter (fun p => !decide (p ≤ 0))) = _
        rw [← hq2, ht]
      rw [hm]
      exact BIs.mk ⟨hh, hx, hr, rfl, (by show K.length ≤ 29; simp at hi; omega), fun j q hq => h2.1 j q hq⟩
    | cons x r ih =>
      intro K i pl t h1 bs1 gx hi hk ht hq h2 hh hx
      simp only [List.length_cons] at hi
      have e := h2.hd
      refine V_iload_n hC dX0_doPlans_4 rfl rfl ?_
      refine V_aload_n hC dX0_doPlans_5 rfl rfl ?_
      refine V_B_planCount hC hN dX0_doPlans_6 inX0_X0_doPlans (by decide +kernel) ?_
      refine V_icmp_ge_f (tgt := 49) hC dX0_doPlans_9 (by decide) (by rw [hpn]; exact nI_ge (by omega) (by omega)) ?_
      refine V_aload_n hC dX0_doPlans_12 rfl rfl ?_
      refine V_B_plans hC hN dX0_doPlans_13 inX0_X0_doPlans (by decide +kernel) ?_
      refine V_iload_n hC dX0_doPlans_16 rfl rfl ?_
      refine V_B_ld6 hC hN dX0_doPlans_17 (ix_nI (j := i) (by omega) (by decide)) ?_
      refine V_if_gt hC 28 dX0_doPlans_18 (by decide) (fun c18 => ?_) (fun c18 => ?_)
      · refine V_aload_n hC dX0_doPlans_28 rfl rfl ?_
        refine V_B_plans hC hN dX0_doPlans_29 inX0_X0_doPlans (by decide +kernel) ?_
        refine V_iload_n hC dX0_doPlans_32 rfl rfl ?_
        refine V_aload_n hC dX0_doPlans_33 rfl rfl ?_
        refine V_B_plans hC hN dX0_doPlans_34 inX0_X0_doPlans (by decide +kernel) ?_
        refine V_iload_n hC dX0_doPlans_37 rfl rfl ?_
        refine V_B_ld6 hC hN dX0_doPlans_38 (ix_nI (j := i) (by omega) (by decide)) ?_
        refine V_B_st6 hC hN dX0_doPlans_39 (ix_nI (j := K.length) (by omega) (by decide)) ?_
        refine V_iinc1 hC (nI (K ++ [x]).length) dX0_doPlans_40 len_s (by rw [hnl]; decide) rfl ?_
        refine V_iinc2 hC (nI (i + 1)) dX0_doPlans_43 (nI_1 i) (by rw [hnl]; decide) rfl ?_
        refine V_goto hC 4 dX0_doPlans_46 (by decide) ?_
        have hu : decide (x ≤ 0) = false := decide_eq_false (by rw [e] at c18; exact Int32.not_le.mpr c18)
        simp only [List.filter_cons, hu, Bool.not_false, if_true] at ht
        refine ih (K ++ [x]) (i + 1) _ t h1 bs1 gx (by omega) (by simp; omega) (by rw [List.append_assoc]; exact ht) ?_ (h2.keep hk e) hh hx
        rw [List.foldl_cons] at hq
        rw [show doOne (h1, bs1) x = (h1, bs1) by unfold doOne; rw [if_neg (of_decide_eq_false hu)]] at hq
        exact hq
      · refine V_aload_n hC dX0_doPlans_21 rfl rfl ?_
        refine V_cvV (n := 0) hC (c_X0_useLabel g (eL E) hN hh hx) dX0_doPlans_22 gX0_doPlans_X0_useLabel rfl rfl rfl ⟨rfl, rfl⟩ (by decide +kernel) (by decide +kernel) (by omega) zB_0 rfl (Nat.le_of_ble_eq_true rfl) (by decide) (fun u22 h22 => ?_)
        obtain ⟨t2, gx2, rfl, k1, k2⟩ := h22
        refine V_goto hC 43 dX0_doPlans_25 (by decide) ?_
        refine V_iinc2 hC (nI (i + 1)) dX0_doPlans_43 (nI_1 i) (by rw [hnl]; decide) rfl ?_
        refine V_goto hC 4 dX0_doPlans_46 (by decide) ?_
        have hu : x ≤ 0 := by rw [e] at c18; exact Int32.not_lt.mp c18
        simp only [List.filter_cons, decide_eq_true hu, Bool.not_true, Bool.false_eq_true, if_false] at ht
        refine ih K (i + 1) pl t2 _ _ gx2 (by omega) (by omega) ht ?_ h2.skip k1 k2
        rw [List.foldl_cons] at hq
        rw [show doOne (h1, bs1) x = mMark (h1, bs1) by unfold doOne; rw [if_pos hu]] at hq
        exact hq
  refine V_iconst hC 0 dX0_doPlans_0 (by decide) ?_
  refine V_istore_n1 hC dX0_doPlans_1 rfl (by rw [hnl]; decide) rfl ?_
  refine V_iconst hC 0 dX0_doPlans_2 (by decide) ?_
  refine V_istore_n2 hC dX0_doPlans_3 rfl (by rw [hnl]; decide) rfl ?_
  exact loop ps [] 0 pl t h bs gx (by omega) (Nat.le_refl _) rfl htg.symm ⟨fun j q hq => by simp at hq, fun j q hq => by rw [Nat.zero_add]; exact hp.2.2 j q hq⟩ hh hx
theorem inX0_X0_feed : ∀ w ∈ wsX00, w ∈ wsX0_feed := by decide +kernel
abbrev rmX0_feed : Room := { frames := 1, cells := 0, slots := 0, locals := 40 }
set_option maxHeartbeats 4000000 in
set_option maxRecDepth 100000 in
theorem c_X0_feed (g : GE) (lau : Launch) {N : Nat} {ad : Nat → Nat} {f : Nat → va_E} {c : Nat} {s t : Nat → Int32} {p : Nat → Nat} {bc : Int32} {co ex : Nat → Int32} {rc : Int32} {pl : Nat → Int32} {pn : Int32} {wy : Nat → Int32} {gx : Nat → Nat → Int32} (hN : c + 16 ≤ N) {h : Nat → Int32} {bs : List (Nat → Int32)} {rs : List (Int32 × Int32)} {ps : List Int32} (hh : qH s t wy h) (hx : qX p gx bc bs) (hr : qR co ex rc rs) (hp : qP pl pn ps) : Ct g lau yX0_feed wsX0_feed rmX0_feed N ad [.ref (ad c)] (zB g ad f c s t p bc co ex rc pl pn wy gx) (pV N ad (fun u => BIs g ad f c (mFeed (h, bs, rs, ps)) u)) 0 0 := by
  refine Ct.of (maxL := 1) rfl (by decide +kernel) [some (.ref (ad c))] (Nat.le_of_ble_eq_true rfl) (by simp [lvo, lv_args, Value.category]) (fun E hnl _ hC hR => ?_)
  have e10 := hh.2.1 10 (by decide) (by decide) (by decide) (by decide)
  have e6 := hh.1 6 (by decide)
  have e5 := hh.1 5 (by decide)
  refine V_aload_n hC dX0_feed_0 rfl rfl ?_
  refine V_B_tallies hC hN dX0_feed_1 inX0_X0_feed (by decide +kernel) ?_
  refine V_bipush hC 10 dX0_feed_4 (by decide) ?_
  refine V_aload_n hC dX0_feed_6 rfl rfl ?_
  refine V_B_tallies hC hN dX0_feed_7 inX0_X0_feed (by decide +kernel) ?_
  refine V_bipush hC 10 dX0_feed_10 (by decide) ?_
  refine V_B_ld2 hC hN (k := 10) dX0_feed_12 (ix_c (by decide)) ?_
  refine V_aload_n hC dX0_feed_13 rfl rfl ?_
  refine V_B_settings hC hN dX0_feed_14 inX0_X0_feed (by decide +kernel) ?_
  refine V_bipush hC 6 dX0_feed_17 (by decide) ?_
  refine V_B_ld1 hC hN (k := 6) dX0_feed_19 (ix_c (by decide)) ?_
  refine V_iadd hC dX0_feed_20 ?_
  refine V_aload_n hC dX0_feed_21 rfl rfl ?_
  refine V_B_settings hC hN dX0_feed_22 inX0_X0_feed (by decide +kernel) ?_
  refine V_iconst hC 5 dX0_feed_25 (by decide) ?_
  refine V_B_ld1 hC hN (k := 5) dX0_feed_26 (ix_c (by decide)) ?_
  refine V_min hC dX0_feed_27 (by decide +kernel) (by decide +kernel) (by decide +kernel) (by decide +kernel) (by decide) (Nat.le_of_ble_eq_true rfl) (by decide) ?_
  refine V_B_st2 (k := 10) hC hN dX0_feed_30 (ix_c (by decide)) ?_
  refine V_vret hC hR dX0_feed_31 ⟨rfl, rfl, rfl, ?_⟩
  refine BIs.mk ⟨?_, hx, hr, hp⟩
  show qH s _ wy (hFeed h)
  unfold hFeed
  rw [e10, e6, e5]
  exact hh.t (k := 10) (by decide)
theorem inX0_X0_fate : ∀ w ∈ wsX00, w ∈ wsX0_fate := by decide +kernel
theorem inX1_X0_fate : ∀ w ∈ wsX10, w ∈ wsX0_fate := by decide +kernel
abbrev rmX0_fate : Room := { frames := 1, cells := 0, slots := 0, locals := 40 }
set_option maxHeartbeats 4000000 in
set_option maxRecDepth 100000 in
theorem c_X0_fate (g : GE) (lau : Launch) {N : Nat} {ad : Nat → Nat} {f : Nat → va_E} {c : Nat} {s t : Nat → Int32} {p : Nat → Nat} {bc : Int32} {co ex : Nat → Int32} {rc : Int32} {pl : Nat → Int32} {pn : Int32} {wy : Nat → Int32} {gx : Nat → Nat → Int32} (hN : c + 16 ≤ N) {h : Nat → Int32} (hh : qH s t wy h) {q : Nat} (hq : q < 8) {x : Nat → Int32} (hy : isX (gx q) x) (hm3 : x 3 = -6 ∨ 0 ≤ (x 3).toInt) (hr3 : 0 ≤ (h 3).toInt ∧ (h 3).toInt ≤ 20) (hr7 : 0 ≤ (h 7).toInt ∧ (h 7).toInt ≤ 9) : Ct g lau yX0_fate wsX0_fate rmX0_fate N ad [.ref (ad c), .ref (ad (c + 8 + q))] (zB g ad f c s t p bc co ex rc pl pn wy gx) (pI N ad (fun x_ u => x_ = nI (fate h x - 8) ∧ u = (zB g ad f c s t p bc co ex rc pl pn wy gx))) 0 0 := by
  refine Ct.of (maxL := 3) rfl (by decide +kernel) [some (.ref (ad c)), some (.ref (ad (c + 8 + q))), none] (Nat.le_of_ble_eq_true rfl) (by simp [lvo, lv_args, Value.category]) (fun E hnl _ hC hR => ?_)
  have e3 := hh.1 3 (by decide)
  have e7 := hh.1 7 (by decide)
  refine V_aload_n hC dX0_fate_0 rfl rfl ?_
  refine V_X_marked hC (by omega) (zB_box hq) dX0_fate_1 inX1_X0_fate (by decide +kernel) ?_
  refine V_if_ne hC 9 dX0_fate_4 (by decide) (fun c4 => ?_) (fun c4 => ?_)
  · have k3 : ¬ x 3 = -6 := by
      rcases hy.m3 with k | k
      · exact absurd k.2 c4
      · exact k.1
    have k4 : gx q 4 = x 3 := by
      rcases hy.m3 with k | k
      · exact absurd k.1 k3
      · exact k.2.2
    have hx3 : 0 ≤ (x 3).toInt := by
      rcases hm3 with k | k
      · exact absurd k k3
      · exact k
    have hin : ¬ h 7 < (if 0 ≤ x 3 - h 3 then x 3 - h 3 else 0 - (x 3 - h 3)) ↔ (-(h 7) ≤ x 3 - h 3 ∧ x 3 - h 3 ≤ h 7) := abs_in (by rw [i_sub (by have := (x 3).toInt_lt; omega) (by have := (x 3).toInt_lt; omega)]; omega) hr7
    refine V_aload_n hC dX0_fate_9 rfl rfl ?_
    refine V_X_mark hC (by omega) (zB_box hq) dX0_fate_10 inX1_X0_fate (by decide +kernel) ?_
    refine V_aload_n hC dX0_fate_13 rfl rfl ?_
    refine V_B_settings hC hN dX0_fate_14 inX0_X0_fate (by decide +kernel) ?_
    refine V_iconst hC 3 dX0_fate_17 (by decide) ?_
    refine V_B_ld1 hC hN (k := 3) dX0_fate_18 (ix_c (by decide)) ?_
    refine V_isub hC dX0_fate_19 ?_
    refine V_eqt (x 3 - h 3) (by rw [e3, k4]) ?_
    refine V_abs hC dX0_fate_20 (by decide +kernel) (by decide +kernel) (by decide +kernel) (by decide +kernel) (by decide) (Nat.le_of_ble_eq_true rfl) (by decide) ?_
    refine V_aload_n hC dX0_fate_23 rfl rfl ?_
    refine V_B_settings hC hN dX0_fate_24 inX0_X0_fate (by decide +kernel) ?_
    refine V_bipush hC 7 dX0_fate_27 (by decide) ?_
    refine V_B_ld1 hC hN (k := 7) dX0_fate_29 (ix_c (by decide)) ?_
    refine V_icmp_gt hC 37 dX0_fate_30 (by decide) (fun c30 => ?_) (fun c30 => ?_)
    · have hno : ¬ (-(h 7) ≤ x 3 - h 3 ∧ x 3 - h 3 ≤ h 7) := by rw [e7] at c30; exact fun w => hin.mpr w c30
      refine V_iconst hC 0 dX0_fate_37 (by decide) ?_
      refine V_istore_n2 hC dX0_fate_38 rfl (by rw [hnl]; decide) rfl ?_
      refine V_iload_n hC dX0_fate_39 rfl rfl ?_
      refine V_if_eq_t hC 54 dX0_fate_40 (by decide) rfl ?_
      refine V_iconst hC 4 dX0_fate_54 (by decide) ?_
      refine V_iret hC hR dX0_fate_55 ⟨rfl, rfl, _, rfl, ?_⟩
      refine ⟨?_, rfl⟩
      first | (rw [show fate h x = 12 by unfold fate; rw [if_neg k3, if_neg (fun w => hno w.2)]]; rfl) | (rw [show fate h x = 12 by unfold fate; rw [if_neg k3, if_neg (fun w => c47 (hy.2.2.2.1.trans w.1))]]; rfl) | (rw [show fate h x = 11 by unfold fate; rw [if_neg k3, if_pos ⟨hy.2.2.2.1.symm.trans c47, hyes⟩]]; rfl)
    · have hyes : -(h 7) ≤ x 3 - h 3 ∧ x 3 - h 3 ≤ h 7 := by rw [e7] at c30; exact hin.mp c30
      refine V_iconst hC 1 dX0_fate_33 (by decide) ?_
      refine V_goto hC 38 dX0_fate_34 (by decide) ?_
      refine V_istore_n2 hC dX0_fate_38 rfl (by rw [hnl]; decide) rfl ?_
      refine V_iload_n hC dX0_fate_39 rfl rfl ?_
      refine V_if_eq_f (tgt := 54) hC dX0_fate_40 (by decide) (by decide) ?_
      refine V_aload_n hC dX0_fate_43 rfl rfl ?_
      refine V_X_twice hC (by omega) (zB_box hq) dX0_fate_44 inX1_X0_fate (by decide +kernel) ?_
      refine V_if_ne hC 54 dX0_fate_47 (by decide) (fun c47 => ?_) (fun c47 => ?_)
      · refine V_iconst hC 4 dX0_fate_54 (by decide) ?_
        refine V_iret hC hR dX0_fate_55 ⟨rfl, rfl, _, rfl, ?_⟩
        refine ⟨?_, rfl⟩
        first | (rw [show fate h x = 12 by unfold fate; rw [if_neg k3, if_neg (fun w => hno w.2)]]; rfl) | (rw [show fate h x = 12 by unfold fate; rw [if_neg k3, if_neg (fun w => c47 (hy.2.2.2.1.trans w.1))]]; rfl) | (rw [show fate h x = 11 by unfold fate; rw [if_neg k3, if_pos ⟨hy.2.2.2.1.symm.trans c47, hyes⟩]]; rfl)
      · refine V_iconst hC 3 dX0_fate_50 (by decide) ?_
        refine V_goto hC 55 dX0_fate_51 (by decide) ?_
        refine V_iret hC hR dX0_fate_55 ⟨rfl, rfl, _, rfl, ?_⟩
        refine ⟨?_, rfl⟩
        first | (rw [show fate h x = 12 by unfold fate; rw [if_neg k3, if_neg (fun w => hno w.2)]]; rfl) | (rw [show fate h x = 12 by unfold fate; rw [if_neg k3, if_neg (fun w => c47 (hy.2.2.2.1.trans w.1))]]; rfl) | (rw [show fate h x = 11 by unfold fate; rw [if_neg k3, if_pos ⟨hy.2.2.2.1.symm.trans c47, hyes⟩]]; rfl)
  · have k3 : x 3 = -6 := by
      rcases hy.m3 with k | k
      · exact k.1
      · rw [k.2.1] at c4; exact absurd c4 (by decide)
    refine V_iconst hC 5 dX0_fate_7 (by decide) ?_
    refine V_iret hC hR dX0_fate_8 ⟨rfl, rfl, _, rfl, ?_⟩
    refine ⟨?_, rfl⟩
    rw [show fate h x = 13 by unfold fate; rw [if_pos k3]]
    rfl
end
section
/-- the boxes in two parts: the first as K, from i on as r -/
def twoX (p : Nat → Nat) (gx : Nat → Nat → Int32) (K r : List (Nat → Int32)) (i : Nat) : Prop := (∀ j, j < 8 → p j < 8) ∧ (∀ i j, i < 8 → j < 8 → p i = p j → i = j) ∧ (∀ j x, K[j]? = some x → isX (gx (p j)) x) ∧ ∀ j x, r[j]? = some x → isX (gx (p (i + j))) x
theorem twoX.hd {p : Nat → Nat} {gx : Nat → Nat → Int32} {K r : List (Nat → Int32)} {x : Nat → Int32} {i : Nat} (h : twoX p gx K (x :: r) i) : isX (gx (p i)) x := h.2.2.2 0 x rfl
theorem twoX.skip {p : Nat → Nat} {gx : Nat → Nat → Int32} {K r : List (Nat → Int32)} {x : Nat → Int32} {i : Nat} (h : twoX p gx K (x :: r) i) : twoX p gx K r (i + 1) := ⟨h.1, h.2.1, h.2.2.1, fun j q hq => by rw [show i + 1 + j = i + (j + 1) by omega]; exact h.2.2.2 (j + 1) q hq⟩
theorem swap_v {p : Nat → Nat} {i k j : Nat} : va_up (va_up p i (p k)) k (p i) j = if j = k then p i else if j = i then p k else p j := by simp [va_up]
theorem twoX.keep {p : Nat → Nat} {gx : Nat → Nat → Int32} {K r : List (Nat → Int32)} {x : Nat → Int32} {i : Nat} (h : twoX p gx K (x :: r) i) (hk : K.length ≤ i) (hi : i < 8) : twoX (va_up (va_up p i (p K.length)) K.length (p i)) gx (K ++ [x]) r (i + 1) := by
  have hx := h.hd
  refine ⟨fun j hj => ?_, fun a b ha hb e => ?_, fun j q hq => ?_, fun j q hq => ?_⟩
  · rw [swap_v]
    split
    · exact h.1 _ hi
    · split
      · exact h.1 _ (by omega)
      · exact h.1 _ hj
  · rw [swap_v, swap_v] at e
    have key : (if a = K.length then i else if a = i then K.length else a) = (if b = K.length then i else if b = i then K.length else b) := by
      refine h.2.1 _ _ (by split <;> (try split) <;> omega) (by split <;> (try split) <;> omega) ?_
      rw [apply_ite p, apply_ite p, apply_ite p, apply_ite p]
      exact e
    split at key <;> split at key <;> (try split at key) <;> (try split at key) <;> omega
  · have hj : j < K.length + 1 := by simpa using (List.getElem?_eq_some_iff.mp hq).1
    rw [swap_v]
    by_cases h2 : j < K.length
    · rw [if_neg (by omega), if_neg (by omega)]
      exact h.2.2.1 j q ((cut_s h2).mp hq)
    · have : j = K.length := by omega
      subst this
      rw [cut_m] at hq
      cases hq
      rw [if_pos rfl]
      exact hx
  · rw [swap_v, if_neg (by omega), if_neg (by omega), show i + 1 + j = i + (j + 1) by omega]
    exact h.2.2.2 (j + 1) q hq
theorem fate_b (h x : Nat → Int32) : fate h x - 8 < 14 ∧ 8 + (fate h x - 8) = fate h x ∧ fate h x - 8 ≠ 1 ∧ fate h x - 8 ≠ 11 ∧ fate h x - 8 ≠ 12 := by
  rcases fate_lt h x with e | e | e <;> rw [e] <;> decide
theorem outOne_37 (h x : Nat → Int32) : outOne h x 3 = h 3 ∧ outOne h x 7 = h 7 := by
  unfold outOne
  split
  · rcases fate_lt h x with e | e | e <;> rw [e] <;> exact ⟨rfl, rfl⟩
  · exact ⟨rfl, rfl⟩
theorem inX0_X0_letBoxesLeave : ∀ w ∈ wsX00, w ∈ wsX0_letBoxesLeave := by decide +kernel
theorem inX1_X0_letBoxesLeave : ∀ w ∈ wsX10, w ∈ wsX0_letBoxesLeave := by decide +kernel
abbrev rmX0_letBoxesLeave : Room := { frames := 2, cells := 0, slots := 0, locals := 62 }
set_option maxHeartbeats 4000000 in
set_option maxRecDepth 100000 in
theorem c_X0_letBoxesLeave (g : GE) (lau : Launch) {N : Nat} {ad : Nat → Nat} {f : Nat → va_E} {c : Nat} {s t : Nat → Int32} {p : Nat → Nat} {bc : Int32} {co ex : Nat → Int32} {rc : Int32} {pl : Nat → Int32} {pn : Int32} {wy : Nat → Int32} {gx : Nat → Nat → Int32} (hN : c + 16 ≤ N) {h : Nat → Int32} {bs : List (Nat → Int32)} {rs : List (Int32 × Int32)} {ps : List Int32} (hh : qH s t wy h) (hx : qX p gx bc bs) (hr : qR co ex rc rs) (hp : qP pl pn ps) (hok : MarkOK (h, bs, rs, ps)) : Ct g lau yX0_letBoxesLeave wsX0_letBoxesLeave rmX0_letBoxesLeave N ad [.ref (ad c)] (zB g ad f c s t p bc co ex rc pl pn wy gx) (pV N ad (fun u => BIs g ad f c (mLeave (h, bs, rs, ps)) u)) 0 0 := by
  refine Ct.of (maxL := 4) rfl (by decide +kernel) [some (.ref (ad c)), none, none, none] (Nat.le_of_ble_eq_true rfl) (by simp [lvo, lv_args, Value.category]) (fun E hnl _ hC hR => ?_)
  obtain ⟨tg, htg⟩ : ∃ z, z = bs.foldl outOne h := ⟨_, rfl⟩
  have hbc := hx.1
  have h8 := hx.2.1
  have loop : ∀ (r K : List (Nat → Int32)) (i : Nat) (p : Nat → Nat) (t h : Nat → Int32) (w3 : Option Value), i + r.length = bs.length → K.length ≤ i → K ++ r.filter (fun x => !isOut x) = bs.filter (fun x => !isOut x) → r.foldl outOne h = tg → (∀ x ∈ r, x 3 = -6 ∨ 0 ≤ (x 3).toInt) → (0 ≤ (h 3).toInt ∧ (h 3).toInt ≤ 20) → (0 ≤ (h 7).toInt ∧ (h 7).toInt ≤ 9) → twoX p gx K r i → qH s t wy h → V E g N ad 0 0 (zB g ad f c s t p bc co ex rc pl pn wy gx) 4 [some (.ref (ad c)), some (.int (nI K.length)), some (.int (nI i)), w3] [] := by
    intro r
    induction r with
    | nil =>
      intro K i p t h1 w3 hi hk ht hq hm3 hr3 hr7 h2 hh
      refine V_iload_n hC dX0_letBoxesLeave_4 rfl rfl ?_
      refine V_aload_n hC dX0_letBoxesLeave_5 rfl rfl ?_
      refine V_B_boxCount hC hN dX0_letBoxesLeave_6 inX0_X0_letBoxesLeave (by decide +kernel) ?_
      refine V_icmp_ge_t hC 73 dX0_letBoxesLeave_9 (by decide) (by rw [hbc, ← hi]; exact nI_le (Nat.le_refl _) (by simp at hi ⊢; omega)) ?_
      refine V_aload_n hC dX0_letBoxesLeave_73 rfl rfl ?_
      refine V_iload_n hC dX0_letBoxesLeave_74 rfl rfl ?_
      refine V_B_put_boxCount hC hN dX0_letBoxesLeave_75 inX0_X0_letBoxesLeave (by decide +kernel) ?_
      refine V_vret hC hR dX0_letBoxesLeave_78 ⟨rfl, rfl, rfl, ?_⟩
      simp only [List.filter_nil, List.append_nil] at ht
      have hq2 : h1 = bs.foldl outOne h := hq.trans htg
      have hm : mLeave (h, bs, rs, ps) = (h1, K, rs, ps) := by
        show (bs.foldl outOne h, bs.filter (fun x => !isOut x), rs, ps) = _
        rw [← hq2, ht]
      rw [hm]
      exact BIs.mk ⟨hh, ⟨rfl, (by show K.length ≤ 8; simp at hi; omega), h2.1, h2.2.1, h2.2.2.1⟩, hr, hp⟩
    | cons x r ih =>
      intro K i p t h1 w3 hi hk ht hq hm3 hr3 hr7 h2 hh
      simp only [List.length_cons] at hi
      have e := h2.hd
      have hi8 : i < 8 := by omega
      have hpi := h2.1 i hi8
      have hpk := h2.1 K.length (by omega)
      have hmx := hm3 x List.mem_cons_self
      have hmr : ∀ z ∈ r, z 3 = -6 ∨ 0 ≤ (z 3).toInt := fun z hz => hm3 z (List.mem_cons_of_mem _ hz)
      rw [List.foldl_cons] at hq
      obtain ⟨f1, f2, f3, f4, f5⟩ := fate_b h1 x
      have ef := hh.2.1 _ f1 f3 f4 f5
      rw [f2] at ef
      refine V_iload_n hC dX0_letBoxesLeave_4 rfl rfl ?_
      refine V_aload_n hC dX0_letBoxesLeave_5 rfl rfl ?_
      refine V_B_boxCount hC hN dX0_letBoxesLeave_6 inX0_X0_letBoxesLeave (by decide +kernel) ?_
      refine V_icmp_ge_f (tgt := 73) hC dX0_letBoxesLeave_9 (by decide) (by rw [hbc]; exact nI_ge (by omega) (by omega)) ?_
      refine V_aload_n hC dX0_letBoxesLeave_12 rfl rfl ?_
      refine V_B_boxes hC hN dX0_letBoxesLeave_13 inX0_X0_letBoxesLeave (by decide +kernel) ?_
      refine V_iload_n hC dX0_letBoxesLeave_16 rfl rfl ?_
      refine V_B_ld3 hC hN dX0_letBoxesLeave_17 (ix_nI (j := i) hi8 (by decide)) ?_
      refine V_astore_n3 hC dX0_letBoxesLeave_18 rfl (by rw [hnl]; decide) rfl ?_
      refine V_aload_n hC dX0_letBoxesLeave_19 rfl rfl ?_
      refine V_cvI (n := 0) hC (c_X1_back g (eL E) (i := c + 8 + p i) (by omega) (zB_box hpi)) dX0_letBoxesLeave_20 gX0_letBoxesLeave_X1_back rfl rfl rfl ⟨rfl, rfl⟩ (by decide +kernel) (by decide +kernel) (by omega) (zB_box hpi) rfl (Nat.le_of_ble_eq_true rfl) (by decide) (fun x20 u20 h20 => ?_)
      obtain ⟨rfl, rfl⟩ := h20
      refine V_bipush hC 100 dX0_letBoxesLeave_23 (by decide) ?_
      refine V_icmp_lt hC 45 dX0_letBoxesLeave_25 (by decide) (fun c25 => ?_) (fun c25 => ?_)
      · refine V_aload_n hC dX0_letBoxesLeave_45 rfl rfl ?_
        refine V_B_boxes hC hN dX0_letBoxesLeave_46 inX0_X0_letBoxesLeave (by decide +kernel) ?_
        refine V_iload_n hC dX0_letBoxesLeave_49 rfl rfl ?_
        refine V_aload_n hC dX0_letBoxesLeave_50 rfl rfl ?_
        refine V_B_boxes hC hN dX0_letBoxesLeave_51 inX0_X0_letBoxesLeave (by decide +kernel) ?_
        refine V_iload_n hC dX0_letBoxesLeave_54 rfl rfl ?_
        refine V_B_ld3 hC hN dX0_letBoxesLeave_55 (ix_nI (j := K.length) (by omega) (by decide)) ?_
        refine V_B_st3 hC hN dX0_letBoxesLeave_56 (ix_nI (j := i) hi8 (by decide)) hpk ?_
        refine V_aload_n hC dX0_letBoxesLeave_57 rfl rfl ?_
        refine V_B_boxes hC hN dX0_letBoxesLeave_58 inX0_X0_letBoxesLeave (by decide +kernel) ?_
        refine V_iload_n hC dX0_letBoxesLeave_61 rfl rfl ?_
        refine V_aload_n hC dX0_letBoxesLeave_62 rfl rfl ?_
        refine V_B_st3 hC hN dX0_letBoxesLeave_63 (ix_nI (j := K.length) (by omega) (by decide)) hpi ?_
        refine V_iinc1 hC (nI (K ++ [x]).length) dX0_letBoxesLeave_64 len_s (by rw [hnl]; decide) rfl ?_
        refine V_iinc2 hC (nI (i + 1)) dX0_letBoxesLeave_67 (nI_1 i) (by rw [hnl]; decide) rfl ?_
        refine V_goto hC 4 dX0_letBoxesLeave_70 (by decide) ?_
        have hu : isOut x = false := by rw [e.1, e.2.1] at c25; simp [isOut]; exact c25
        simp only [List.filter_cons, hu, Bool.not_false, if_true] at ht
        rw [show outOne h1 x = h1 by unfold outOne; rw [hu]; rfl] at hq
        exact ih (K ++ [x]) (i + 1) _ t h1 _ (by omega) (by simp; omega) (by rw [List.append_assoc]; exact ht) hq hmr hr3 hr7 (h2.keep hk hi8) hh
      · refine V_aload_n hC dX0_letBoxesLeave_28 rfl rfl ?_
        refine V_B_tallies hC hN dX0_letBoxesLeave_29 inX0_X0_letBoxesLeave (by decide +kernel) ?_
        refine V_aload_n hC dX0_letBoxesLeave_32 rfl rfl ?_
        refine V_aload_n hC dX0_letBoxesLeave_33 rfl rfl ?_
        refine V_cvI (n := 1) hC (c_X0_fate g (eL E) hN hh hpi e hmx hr3 hr7) dX0_letBoxesLeave_34 gX0_letBoxesLeave_X0_fate rfl rfl rfl ⟨rfl, rfl⟩ (by decide +kernel) (by decide +kernel) (by omega) zB_0 rfl (Nat.le_of_ble_eq_true rfl) (by decide) (fun x34 u34 h34 => ?_)
        obtain ⟨rfl, rfl⟩ := h34
        refine V_dup2 hC dX0_letBoxesLeave_37 rfl rfl ?_
        refine V_B_ld2 hC hN dX0_letBoxesLeave_38 (ix_nI (j := fate h1 x - 8) f1 (by decide)) ?_
        refine V_iconst hC 1 dX0_letBoxesLeave_39 (by decide) ?_
        refine V_iadd hC dX0_letBoxesLeave_40 ?_
        refine V_B_st2 hC hN dX0_letBoxesLeave_41 (ix_nI (j := fate h1 x - 8) f1 (by decide)) ?_
        refine V_goto hC 67 dX0_letBoxesLeave_42 (by decide) ?_
        refine V_iinc2 hC (nI (i + 1)) dX0_letBoxesLeave_67 (nI_1 i) (by rw [hnl]; decide) rfl ?_
        refine V_goto hC 4 dX0_letBoxesLeave_70 (by decide) ?_
        have hu : isOut x = true := by rw [e.1, e.2.1] at c25; simp [isOut]; exact Int32.not_lt.mp c25
        simp only [List.filter_cons, hu, Bool.not_true, Bool.false_eq_true, if_false] at ht
        have eo : outOne h1 x = upd h1 (fate h1 x) (h1 (fate h1 x) + 1) := by unfold outOne; rw [hu]; rfl
        have e37 := outOne_37 h1 x
        refine ih K (i + 1) p _ (outOne h1 x) _ (by omega) (by omega) ht hq hmr (by rw [e37.1]; exact hr3) (by rw [e37.2]; exact hr7) h2.skip ?_
        have k1 := hh.t (k := fate h1 x - 8) (z := h1 (fate h1 x) + 1) f1
        rw [f2] at k1
        rw [eo, ef]
        exact k1
  refine V_iconst hC 0 dX0_letBoxesLeave_0 (by decide) ?_
  refine V_istore_n1 hC dX0_letBoxesLeave_1 rfl (by rw [hnl]; decide) rfl ?_
  refine V_iconst hC 0 dX0_letBoxesLeave_2 (by decide) ?_
  refine V_istore_n2 hC dX0_letBoxesLeave_3 rfl (by rw [hnl]; decide) rfl ?_
  exact loop bs [] 0 p t h _ (by omega) (Nat.le_refl _) rfl htg.symm hok.2.2 hok.1 hok.2.1 ⟨hx.2.2.1, hx.2.2.2.1, fun j q hq => by simp at hq, fun j q hq => by rw [Nat.zero_add]; exact hx.2.2.2.2 j q hq⟩ hh
/-! the marks through a tick -/
theorem sub60_0 {x : Int32} (h : 60 ≤ x) : 0 ≤ (x - 60).toInt := by
  have h2 := Int32.le_iff_toInt_le.mp h
  have e : (60 : Int32).toInt = 60 := rfl
  have l := x.toInt_lt
  rw [i_sub (by omega) (by omega)]
  omega
def m3ok (x : Nat → Int32) : Prop := x 3 = -6 ∨ 0 ≤ (x 3).toInt
theorem m3ok.see {x : Nat → Int32} (h : m3ok x) : m3ok (xSee x) := by
  unfold xSee
  split
  · exact h
  · exact h
theorem m3ok.mk {x : Nat → Int32} (hu : isUnder x = true) : m3ok (xMark x) := by
  have h0 := sub60_0 (x := x 0) (by simp [isUnder] at hu; exact hu.1)
  unfold xMark
  split <;> exact Or.inr h0
theorem m3ok.bM {bs : List (Nat → Int32)} (h : ∀ x ∈ bs, m3ok x) : ∀ x ∈ bMark bs, m3ok x := by
  induction bs with
  | nil => exact h
  | cons x r ih =>
    unfold bMark
    split
    · rename_i hu
      intro z hz
      rcases List.mem_cons.mp hz with k | k
      · subst k; exact m3ok.mk hu
      · exact h z (List.mem_cons_of_mem _ k)
    · intro z hz
      rcases List.mem_cons.mp hz with k | k
      · subst k; exact h z List.mem_cons_self
      · exact ih (fun w hw => h w (List.mem_cons_of_mem _ hw)) z k
def qMark (q : (Nat → Int32) × List (Nat → Int32)) : Prop := (0 ≤ (q.1 3).toInt ∧ (q.1 3).toInt ≤ 20) ∧ (0 ≤ (q.1 7).toInt ∧ (q.1 7).toInt ≤ 9) ∧ ∀ x ∈ q.2, m3ok x
theorem qMark.mark {q : (Nat → Int32) × List (Nat → Int32)} (h : qMark q) : qMark (mMark q) := by
  obtain ⟨h1, h2, h3⟩ := h
  unfold mMark
  split
  · exact ⟨h1, h2, h3⟩
  · split
    · exact ⟨h1, h2, h3⟩
    · refine ⟨?_, ?_, m3ok.bM h3⟩ <;> (unfold hMarked hTaken; split <;> assumption)
theorem qMark.plans {ps : List Int32} : ∀ {q : (Nat → Int32) × List (Nat → Int32)}, qMark q → qMark (ps.foldl doOne q) := by
  induction ps with
  | nil => exact fun h => h
  | cons p ps ih =>
    intro q h
    rw [List.foldl_cons]
    refine ih ?_
    unfold doOne
    split
    · exact h.mark
    · exact h
theorem out_37 (bs : List (Nat → Int32)) : ∀ h : Nat → Int32, bs.foldl outOne h 3 = h 3 ∧ bs.foldl outOne h 7 = h 7 := by
  induction bs with
  | nil => exact fun h => ⟨rfl, rfl⟩
  | cons x r ih =>
    intro h
    rw [List.foldl_cons, (ih _).1, (ih _).2]
    exact outOne_37 h x
theorem MarkOK.move {m : MT} (h : MarkOK m) : MarkOK (mMove m) := by
  refine ⟨h.1, h.2.1, fun x hx => ?_⟩
  obtain ⟨y, hy, rfl⟩ := List.mem_map.mp hx
  exact h.2.2 y hy
theorem MarkOK.see {m : MT} (h : MarkOK m) : MarkOK (mSee m) := by
  refine ⟨h.1, h.2.1, fun x hx => ?_⟩
  obtain ⟨y, hy, rfl⟩ := List.mem_map.mp hx
  exact m3ok.see (h.2.2 y hy)
theorem MarkOK.do {m : MT} (h : MarkOK m) : MarkOK (mDo m) := qMark.plans (ps := m.2.2.2) (q := (m.1, m.2.1)) h
theorem MarkOK.put {m : MT} (h : MarkOK m) {k : Nat} {v : Int32} (h3 : k ≠ 3) (h7 : k ≠ 7) : MarkOK (upd m.1 k v, m.2) := by
  refine ⟨?_, ?_, h.2.2⟩
  · show 0 ≤ (upd m.1 k v 3).toInt ∧ (upd m.1 k v 3).toInt ≤ 20
    rw [pk_un (Ne.symm h3)]
    exact h.1
  · show 0 ≤ (upd m.1 k v 7).toInt ∧ (upd m.1 k v 7).toInt ≤ 9
    rw [pk_un (Ne.symm h7)]
    exact h.2.1
theorem MarkOK.leave {m : MT} (h : MarkOK m) : MarkOK (mLeave m) := by
  refine ⟨?_, ?_, fun x hx => h.2.2 x (List.mem_filter.mp hx).1⟩
  · show 0 ≤ (m.2.1.foldl outOne m.1 3).toInt ∧ (m.2.1.foldl outOne m.1 3).toInt ≤ 20
    rw [(out_37 _ _).1]
    exact h.1
  · show 0 ≤ (m.2.1.foldl outOne m.1 7).toInt ∧ (m.2.1.foldl outOne m.1 7).toInt ≤ 9
    rw [(out_37 _ _).2]
    exact h.2.1
theorem MarkOK.half {m : MT} (h : MarkOK m) : MarkOK (mFeed (mDo (mTake (mCount (mSee (mMove m)))))) := (show MarkOK (mDo (mTake (mCount (mSee (mMove m))))) from MarkOK.do (m := mTake (mCount (mSee (mMove m)))) h.move.see).put (by decide) (by decide)
theorem MarkOK.tick {m : MT} (h : MarkOK m) : MarkOK (mTick m) := h.half.leave.put (by decide) (by decide)
theorem inX0_X0_tickOn : ∀ w ∈ wsX00, w ∈ wsX0_tickOn := by decide +kernel
theorem inX1_X0_tickOn : ∀ w ∈ wsX10, w ∈ wsX0_tickOn := by decide +kernel
abbrev rmX0_tickOn : Room := { frames := 3, cells := 0, slots := 0, locals := 85 }
set_option maxHeartbeats 4000000 in
set_option maxRecDepth 100000 in
theorem c_X0_tickOn (g : GE) (lau : Launch) {N : Nat} {ad : Nat → Nat} {f : Nat → va_E} {c : Nat} {s t : Nat → Int32} {p : Nat → Nat} {bc : Int32} {co ex : Nat → Int32} {rc : Int32} {pl : Nat → Int32} {pn : Int32} {wy : Nat → Int32} {gx : Nat → Nat → Int32} (hN : c + 16 ≤ N) {n : Nat} {m0 : MT} (hn : n < 2 ^ 31) (hm : RepB s t p bc co ex rc pl pn wy gx m0) (hok : TicksOK n m0) (hmk : MarkOK m0) : Ct g lau yX0_tickOn wsX0_tickOn rmX0_tickOn N ad [.ref (ad c), .int (nI n)] (zB g ad f c s t p bc co ex rc pl pn wy gx) (pV N ad (fun u => BIs g ad f c (mTicks n m0) u)) 0 0 := by
  refine Ct.of (maxL := 3) rfl (by decide +kernel) [some (.ref (ad c)), some (.int (nI n)), none] (Nat.le_of_ble_eq_true rfl) (by simp [lvo, lv_args, Value.category]) (fun E hnl _ hC hR => ?_)
  have loop : ∀ (j k : Nat) (m : MT) (s t : Nat → Int32) (p : Nat → Nat) (bc : Int32) (co ex : Nat → Int32) (rc : Int32) (pl : Nat → Int32) (pn : Int32) (wy : Nat → Int32) (gx : Nat → Nat → Int32), k + j = n → TicksOK j m → MarkOK m → mTicks j m = mTicks n m0 → RepB s t p bc co ex rc pl pn wy gx m → V E g N ad 0 0 (zB g ad f c s t p bc co ex rc pl pn wy gx) 2 [some (.ref (ad c)), some (.int (nI n)), some (.int (nI k))] [] := by
    intro j
    induction j with
    | zero =>
      intro k m s t p bc co ex rc pl pn wy gx hk hok hmk he hm
      have hk : k = n := by omega
      subst hk
      refine V_iload_n hC dX0_tickOn_2 rfl rfl ?_
      refine V_iload_n hC dX0_tickOn_3 rfl rfl ?_
      refine V_icmp_ge_t hC 51 dX0_tickOn_4 (by decide) (Int32.le_refl _) ?_
      refine V_vret hC hR dX0_tickOn_51 ⟨rfl, rfl, rfl, ?_⟩
      have he : m = mTicks k m0 := he
      subst he
      exact BIs.mk hm
    | succ j ih =>
      intro k m s t p bc co ex rc pl pn wy gx hk hok hmk he hm
      obtain ⟨hh, hx, hr, hp⟩ := hm
      obtain ⟨hc1, ⟨G, hG, hg⟩, hU⟩ := hok 0 (by omega)
      have hc1 : m.2.2.1.length + ((mMove m).2.1.filter unseen).length + m.2.2.2.length ≤ 28 := hc1
      have hg : m.1 2 = nI G := hg
      refine V_iload_n hC dX0_tickOn_2 rfl rfl ?_
      refine V_iload_n hC dX0_tickOn_3 rfl rfl ?_
      refine V_icmp_ge_f (tgt := 51) hC dX0_tickOn_4 (by decide) (nI_ge (by omega) hn) ?_
      refine V_aload_n hC dX0_tickOn_7 rfl rfl ?_
      refine V_cvV (n := 0) hC (c_X0_moveOn g (eL E) hN hh hx hr hp) dX0_tickOn_8 gX0_tickOn_X0_moveOn rfl rfl rfl ⟨rfl, rfl⟩ (by decide +kernel) (by decide +kernel) (by omega) zB_0 rfl (Nat.le_of_ble_eq_true rfl) (by decide) (fun u8 h8 => ?_)
      obtain ⟨s1, t1, p1, bc1, co1, ex1, rc1, pl1, pn1, wy1, gx1, rfl, hh1, hx1, hr1, hp1⟩ := h8
      refine V_aload_n hC dX0_tickOn_11 rfl rfl ?_
      refine V_cvV (n := 0) hC (c_X0_seeBoxes g (eL E) hN hh1 hx1 hr1 hp1 (Nat.le_trans (Nat.le_add_right _ _) hc1)) dX0_tickOn_12 gX0_tickOn_X0_seeBoxes rfl rfl rfl ⟨rfl, rfl⟩ (by decide +kernel) (by decide +kernel) (by omega) zB_0 rfl (Nat.le_of_ble_eq_true rfl) (by decide) (fun u12 h12 => ?_)
      obtain ⟨s2, t2, p2, bc2, co2, ex2, rc2, pl2, pn2, wy2, gx2, rfl, hh2, hx2, hr2, hp2⟩ := h12
      refine V_aload_n hC dX0_tickOn_15 rfl rfl ?_
      refine V_cvV (n := 0) hC (c_X0_countPlansDown g (eL E) hN hh2 hx2 hr2 hp2) dX0_tickOn_16 gX0_tickOn_X0_countPlansDown rfl rfl rfl ⟨rfl, rfl⟩ (by decide +kernel) (by decide +kernel) (by omega) zB_0 rfl (Nat.le_of_ble_eq_true rfl) (by decide) (fun u16 h16 => ?_)
      obtain ⟨s3, t3, p3, bc3, co3, ex3, rc3, pl3, pn3, wy3, gx3, rfl, hh3, hx3, hr3, hp3⟩ := h16
      refine V_aload_n hC dX0_tickOn_19 rfl rfl ?_
      refine V_cvV (n := 0) hC (c_X0_takeReports g (eL E) hN hh3 hx3 hr3 hp3 hG hg (by show (m.2.2.1 ++ List.map _ _).length + (List.map _ m.2.2.2).length ≤ 28; rw [List.length_append, List.length_map, List.length_map]; omega)) dX0_tickOn_20 gX0_tickOn_X0_takeReports rfl rfl rfl ⟨rfl, rfl⟩ (by decide +kernel) (by decide +kernel) (by omega) zB_0 rfl (Nat.le_of_ble_eq_true rfl) (by decide) (fun u20 h20 => ?_)
      obtain ⟨s4, t4, p4, bc4, co4, ex4, rc4, pl4, pn4, wy4, gx4, rfl, hh4, hx4, hr4, hp4⟩ := h20
      refine V_aload_n hC dX0_tickOn_23 rfl rfl ?_
      refine V_cvV (n := 0) hC (c_X0_doPlans g (eL E) hN hh4 hx4 hr4 hp4) dX0_tickOn_24 gX0_tickOn_X0_doPlans rfl rfl rfl ⟨rfl, rfl⟩ (by decide +kernel) (by decide +kernel) (by omega) zB_0 rfl (Nat.le_of_ble_eq_true rfl) (by decide) (fun u24 h24 => ?_)
      obtain ⟨s5, t5, p5, bc5, co5, ex5, rc5, pl5, pn5, wy5, gx5, rfl, hh5, hx5, hr5, hp5⟩ := h24
      refine V_aload_n hC dX0_tickOn_27 rfl rfl ?_
      refine V_cvV (n := 0) hC (c_X0_feed g (eL E) hN hh5 hx5 hr5 hp5) dX0_tickOn_28 gX0_tickOn_X0_feed rfl rfl rfl ⟨rfl, rfl⟩ (by decide +kernel) (by decide +kernel) (by omega) zB_0 rfl (Nat.le_of_ble_eq_true rfl) (by decide) (fun u28 h28 => ?_)
      obtain ⟨s6, t6, p6, bc6, co6, ex6, rc6, pl6, pn6, wy6, gx6, rfl, hh6, hx6, hr6, hp6⟩ := h28
      refine V_aload_n hC dX0_tickOn_31 rfl rfl ?_
      refine V_cvV (n := 0) hC (c_X0_letBoxesLeave g (eL E) hN hh6 hx6 hr6 hp6 hmk.half) dX0_tickOn_32 gX0_tickOn_X0_letBoxesLeave rfl rfl rfl ⟨rfl, rfl⟩ (by decide +kernel) (by decide +kernel) (by omega) zB_0 rfl (Nat.le_of_ble_eq_true rfl) (by decide) (fun u32 h32 => ?_)
      obtain ⟨s7, t7, p7, bc7, co7, ex7, rc7, pl7, pn7, wy7, gx7, rfl, hh7, hx7, hr7, hp7⟩ := h32
      refine V_aload_n hC dX0_tickOn_35 rfl rfl ?_
      refine V_B_tallies hC hN dX0_tickOn_36 inX0_X0_tickOn (by decide +kernel) ?_
      refine V_iconst hC 0 dX0_tickOn_39 (by decide) ?_
      refine V_dup2 hC dX0_tickOn_40 rfl rfl ?_
      refine V_B_ld2 hC hN (k := 0) dX0_tickOn_41 (ix_c (by decide)) ?_
      refine V_iconst hC 1 dX0_tickOn_42 (by decide) ?_
      refine V_iadd hC dX0_tickOn_43 ?_
      refine V_B_st2 (k := 0) hC hN dX0_tickOn_44 (ix_c (by decide)) ?_
      refine V_iinc2 hC (nI (k + 1)) dX0_tickOn_45 (nI_1 k) (by rw [hnl]; decide) rfl ?_
      refine V_goto hC 2 dX0_tickOn_48 (by decide) ?_
      have e8 := hh7.2.1 0 (by decide) (by decide) (by decide) (by decide)
      refine ih (k + 1) (mTick m) _ _ _ _ _ _ _ _ _ _ _ (by omega) (fun i hi => hok (i + 1) (by omega)) hmk.tick he ⟨?_, hx7, hr7, hp7⟩
      rw [e8]
      exact hh7.t (k := 0) (by decide)
  refine V_iconst hC 0 dX0_tickOn_0 (by decide) ?_
  refine V_istore_n2 hC dX0_tickOn_1 rfl (by rw [hnl]; decide) rfl ?_
  exact loop n 0 m0 s t p bc co ex rc pl pn wy gx (by omega) hok hmk rfl hm
end
section
theorem inX0_X0_letPass : ∀ w ∈ wsX00, w ∈ wsX0_letPass := by decide +kernel
theorem inX1_X0_letPass : ∀ w ∈ wsX10, w ∈ wsX0_letPass := by decide +kernel
abbrev rmX0_letPass : Room := { frames := 4, cells := 0, slots := 0, locals := 107 }
set_option maxHeartbeats 4000000 in
set_option maxRecDepth 100000 in
theorem c_X0_letPass (g : GE) (lau : Launch) {N : Nat} {ad : Nat → Nat} {f : Nat → va_E} {c : Nat} {s t : Nat → Int32} {p : Nat → Nat} {bc : Int32} {co ex : Nat → Int32} {rc : Int32} {pl : Nat → Int32} {pn : Int32} {wy : Nat → Int32} {gx : Nat → Nat → Int32} (hN : c + 16 ≤ N) {m : MT} (hm : RepB s t p bc co ex rc pl pn wy gx m) (v : Int32) (hok : ∀ n, n ≤ 99 → TicksOK n m) (hmk : MarkOK m) : Ct g lau yX0_letPass wsX0_letPass rmX0_letPass N ad [.ref (ad c), .int (v)] (zB g ad f c s t p bc co ex rc pl pn wy gx) (pI N ad (fun x u => x = (mPass v m).1 ∧ BIs g ad f c (mPass v m).2 u)) 0 0 := by
  refine Ct.of (maxL := 3) rfl (by decide +kernel) [some (.ref (ad c)), some (.int (v)), none] (Nat.le_of_ble_eq_true rfl) (by simp [lvo, lv_args, Value.category]) (fun E hnl _ hC hR => ?_)
  have e8 := hm.1.2.1 0 (by decide) (by decide) (by decide) (by decide)
  have hm0 := hm
  obtain ⟨hh, hx, hr, hp⟩ := hm
  refine V_iload_n hC dX0_letPass_0 rfl rfl ?_
  refine V_iconst hC 1 dX0_letPass_1 (by decide) ?_
  refine V_icmp_lt hC 11 dX0_letPass_2 (by decide) (fun c2 => ?_) (fun c2 => ?_)
  · refine V_bipush hC (-2) dX0_letPass_11 (by decide) ?_
    refine V_iret hC hR dX0_letPass_13 ⟨rfl, rfl, _, rfl, ?_⟩
    have hj : okT v = false := by simp only [okT, Bool.and_eq_false_iff, decide_eq_false_iff_not]; first | exact Or.inl (Int32.not_le.mpr c2) | exact Or.inr (Int32.not_le.mpr (Int32.not_le.mp c8))
    rw [mPass, hj]
    exact ⟨rfl, BIs.mk hm0⟩
  · refine V_iload_n hC dX0_letPass_5 rfl rfl ?_
    refine V_bipush hC 99 dX0_letPass_6 (by decide) ?_
    refine V_icmp_le hC 14 dX0_letPass_8 (by decide) (fun c8 => ?_) (fun c8 => ?_)
    · have hj : okT v = true := by simp only [okT, Bool.and_eq_true, decide_eq_true_eq]; exact ⟨Int32.not_lt.mp c2, c8⟩
      obtain ⟨n, hn, rfl⟩ := okT_n hj
      refine V_aload_n hC dX0_letPass_14 rfl rfl ?_
      refine V_B_tallies hC hN dX0_letPass_15 inX0_X0_letPass (by decide +kernel) ?_
      refine V_iconst hC 0 dX0_letPass_18 (by decide) ?_
      refine V_B_ld2 hC hN (k := 0) dX0_letPass_19 (ix_c (by decide)) ?_
      refine V_iload_n hC dX0_letPass_20 rfl rfl ?_
      refine V_iadd hC dX0_letPass_21 ?_
      refine V_sipush hC 20000 dX0_letPass_22 (by decide) ?_
      refine V_icmp_le hC 31 dX0_letPass_25 (by decide) (fun c25 => ?_) (fun c25 => ?_)
      · rw [e8] at c25
        refine V_aload_n hC dX0_letPass_31 rfl rfl ?_
        refine V_cvI (n := 0) hC (c_X0_howManyLeft g (eL E) hN hh) dX0_letPass_32 gX0_letPass_X0_howManyLeft rfl rfl rfl ⟨rfl, rfl⟩ (by decide +kernel) (by decide +kernel) (by omega) zB_0 rfl (Nat.le_of_ble_eq_true rfl) (by decide) (fun x32 u32 h32 => ?_)
        obtain ⟨rfl, rfl⟩ := h32
        refine V_istore_n2 hC dX0_letPass_35 rfl (by rw [hnl]; decide) rfl ?_
        refine V_aload_n hC dX0_letPass_36 rfl rfl ?_
        refine V_iload_n hC dX0_letPass_37 rfl rfl ?_
        refine V_cvV (n := 1) hC (c_X0_tickOn g (eL E) hN (n := n) (by omega) hm0 (hok n hn) hmk) dX0_letPass_38 gX0_letPass_X0_tickOn rfl rfl rfl ⟨rfl, rfl⟩ (by decide +kernel) (by decide +kernel) (by omega) zB_0 rfl (Nat.le_of_ble_eq_true rfl) (by decide) (fun u38 h38 => ?_)
        obtain ⟨s2, t2, p2, bc2, co2, ex2, rc2, pl2, pn2, wy2, gx2, rfl, hm2⟩ := h38
        refine V_aload_n hC dX0_letPass_41 rfl rfl ?_
        refine V_cvI (n := 0) hC (c_X0_howManyLeft g (eL E) hN hm2.1) dX0_letPass_42 gX0_letPass_X0_howManyLeft rfl rfl rfl ⟨rfl, rfl⟩ (by decide +kernel) (by decide +kernel) (by omega) zB_0 rfl (Nat.le_of_ble_eq_true rfl) (by decide) (fun x42 u42 h42 => ?_)
        obtain ⟨rfl, rfl⟩ := h42
        refine V_iload_n hC dX0_letPass_45 rfl rfl ?_
        refine V_isub hC dX0_letPass_46 ?_
        refine V_iret hC hR dX0_letPass_47 ⟨rfl, rfl, _, rfl, ?_⟩
        rw [mPass, hj]
        simp only [if_true]
        rw [if_neg (Int32.not_lt.mpr c25), nI_clamp (by omega)]
        exact ⟨rfl, BIs.mk hm2⟩
      · rw [e8] at c25
        refine V_bipush hC (-4) dX0_letPass_28 (by decide) ?_
        refine V_iret hC hR dX0_letPass_30 ⟨rfl, rfl, _, rfl, ?_⟩
        rw [mPass, hj]
        simp only [if_true]
        rw [if_pos (Int32.not_le.mp c25)]
        exact ⟨rfl, BIs.mk hm0⟩
    · refine V_bipush hC (-2) dX0_letPass_11 (by decide) ?_
      refine V_iret hC hR dX0_letPass_13 ⟨rfl, rfl, _, rfl, ?_⟩
      have hj : okT v = false := by simp only [okT, Bool.and_eq_false_iff, decide_eq_false_iff_not]; first | exact Or.inl (Int32.not_le.mpr c2) | exact Or.inr (Int32.not_le.mpr (Int32.not_le.mp c8))
      rw [mPass, hj]
      exact ⟨rfl, BIs.mk hm0⟩
theorem Met.ofWF {l : Launch} {y : MethodName} {ws ws' : List Cond} {rm : Room} {Pc : Array Value → State → Prop} {Qc : Array Value → State → Outcome → State → Prop} {mc ms : Nat} {free : Addr → Prop} {cc : ByteArray} {maxL : Nat} {ret : Option FieldType}
    (hy : plainFor y = true) (hw : ws = Cond.code y cc maxL ret :: ws')
    (body : ∀ p e s m args below meth c s₁, BodyLoose p l y (headSpec ws rm) cc maxL ret e s m args below meth c s₁ → c.maxLocals = maxL → Pc args s →
      W p l e (headSpec ws rm).room s m args below meth c s.heap [] 0 0 (MQ below Qc args s mc ms free) (entryFrame m args maxL)) : Met l y ws rm Pc Qc mc ms free := by
  refine MetFree.of_bodySF (code := cc) (maxLocals := maxL) (ret := ret) hy (fun args s m h hn => ?_) (fun p e s m args below meth c s₁ B hml hP _ => ?_)
  · obtain ⟨meth, c, h1, h2, h3, h4, h5, h6, -, -⟩ := Cond.code_spec hn (atoms_spec (ws := ws) h _ (by rw [hw]; exact List.mem_cons_self))
    exact ⟨meth, c, h1, h2, h3, h4, h5, h6⟩
  · obtain ⟨t, a1, o, b1, b2, b3⟩ := body p e s m args below meth c s₁ B hml hP s₁ (by rw [B.state]; rfl) (Stand.of_body B)
    exact ⟨t, o, a1, b1, b2, ⟨b3.1, b3.2⟩⟩
/-- a contract out of a walk, of a method of the Java platform -/
theorem Ct.ofF {g : GE} {l : Launch} {y : MethodName} {ws ws' : List Cond} {rm : Room} {N : Nat} {ad : Nat → Nat} {av : List Value} {f : Nat → va_E} {post : Option Value → Nat → (Nat → Nat) → (Nat → va_E) → Prop} {mc ms : Nat} {cc : ByteArray} {maxL : Nat} {ret : Option FieldType} (hw : ws = Cond.code y cc maxL ret :: ws') (hy : plainFor y = true) (lo : List (Option Value)) (hav : (lg_sl av).length ≤ maxL) (hlo : ∀ q ∈ lvo 0 lo, q ∈ lv_args 0 av)
    (body : ∀ E : EV, eN E = maxL → (eH E).name = y.name → CX E g cc ws y.cls rm → RT E g mc ms ret post → V E g N ad 0 0 f 0 lo []) : Ct g l y ws rm N ad av f post mc ms := by
  refine Met.ofWF (cc := cc) (maxL := maxL) (ret := ret) hy hw ?_
  intro p e s m args below meth c s₁ B hml hv
  obtain ⟨rfl, hP, hK, hD, hz, hSF, hNF⟩ := hv
  have hts := atoms_spec (ws := ws) B.pre
  have hown : s.vm.findClass y.cls = some m.cls := findClass_of_methodNamed B.named
  rw [lg_entry_eq]
  have hl := lvo_sub (lv_entry av (n := maxL) hav) hlo
  exact body (p, l, e, rm, s, m, av.toArray, below, meth, c, maxL, MQ below (Qg g post) av.toArray s mc ms (gA g)) rfl (name_of_methodNamed B.named B.method).1 ⟨B.exec, B.bytes, hml, hown, hts, hK, hz, hSF, hNF, rfl⟩ ⟨B.returns, B.notSynchronized, rfl⟩ s.heap [] _ hP hD va_S.rf hl
def fdv (x y : Int32) : Int32 := if (x ^^^ y) < 0 ∧ ¬ x / y * y = x then x / y - 1 else x / y
def fmd (x y : Int32) : Int32 := if (x ^^^ y) < 0 ∧ ¬ x - x / y * y = 0 then x - x / y * y + y else x - x / y * y
theorem fdv_half_p : ∀ n : Fin 27, fdv (nI n.val) 2 = halfD (nI n.val) := by decide +kernel
theorem fdv_half_n : ∀ n : Fin 27, fdv (-(nI n.val)) 2 = halfD (-(nI n.val)) := by decide +kernel
theorem nI_of_int {x : Int32} {n : Nat} (h : x.toInt = n) (hn : n < 2 ^ 31) : x = nI n := by
  rw [← Int32.toInt_inj, nI_toInt hn]
  exact h
theorem fdv_half {d : Int32} (h1 : -26 ≤ d.toInt) (h2 : d.toInt ≤ 26) : fdv d 2 = halfD d := by
  by_cases h : 0 ≤ d.toInt
  · obtain ⟨n, hn⟩ := Int.eq_ofNat_of_zero_le h
    have e := nI_of_int hn (by omega)
    subst e
    exact fdv_half_p ⟨n, by omega⟩
  · obtain ⟨n, hn⟩ := Int.eq_ofNat_of_zero_le (a := - d.toInt) (by omega)
    have e : -d = nI n := nI_of_int (by rw [i_neg (by omega)]; exact hn) (by omega)
    have e2 : d = -(nI n) := by rw [← e, Int32.neg_neg]
    subst e2
    exact fdv_half_n ⟨n, by omega⟩
theorem okLen_i {v : Int32} (h : okLen v = true) : 4 ≤ v.toInt ∧ v.toInt ≤ 30 := by
  simp only [okLen, Bool.and_eq_true, decide_eq_true_eq, Int32.le_iff_toInt_le] at h
  exact h
theorem fdv_len {a b : Int32} (ha : okLen a = true) (hb : okLen b = true) : fdv (a - b) 2 = halfD (a - b) := by
  have h1 := okLen_i ha
  have h2 := okLen_i hb
  have e : (a - b).toInt = a.toInt - b.toInt := i_sub (by omega) (by omega)
  exact fdv_half (by omega) (by omega)
abbrev rmJ9_floorDiv_7cf53 : Room := { frames := 0, cells := 0, slots := 0, locals := 0 }
set_option maxHeartbeats 4000000 in
set_option maxRecDepth 100000 in
theorem c_J9_floorDiv_7cf53 (g : GE) (lau : Launch) {N : Nat} {ad : Nat → Nat} {f : Nat → va_E} (v y : Int32) (hy : ¬ y = 0) : Ct g lau yJ9_floorDiv_7cf53 wsJ9_floorDiv_7cf53 rmJ9_floorDiv_7cf53 N ad [.int v, .int y] f (pI N ad (fun x u => x = fdv v y ∧ u = f)) 0 0 := by
  refine Ct.ofF (maxL := 3) rfl (by decide +kernel) [some (.int v), some (.int y), none] (Nat.le_of_ble_eq_true rfl) (by simp [lvo, lv_args, Value.category]) (fun E hnl _ hC hR => ?_)
  refine V_iload_n hC dJ9_floorDiv_7cf53_0 rfl rfl ?_
  refine V_iload_n hC dJ9_floorDiv_7cf53_1 rfl rfl ?_
  refine V_idiv hC dJ9_floorDiv_7cf53_2 hy ?_
  refine V_istore_n2 hC dJ9_floorDiv_7cf53_3 rfl (by rw [hnl]; decide) rfl ?_
  refine V_iload_n hC dJ9_floorDiv_7cf53_4 rfl rfl ?_
  refine V_iload_n hC dJ9_floorDiv_7cf53_5 rfl rfl ?_
  refine V_ixor hC dJ9_floorDiv_7cf53_6 ?_
  refine V_if_ge hC 21 dJ9_floorDiv_7cf53_7 (by decide) (fun c7 => ?_) (fun c7 => ?_)
  · refine V_iload_n hC dJ9_floorDiv_7cf53_21 rfl rfl ?_
    refine V_iret hC hR dJ9_floorDiv_7cf53_22 ⟨rfl, rfl, _, rfl, ?_⟩
    exact ⟨by unfold fdv; first | (rw [if_neg (fun w => absurd w.1 (Int32.not_lt.mpr c7))]; done) | (rw [if_neg (fun w => w.2 c14)]; done), rfl⟩
  · refine V_iload_n hC dJ9_floorDiv_7cf53_10 rfl rfl ?_
    refine V_iload_n hC dJ9_floorDiv_7cf53_11 rfl rfl ?_
    refine V_imul hC dJ9_floorDiv_7cf53_12 ?_
    refine V_iload_n hC dJ9_floorDiv_7cf53_13 rfl rfl ?_
    refine V_icmp_eq hC 21 dJ9_floorDiv_7cf53_14 (by decide) (fun c14 => ?_) (fun c14 => ?_)
    · refine V_iload_n hC dJ9_floorDiv_7cf53_21 rfl rfl ?_
      refine V_iret hC hR dJ9_floorDiv_7cf53_22 ⟨rfl, rfl, _, rfl, ?_⟩
      exact ⟨by unfold fdv; first | (rw [if_neg (fun w => absurd w.1 (Int32.not_lt.mpr c7))]; done) | (rw [if_neg (fun w => w.2 c14)]; done), rfl⟩
    · refine V_iload_n hC dJ9_floorDiv_7cf53_17 rfl rfl ?_
      refine V_iconst hC 1 dJ9_floorDiv_7cf53_18 (by decide) ?_
      refine V_isub hC dJ9_floorDiv_7cf53_19 ?_
      refine V_iret hC hR dJ9_floorDiv_7cf53_20 ⟨rfl, rfl, _, rfl, ?_⟩
      exact ⟨by unfold fdv; rw [if_pos ⟨Int32.not_le.mp c7, c14⟩], rfl⟩
abbrev rmJ9_floorMod_7cf53 : Room := { frames := 0, cells := 0, slots := 0, locals := 0 }
set_option maxHeartbeats 4000000 in
set_option maxRecDepth 100000 in
theorem c_J9_floorMod_7cf53 (g : GE) (lau : Launch) {N : Nat} {ad : Nat → Nat} {f : Nat → va_E} (v y : Int32) (hy : ¬ y = 0) : Ct g lau yJ9_floorMod_7cf53 wsJ9_floorMod_7cf53 rmJ9_floorMod_7cf53 N ad [.int v, .int y] f (pI N ad (fun x u => x = fmd v y ∧ u = f)) 0 0 := by
  refine Ct.ofF (maxL := 3) rfl (by decide +kernel) [some (.int v), some (.int y), none] (Nat.le_of_ble_eq_true rfl) (by simp [lvo, lv_args, Value.category]) (fun E hnl _ hC hR => ?_)
  refine V_iload_n hC dJ9_floorMod_7cf53_0 rfl rfl ?_
  refine V_iload_n hC dJ9_floorMod_7cf53_1 rfl rfl ?_
  refine V_irem hC dJ9_floorMod_7cf53_2 hy ?_
  refine V_istore_n2 hC dJ9_floorMod_7cf53_3 rfl (by rw [hnl]; decide) rfl ?_
  refine V_iload_n hC dJ9_floorMod_7cf53_4 rfl rfl ?_
  refine V_iload_n hC dJ9_floorMod_7cf53_5 rfl rfl ?_
  refine V_ixor hC dJ9_floorMod_7cf53_6 ?_
  refine V_if_ge hC 18 dJ9_floorMod_7cf53_7 (by decide) (fun c7 => ?_) (fun c7 => ?_)
  · refine V_iload_n hC dJ9_floorMod_7cf53_18 rfl rfl ?_
    refine V_iret hC hR dJ9_floorMod_7cf53_19 ⟨rfl, rfl, _, rfl, ?_⟩
    exact ⟨by unfold fmd; first | (rw [if_neg (fun w => absurd w.1 (Int32.not_lt.mpr c7))]; done) | (rw [if_neg (fun w => w.2 c11)]; done), rfl⟩
  · refine V_iload_n hC dJ9_floorMod_7cf53_10 rfl rfl ?_
    refine V_if_eq hC 18 dJ9_floorMod_7cf53_11 (by decide) (fun c11 => ?_) (fun c11 => ?_)
    · refine V_iload_n hC dJ9_floorMod_7cf53_18 rfl rfl ?_
      refine V_iret hC hR dJ9_floorMod_7cf53_19 ⟨rfl, rfl, _, rfl, ?_⟩
      exact ⟨by unfold fmd; first | (rw [if_neg (fun w => absurd w.1 (Int32.not_lt.mpr c7))]; done) | (rw [if_neg (fun w => w.2 c11)]; done), rfl⟩
    · refine V_iload_n hC dJ9_floorMod_7cf53_14 rfl rfl ?_
      refine V_iload_n hC dJ9_floorMod_7cf53_15 rfl rfl ?_
      refine V_iadd hC dJ9_floorMod_7cf53_16 ?_
      refine V_iret hC hR dJ9_floorMod_7cf53_17 ⟨rfl, rfl, _, rfl, ?_⟩
      exact ⟨by unfold fmd; rw [if_pos ⟨Int32.not_le.mp c7, c11⟩], rfl⟩
theorem inX0_X0_hasRoom : ∀ w ∈ wsX00, w ∈ wsX0_hasRoom := by decide +kernel
theorem inX1_X0_hasRoom : ∀ w ∈ wsX10, w ∈ wsX0_hasRoom := by decide +kernel
abbrev rmX0_hasRoom : Room := { frames := 1, cells := 0, slots := 0, locals := 20 }
set_option maxHeartbeats 4000000 in
set_option maxRecDepth 100000 in
theorem c_X0_hasRoom (g : GE) (lau : Launch) {N : Nat} {ad : Nat → Nat} {f : Nat → va_E} {c : Nat} {s t : Nat → Int32} {p : Nat → Nat} {bc : Int32} {co ex : Nat → Int32} {rc : Int32} {pl : Nat → Int32} {pn : Int32} {wy : Nat → Int32} {gx : Nat → Nat → Int32} (hN : c + 16 ≤ N) {d r : List (Nat → Int32)} {x : Nat → Int32} (hx : qX p gx bc (d ++ x :: r)) (v w : Int32) : Ct g lau yX0_hasRoom wsX0_hasRoom rmX0_hasRoom N ad [.ref (ad c), .int (nI d.length), .int (v), .int (w)] (zB g ad f c s t p bc co ex rc pl pn wy gx) (pI N ad (fun x_ u => (x_ = 1 ∧ (rmA d v && rmB r w) = true ∧ u = (zB g ad f c s t p bc co ex rc pl pn wy gx)) ∨ (x_ = 0 ∧ (rmA d v && rmB r w) = false ∧ u = (zB g ad f c s t p bc co ex rc pl pn wy gx)))) 0 0 := by
  refine Ct.of (maxL := 4) rfl (by decide +kernel) [some (.ref (ad c)), some (.int (nI d.length)), some (.int (v)), some (.int (w))] (Nat.le_of_ble_eq_true rfl) (by simp [lvo, lv_args, Value.category]) (fun E hnl _ hC hR => ?_)
  have hlt := hx.lt
  have J : rmA d v = true → V E g N ad 0 0 (zB g ad f c s t p bc co ex rc pl pn wy gx) 23 [some (.ref (ad c)), some (.int (nI d.length)), some (.int (v)), some (.int (w))] [] := by
    intro hA
    cases r with
    | nil =>
      refine V_iload_n hC dX0_hasRoom_23 rfl rfl ?_
      refine V_iconst hC 1 dX0_hasRoom_24 (by decide) ?_
      refine V_iadd hC dX0_hasRoom_25 ?_
      refine V_aload_n hC dX0_hasRoom_26 rfl rfl ?_
      refine V_B_boxCount hC hN dX0_hasRoom_27 inX0_X0_hasRoom (by decide +kernel) ?_
      refine V_icmp_ge_t hC 50 dX0_hasRoom_30 (by decide) (by rw [hx.1]; simp only [List.length_append, List.length_cons, List.length_nil]; rw [show (1 : Int32) = nI 1 from rfl, nI_add]; exact Int32.le_refl _) ?_
      refine V_iconst hC 1 dX0_hasRoom_50 (by decide) ?_
      refine V_goto hC 55 dX0_hasRoom_51 (by decide) ?_
      refine V_zret hC hR rfl dX0_hasRoom_55 ⟨rfl, rfl, _, rfl, ?_⟩
      exact Or.inl ⟨rfl, by rw [hA]; rfl, rfl⟩
    | cons y r2 =>
      have hl2 : d.length + 1 < 8 := by have := hx.2.1; simp at this; omega
      have hpl := hx.p8 hl2
      have ey := hx.2.2.2.2 (d.length + 1) y (by simp)
      refine V_iload_n hC dX0_hasRoom_23 rfl rfl ?_
      refine V_iconst hC 1 dX0_hasRoom_24 (by decide) ?_
      refine V_iadd hC dX0_hasRoom_25 ?_
      refine V_eqt (nI (d.length + 1)) (nI_1 _) ?_
      refine V_aload_n hC dX0_hasRoom_26 rfl rfl ?_
      refine V_B_boxCount hC hN dX0_hasRoom_27 inX0_X0_hasRoom (by decide +kernel) ?_
      refine V_icmp_ge_f (tgt := 50) hC dX0_hasRoom_30 (by decide) (by rw [hx.1]; exact nI_ge (by simp) (by have := hx.2.1; omega)) ?_
      refine V_iload_n hC dX0_hasRoom_33 rfl rfl ?_
      refine V_aload_n hC dX0_hasRoom_34 rfl rfl ?_
      refine V_B_boxes hC hN dX0_hasRoom_35 inX0_X0_hasRoom (by decide +kernel) ?_
      refine V_iload_n hC dX0_hasRoom_38 rfl rfl ?_
      refine V_iconst hC 1 dX0_hasRoom_39 (by decide) ?_
      refine V_iadd hC dX0_hasRoom_40 ?_
      refine V_eqt (nI (d.length + 1)) (nI_1 _) ?_
      refine V_B_ld3 hC hN dX0_hasRoom_41 (ix_nI (j := d.length + 1) hl2 (by decide)) ?_
      refine V_X_front hC (by have := hpl; omega) (zB_box hpl) dX0_hasRoom_42 inX1_X0_hasRoom (by decide +kernel) ?_
      refine V_isub hC dX0_hasRoom_45 ?_
      refine V_iconst hC 1 dX0_hasRoom_46 (by decide) ?_
      refine V_icmp_lt hC 54 dX0_hasRoom_47 (by decide) (fun c47 => ?_) (fun c47 => ?_)
      · have hB : rmB (y :: r2) w = false := by rw [ey.1] at c47; exact decide_eq_false (Int32.not_le.mpr c47)
        refine V_iconst hC 0 dX0_hasRoom_54 (by decide) ?_
        refine V_zret hC hR rfl dX0_hasRoom_55 ⟨rfl, rfl, _, rfl, ?_⟩
        first | exact Or.inl ⟨rfl, by rw [hA, hB]; rfl, rfl⟩ | exact Or.inr ⟨rfl, by rw [hA, hB]; rfl, rfl⟩
      · have hB : rmB (y :: r2) w = true := by rw [ey.1] at c47; exact decide_eq_true (Int32.not_lt.mp c47)
        refine V_iconst hC 1 dX0_hasRoom_50 (by decide) ?_
        refine V_goto hC 55 dX0_hasRoom_51 (by decide) ?_
        refine V_zret hC hR rfl dX0_hasRoom_55 ⟨rfl, rfl, _, rfl, ?_⟩
        first | exact Or.inl ⟨rfl, by rw [hA, hB]; rfl, rfl⟩ | exact Or.inr ⟨rfl, by rw [hA, hB]; rfl, rfl⟩
  refine V_iload_n hC dX0_hasRoom_0 rfl rfl ?_
  refine V_if_le hC 23 dX0_hasRoom_1 (by decide) (fun c1 => ?_) (fun c1 => ?_)
  · have h0 : d.length = 0 := by rcases Nat.eq_zero_or_pos d.length with q | q; exact q; exact absurd c1 (nI_nle q (by omega))
    exact J (by unfold rmA; rw [last_get, List.getElem?_eq_none (by omega)])
  · have h0 : 0 < d.length := by rcases Nat.eq_zero_or_pos d.length with q | q; rw [q] at c1; exact absurd (by decide) c1; exact q
    have hpl := hx.p8 (show d.length - 1 < 8 by omega)
    obtain ⟨y, hy⟩ : ∃ y, d[d.length - 1]? = some y := ⟨_, List.getElem?_eq_getElem (by omega)⟩
    have hxy := hx.2.2.2.2 _ y ((cut_l (by omega)).mpr hy)
    refine V_aload_n hC dX0_hasRoom_4 rfl rfl ?_
    refine V_B_boxes hC hN dX0_hasRoom_5 inX0_X0_hasRoom (by decide +kernel) ?_
    refine V_iload_n hC dX0_hasRoom_8 rfl rfl ?_
    refine V_iconst hC 1 dX0_hasRoom_9 (by decide) ?_
    refine V_isub hC dX0_hasRoom_10 ?_
    refine V_eqt (nI (d.length - 1)) (by rw [show (1 : Int32) = nI 1 from rfl, pk_sub (by omega)]) ?_
    refine V_B_ld3 hC hN dX0_hasRoom_11 (ix_nI (j := d.length - 1) (by omega) (by decide)) ?_
    refine V_cvI (n := 0) hC (c_X1_back g (eL E) (i := c + 8 + p (d.length - 1)) (by omega) (zB_box hpl)) dX0_hasRoom_12 gX0_hasRoom_X1_back rfl rfl rfl ⟨rfl, rfl⟩ (by decide +kernel) (by decide +kernel) (by omega) (zB_box hpl) rfl (Nat.le_of_ble_eq_true rfl) (by decide) (fun x12 u12 h12 => ?_)
    obtain ⟨rfl, rfl⟩ := h12
    refine V_iload_n hC dX0_hasRoom_15 rfl rfl ?_
    refine V_isub hC dX0_hasRoom_16 ?_
    refine V_iconst hC 1 dX0_hasRoom_17 (by decide) ?_
    refine V_icmp_ge hC 23 dX0_hasRoom_18 (by decide) (fun c18 => ?_) (fun c18 => ?_)
    · have hA : rmA d v = true := by rw [hxy.1, hxy.2.1] at c18; unfold rmA; rw [last_get, hy]; exact decide_eq_true c18
      exact J hA
    · have hA : rmA d v = false := by rw [hxy.1, hxy.2.1] at c18; unfold rmA; rw [last_get, hy]; exact decide_eq_false c18
      refine V_iconst hC 0 dX0_hasRoom_21 (by decide) ?_
      refine V_zret hC hR rfl dX0_hasRoom_22 ⟨rfl, rfl, _, rfl, ?_⟩
      exact Or.inr ⟨rfl, by rw [hA]; rfl, rfl⟩
theorem isX.turn {y x : Nat → Int32} {a b : Int32} (q : isX y x) : isX (upd (upd y 0 a) 1 b) (upd (upd x 0 a) 1 b) := by
  obtain ⟨e0, e1, e2, e5, e6, e3, hb2, hb4⟩ := q
  exact ⟨rfl, rfl, e2, e5, e6, e3, hb2, hb4⟩
theorem inX0_X0_turnBox : ∀ w ∈ wsX00, w ∈ wsX0_turnBox := by decide +kernel
theorem inX1_X0_turnBox : ∀ w ∈ wsX10, w ∈ wsX0_turnBox := by decide +kernel
abbrev rmX0_turnBox : Room := { frames := 2, cells := 0, slots := 0, locals := 43 }
set_option maxHeartbeats 4000000 in
set_option maxRecDepth 100000 in
theorem c_X0_turnBox (g : GE) (lau : Launch) {N : Nat} {ad : Nat → Nat} {f : Nat → va_E} {c : Nat} {s t : Nat → Int32} {p : Nat → Nat} {bc : Int32} {co ex : Nat → Int32} {rc : Int32} {pl : Nat → Int32} {pn : Int32} {wy : Nat → Int32} {gx : Nat → Nat → Int32} (hN : c + 16 ≤ N) {m : MT} (hm : RepB s t p bc co ex rc pl pn wy gx m) (b v : Int32) (hlen : ∀ x ∈ m.2.1, okLen (x 1) = true) : Ct g lau yX0_turnBox wsX0_turnBox rmX0_turnBox N ad [.ref (ad c), .int (b), .int (v)] (zB g ad f c s t p bc co ex rc pl pn wy gx) (pI N ad (fun x u => x = (mTurn b v m).1 ∧ BIs g ad f c (mTurn b v m).2 u)) 0 0 := by
  refine Ct.of (maxL := 5) rfl (by decide +kernel) [some (.ref (ad c)), some (.int (b)), some (.int (v)), none, none] (Nat.le_of_ble_eq_true rfl) (by simp [lvo, lv_args, Value.category]) (fun E hnl _ hC hR => ?_)
  obtain ⟨h, bs, rs, ps⟩ := m
  have hm0 := hm
  obtain ⟨hh, hx, hr, hp⟩ := hm
  have hx : qX p gx bc bs := hx
  refine V_aload_n hC dX0_turnBox_0 rfl rfl ?_
  refine V_iload_n hC dX0_turnBox_1 rfl rfl ?_
  refine V_cvI (n := 1) hC (c_X0_isBox g (eL E) hN hx b) dX0_turnBox_2 gX0_turnBox_X0_isBox rfl rfl rfl ⟨rfl, rfl⟩ (by decide +kernel) (by decide +kernel) (by omega) zB_0 rfl (Nat.le_of_ble_eq_true rfl) (by decide) (fun x2 u2 h2 => ?_)
  rcases h2 with ⟨rfl, hj, rfl⟩ | ⟨rfl, hj, rfl⟩
  · obtain ⟨k, hk, rfl⟩ := hj
    obtain ⟨d, r, x, rfl, rfl⟩ := cut_ex hk
    have hlt := hx.lt
    have hpl := hx.p8 hlt
    have e := hx.get
    have hxl := hlen x (by simp)
    refine V_if_ne_t hC 10 dX0_turnBox_5 (by decide) (by decide) ?_
    refine V_iload_n hC dX0_turnBox_10 rfl rfl ?_
    refine V_csI (n := 1) hC (c_X1_canHave g (eL E) v) dX0_turnBox_11 gX0_turnBox_X1_canHave rfl rfl rfl ⟨rfl, rfl⟩ (by decide +kernel) (by decide +kernel) (Nat.le_of_ble_eq_true rfl) (by decide) (fun x11 u11 h11 => ?_)
    rcases h11 with ⟨rfl, hl, rfl⟩ | ⟨rfl, hl, rfl⟩
    · refine V_if_ne_t hC 20 dX0_turnBox_14 (by decide) (by decide) ?_
      refine V_aload_n hC dX0_turnBox_20 rfl rfl ?_
      refine V_B_boxes hC hN dX0_turnBox_21 inX0_X0_turnBox (by decide +kernel) ?_
      refine V_iload_n hC dX0_turnBox_24 rfl rfl ?_
      refine V_B_ld3 hC hN dX0_turnBox_25 (ix_nI (j := d.length) hlt (by decide)) ?_
      refine V_astore_n3 hC dX0_turnBox_26 rfl (by rw [hnl]; decide) rfl ?_
      refine V_aload_n hC dX0_turnBox_27 rfl rfl ?_
      refine V_X_front hC (by have := hpl; omega) (zB_box hpl) dX0_turnBox_28 inX1_X0_turnBox (by decide +kernel) ?_
      refine V_iload_n hC dX0_turnBox_31 rfl rfl ?_
      refine V_aload_n hC dX0_turnBox_32 rfl rfl ?_
      refine V_X_length hC (by have := hpl; omega) (zB_box hpl) dX0_turnBox_33 inX1_X0_turnBox (by decide +kernel) ?_
      refine V_isub hC dX0_turnBox_36 ?_
      refine V_iconst hC 2 dX0_turnBox_37 (by decide) ?_
      refine V_csI (n := 2) hC (c_J9_floorDiv_7cf53 g (eL E) _ 2 (by decide)) dX0_turnBox_38 gX0_turnBox_J9_floorDiv_7cf53 rfl rfl rfl ⟨rfl, rfl⟩ (by decide +kernel) (by decide +kernel) (Nat.le_of_ble_eq_true rfl) (by decide) (fun x38 u38 h38 => ?_)
      obtain ⟨rfl, rfl⟩ := h38
      refine V_eqt (halfD (v - x 1)) (by rw [e.2.1, fdv_len hl hxl]) ?_
      refine V_iadd hC dX0_turnBox_41 ?_
      refine V_eqt (frontT x v) (by rw [e.1]; rfl) ?_
      refine V_istore4 hC dX0_turnBox_42 (by rw [hnl]; decide) rfl ?_
      refine V_aload_n hC dX0_turnBox_44 rfl rfl ?_
      refine V_iload_n hC dX0_turnBox_45 rfl rfl ?_
      refine V_iload hC dX0_turnBox_46 rfl ?_
      refine V_iload hC dX0_turnBox_48 rfl ?_
      refine V_iload_n hC dX0_turnBox_50 rfl rfl ?_
      refine V_isub hC dX0_turnBox_51 ?_
      refine V_cvI (n := 3) hC (c_X0_hasRoom g (eL E) hN hx _ _) dX0_turnBox_52 gX0_turnBox_X0_hasRoom rfl rfl rfl ⟨rfl, rfl⟩ (by decide +kernel) (by decide +kernel) (by omega) zB_0 rfl (Nat.le_of_ble_eq_true rfl) (by decide) (fun x52 u52 h52 => ?_)
      rcases h52 with ⟨rfl, hR1, rfl⟩ | ⟨rfl, hR1, rfl⟩
      · refine V_if_ne_t hC 61 dX0_turnBox_55 (by decide) (by decide) ?_
        refine V_aload_n hC dX0_turnBox_61 rfl rfl ?_
        refine V_iload hC dX0_turnBox_62 rfl ?_
        refine V_X_put_front hC (by omega) (zB_box hpl) dX0_turnBox_64 inX1_X0_turnBox (by decide +kernel) ?_
        refine V_f (zB_ubox hpl) ?_
        refine V_aload_n hC dX0_turnBox_67 rfl rfl ?_
        refine V_iload_n hC dX0_turnBox_68 rfl rfl ?_
        refine V_X_put_length hC (by omega) (zB_box hpl) dX0_turnBox_69 inX1_X0_turnBox (by decide +kernel) ?_
        refine V_f (zB_ubox hpl) ?_
        refine V_f (by rw [va_up_self, up_uu]) ?_
        refine V_iload hC dX0_turnBox_72 rfl ?_
        refine V_sipush hC 1000 dX0_turnBox_74 (by decide) ?_
        refine V_iadd hC dX0_turnBox_77 ?_
        refine V_iret hC hR dX0_turnBox_78 ⟨rfl, rfl, _, rfl, ?_⟩
        rw [mTurn_cut (by omega), hl, hR1]
        exact ⟨rfl, BIs.mk ⟨hh, hx.set e.turn, hr, hp⟩⟩
      · refine V_if_ne_f (tgt := 61) hC dX0_turnBox_55 (by decide) rfl ?_
        refine V_bipush hC (-5) dX0_turnBox_58 (by decide) ?_
        refine V_iret hC hR dX0_turnBox_60 ⟨rfl, rfl, _, rfl, ?_⟩
        rw [mTurn_cut (by omega), hl, hR1]
        exact ⟨rfl, BIs.mk hm0⟩
    · refine V_if_ne_f (tgt := 20) hC dX0_turnBox_14 (by decide) rfl ?_
      refine V_bipush hC (-2) dX0_turnBox_17 (by decide) ?_
      refine V_iret hC hR dX0_turnBox_19 ⟨rfl, rfl, _, rfl, ?_⟩
      rw [mTurn_cut (by omega), hl]
      exact ⟨rfl, BIs.mk hm0⟩
  · have hno := mTurn_no (m := (h, bs, rs, ps)) (len := v) hj
    refine V_if_ne_f (tgt := 10) hC dX0_turnBox_5 (by decide) rfl ?_
    refine V_iconst hC (-1) dX0_turnBox_8 (by decide) ?_
    refine V_iret hC hR dX0_turnBox_9 ⟨rfl, rfl, _, rfl, ?_⟩
    rw [hno]
    exact ⟨rfl, BIs.mk hm0⟩
end
section
/-- the cells from c on of the world u are a belt -/
def hasB (g : GE) (ad : Nat → Nat) (u : Nat → va_E) (c : Nat) (s t : Nat → Int32) (p : Nat → Nat) (bc : Int32) (co ex : Nat → Int32) (rc : Int32) (pl : Nat → Int32) (pn : Int32) (wy : Nat → Int32) (gx : Nat → Nat → Int32) : Prop := u c = .inr (0, [.ref (ad (c + 1)), .ref (ad (c + 2)), .ref (ad (c + 3)), .int bc, .ref (ad (c + 4)), .ref (ad (c + 5)), .int rc, .ref (ad (c + 6)), .int pn, .ref (ad (c + 7))]) ∧ u (c + 1) = .inl (g.2.1 0, 8, .inl s) ∧ u (c + 2) = .inl (g.2.1 0, 14, .inl t) ∧ u (c + 3) = .inl (g.2.1 4, 8, .inr (.inr (.inr (.inr (fun i => some (ad (c + 8 + p i))))))) ∧ u (c + 4) = .inl (g.2.1 0, 32, .inl co) ∧ u (c + 5) = .inl (g.2.1 0, 32, .inl ex) ∧ u (c + 6) = .inl (g.2.1 0, 32, .inl pl) ∧ u (c + 7) = .inl (g.2.1 0, 5, .inl wy) ∧ ∀ j, j < 8 → u (c + 8 + j) = boxE (gx j)
theorem hasB.of {g : GE} {ad : Nat → Nat} {c : Nat} {s t : Nat → Int32} {p : Nat → Nat} {bc : Int32} {co ex : Nat → Int32} {rc : Int32} {pl : Nat → Int32} {pn : Int32} {wy : Nat → Int32} {gx : Nat → Nat → Int32} {f : Nat → va_E} : hasB g ad (zB g ad f c s t p bc co ex rc pl pn wy gx) c s t p bc co ex rc pl pn wy gx := ⟨zB_0, zB0_a1, zB0_a2, zB0_a3, zB0_a4, zB0_a5, zB0_a6, zB0_a7, fun _ h => zB_box h⟩
theorem hasB.keep {g : GE} {ad : Nat → Nat} {c : Nat} {s t : Nat → Int32} {p : Nat → Nat} {bc : Int32} {co ex : Nat → Int32} {rc : Int32} {pl : Nat → Int32} {pn : Int32} {wy : Nat → Int32} {gx : Nat → Nat → Int32} {u v : Nat → va_E} (h : hasB g ad u c s t p bc co ex rc pl pn wy gx) (he : ∀ q, c ≤ q → q < c + 16 → v q = u q) : hasB g ad v c s t p bc co ex rc pl pn wy gx := ⟨(he _ (by omega) (by omega)).trans h.1, (he _ (by omega) (by omega)).trans h.2.1, (he _ (by omega) (by omega)).trans h.2.2.1, (he _ (by omega) (by omega)).trans h.2.2.2.1, (he _ (by omega) (by omega)).trans h.2.2.2.2.1, (he _ (by omega) (by omega)).trans h.2.2.2.2.2.1, (he _ (by omega) (by omega)).trans h.2.2.2.2.2.2.1, (he _ (by omega) (by omega)).trans h.2.2.2.2.2.2.2.1, fun j hj => (he _ (by omega) (by omega)).trans (h.2.2.2.2.2.2.2.2 j hj)⟩
theorem hasB.over {g : GE} {ad : Nat → Nat} {c : Nat} {s t : Nat → Int32} {p : Nat → Nat} {bc : Int32} {co ex : Nat → Int32} {rc : Int32} {pl : Nat → Int32} {pn : Int32} {wy : Nat → Int32} {gx : Nat → Nat → Int32} {c2 : Nat} {s2 t2 : Nat → Int32} {p2 : Nat → Nat} {bc2 : Int32} {co2 ex2 : Nat → Int32} {rc2 : Int32} {pl2 : Nat → Int32} {pn2 : Int32} {wy2 : Nat → Int32} {gx2 : Nat → Nat → Int32} {u : Nat → va_E} (h : hasB g ad u c s t p bc co ex rc pl pn wy gx) (hd : c + 16 ≤ c2 ∨ c2 + 16 ≤ c) : hasB g ad (zB g ad u c2 s2 t2 p2 bc2 co2 ex2 rc2 pl2 pn2 wy2 gx2) c s t p bc co ex rc pl pn wy gx := h.keep fun q h1 h2 => zB_out (by omega)
theorem hasB.self {g : GE} {ad : Nat → Nat} {c : Nat} {s t : Nat → Int32} {p : Nat → Nat} {bc : Int32} {co ex : Nat → Int32} {rc : Int32} {pl : Nat → Int32} {pn : Int32} {wy : Nat → Int32} {gx : Nat → Nat → Int32} {u : Nat → va_E} (h : hasB g ad u c s t p bc co ex rc pl pn wy gx) : u = zB g ad u c s t p bc co ex rc pl pn wy gx := by
  funext q
  by_cases hq : q < c ∨ c + 16 ≤ q
  · rw [zB_out hq]
  · by_cases h8 : c + 8 ≤ q
    · obtain ⟨j, hj⟩ : ∃ j, q = c + 8 + j := ⟨q - (c + 8), by omega⟩
      subst hj
      rw [h.2.2.2.2.2.2.2.2 j (by omega), zB_box (by omega)]
    · have hh : hasB g ad (zB g ad u c s t p bc co ex rc pl pn wy gx) c s t p bc co ex rc pl pn wy gx := hasB.of
      rcases (show q = c ∨ q = c + 1 ∨ q = c + 2 ∨ q = c + 3 ∨ q = c + 4 ∨ q = c + 5 ∨ q = c + 6 ∨ q = c + 7 by omega) with e | e | e | e | e | e | e | e <;> subst e
      · exact h.1.trans hh.1.symm
      · exact h.2.1.trans hh.2.1.symm
      · exact h.2.2.1.trans hh.2.2.1.symm
      · exact h.2.2.2.1.trans hh.2.2.2.1.symm
      · exact h.2.2.2.2.1.trans hh.2.2.2.2.1.symm
      · exact h.2.2.2.2.2.1.trans hh.2.2.2.2.2.1.symm
      · exact h.2.2.2.2.2.2.1.trans hh.2.2.2.2.2.2.1.symm
      · exact h.2.2.2.2.2.2.2.1.trans hh.2.2.2.2.2.2.2.1.symm
/-- the world u has at c a belt with the value m -/
def BAt (g : GE) (ad : Nat → Nat) (c : Nat) (m : MT) (u : Nat → va_E) : Prop := ∃ (s t : Nat → Int32) (p : Nat → Nat) (bc : Int32) (co ex : Nat → Int32) (rc : Int32) (pl : Nat → Int32) (pn : Int32) (wy : Nat → Int32) (gx : Nat → Nat → Int32), hasB g ad u c s t p bc co ex rc pl pn wy gx ∧ RepB s t p bc co ex rc pl pn wy gx m
theorem BIs.at {g : GE} {ad : Nat → Nat} {f u : Nat → va_E} {c : Nat} {m : MT} (h : BIs g ad f c m u) : BAt g ad c m u ∧ ∀ q, q < c ∨ c + 16 ≤ q → u q = f q := by
  obtain ⟨s, t, p, bc, co, ex, rc, pl, pn, wy, gx, rfl, hm⟩ := h
  exact ⟨⟨s, t, p, bc, co, ex, rc, pl, pn, wy, gx, hasB.of, hm⟩, fun q hq => zB_out hq⟩
theorem BAt.keep {g : GE} {ad : Nat → Nat} {u v : Nat → va_E} {c : Nat} {m : MT} (h : BAt g ad c m u) (he : ∀ q, c ≤ q → q < c + 16 → v q = u q) : BAt g ad c m v := by
  obtain ⟨s, t, p, bc, co, ex, rc, pl, pn, wy, gx, hu, hm⟩ := h
  exact ⟨s, t, p, bc, co, ex, rc, pl, pn, wy, gx, hu.keep he, hm⟩
theorem cpy0 {a b : Nat → Int32} {n i : Nat} (h : i < n) : va_cpy a b 0 0 n i = a i := by simp [va_cpy, h]
theorem V_B_cp1 {E : EV} {g : GE} {N : Nat} {ad : Nat → Nat} {f : Nat → va_E} {pc : Nat} {lo : List (Option Value)} {st : List Value} {cc : ByteArray} {Ts : List Cond} {own : String} {rm : Room} {c : Nat} {s t : Nat → Int32} {p : Nat → Nat} {bc : Int32} {co ex : Nat → Int32} {rc : Int32} {pl : Nat → Int32} {pn : Int32} {wy : Nat → Int32} {gx : Nat → Nat → Int32} (hC : CX E g cc Ts own rm) (hN : c + 16 ≤ N) {i0 n0 k : Nat} {a : Nat → Int32} {index : Nat} {n : Int32} (hd : decode cc pc = .ok (.invokestatic index, 3)) (hw1 : Cond.methodLink own index arraycopyName ∈ Ts) (hw2 : Cond.native arraycopyName ∈ Ts) (hw3 : Cond.static arraycopyName ∈ Ts) (hw4 : Cond.initialized "java/lang/System" ∈ Ts) (hi0 : i0 < N) (hf0 : zB g ad f c s t p bc co ex rc pl pn wy gx i0 = .inl (g.2.1 0, n0, .inl a)) (hn : ¬ n < 0) (hk : n.toNatClampNeg = k) (h4 : k ≤ n0) (h5 : k ≤ 8) (hR : 1 ≤ rm.frames) (hR2 : (st.map fun v => v.category).sum + (nativeFrameWords "java/lang/System" "arraycopy" 5 + 11) ≤ rm.locals) (kk : V E g N ad 0 0 (zB g ad f c (va_cpy a s 0 0 k) t p bc co ex rc pl pn wy gx) (pc + 3) lo st) : V E g N ad 0 0 (zB g ad f c s t p bc co ex rc pl pn wy gx) pc lo (.int n :: .int 0 :: .ref (ad (c + 1)) :: .int 0 :: .ref (ad i0) :: st) := V_copy hC hd hw1 hw2 hw3 hw4 hi0 hf0 (by omega) zB0_a1 hn hk h4 h5 hR hR2 (V_f zB0_u1 kk)
theorem V_B_cp2 {E : EV} {g : GE} {N : Nat} {ad : Nat → Nat} {f : Nat → va_E} {pc : Nat} {lo : List (Option Value)} {st : List Value} {cc : ByteArray} {Ts : List Cond} {own : String} {rm : Room} {c : Nat} {s t : Nat → Int32} {p : Nat → Nat} {bc : Int32} {co ex : Nat → Int32} {rc : Int32} {pl : Nat → Int32} {pn : Int32} {wy : Nat → Int32} {gx : Nat → Nat → Int32} (hC : CX E g cc Ts own rm) (hN : c + 16 ≤ N) {i0 n0 k : Nat} {a : Nat → Int32} {index : Nat} {n : Int32} (hd : decode cc pc = .ok (.invokestatic index, 3)) (hw1 : Cond.methodLink own index arraycopyName ∈ Ts) (hw2 : Cond.native arraycopyName ∈ Ts) (hw3 : Cond.static arraycopyName ∈ Ts) (hw4 : Cond.initialized "java/lang/System" ∈ Ts) (hi0 : i0 < N) (hf0 : zB g ad f c s t p bc co ex rc pl pn wy gx i0 = .inl (g.2.1 0, n0, .inl a)) (hn : ¬ n < 0) (hk : n.toNatClampNeg = k) (h4 : k ≤ n0) (h5 : k ≤ 14) (hR : 1 ≤ rm.frames) (hR2 : (st.map fun v => v.category).sum + (nativeFrameWords "java/lang/System" "arraycopy" 5 + 11) ≤ rm.locals) (kk : V E g N ad 0 0 (zB g ad f c s (va_cpy a t 0 0 k) p bc co ex rc pl pn wy gx) (pc + 3) lo st) : V E g N ad 0 0 (zB g ad f c s t p bc co ex rc pl pn wy gx) pc lo (.int n :: .int 0 :: .ref (ad (c + 2)) :: .int 0 :: .ref (ad i0) :: st) := V_copy hC hd hw1 hw2 hw3 hw4 hi0 hf0 (by omega) zB0_a2 hn hk h4 h5 hR hR2 (V_f zB0_u2 kk)
theorem V_B_cp4 {E : EV} {g : GE} {N : Nat} {ad : Nat → Nat} {f : Nat → va_E} {pc : Nat} {lo : List (Option Value)} {st : List Value} {cc : ByteArray} {Ts : List Cond} {own : String} {rm : Room} {c : Nat} {s t : Nat → Int32} {p : Nat → Nat} {bc : Int32} {co ex : Nat → Int32} {rc : Int32} {pl : Nat → Int32} {pn : Int32} {wy : Nat → Int32} {gx : Nat → Nat → Int32} (hC : CX E g cc Ts own rm) (hN : c + 16 ≤ N) {i0 n0 k : Nat} {a : Nat → Int32} {index : Nat} {n : Int32} (hd : decode cc pc = .ok (.invokestatic index, 3)) (hw1 : Cond.methodLink own index arraycopyName ∈ Ts) (hw2 : Cond.native arraycopyName ∈ Ts) (hw3 : Cond.static arraycopyName ∈ Ts) (hw4 : Cond.initialized "java/lang/System" ∈ Ts) (hi0 : i0 < N) (hf0 : zB g ad f c s t p bc co ex rc pl pn wy gx i0 = .inl (g.2.1 0, n0, .inl a)) (hn : ¬ n < 0) (hk : n.toNatClampNeg = k) (h4 : k ≤ n0) (h5 : k ≤ 32) (hR : 1 ≤ rm.frames) (hR2 : (st.map fun v => v.category).sum + (nativeFrameWords "java/lang/System" "arraycopy" 5 + 11) ≤ rm.locals) (kk : V E g N ad 0 0 (zB g ad f c s t p bc (va_cpy a co 0 0 k) ex rc pl pn wy gx) (pc + 3) lo st) : V E g N ad 0 0 (zB g ad f c s t p bc co ex rc pl pn wy gx) pc lo (.int n :: .int 0 :: .ref (ad (c + 4)) :: .int 0 :: .ref (ad i0) :: st) := V_copy hC hd hw1 hw2 hw3 hw4 hi0 hf0 (by omega) zB0_a4 hn hk h4 h5 hR hR2 (V_f zB0_u4 kk)
theorem V_B_cp5 {E : EV} {g : GE} {N : Nat} {ad : Nat → Nat} {f : Nat → va_E} {pc : Nat} {lo : List (Option Value)} {st : List Value} {cc : ByteArray} {Ts : List Cond} {own : String} {rm : Room} {c : Nat} {s t : Nat → Int32} {p : Nat → Nat} {bc : Int32} {co ex : Nat → Int32} {rc : Int32} {pl : Nat → Int32} {pn : Int32} {wy : Nat → Int32} {gx : Nat → Nat → Int32} (hC : CX E g cc Ts own rm) (hN : c + 16 ≤ N) {i0 n0 k : Nat} {a : Nat → Int32} {index : Nat} {n : Int32} (hd : decode cc pc = .ok (.invokestatic index, 3)) (hw1 : Cond.methodLink own index arraycopyName ∈ Ts) (hw2 : Cond.native arraycopyName ∈ Ts) (hw3 : Cond.static arraycopyName ∈ Ts) (hw4 : Cond.initialized "java/lang/System" ∈ Ts) (hi0 : i0 < N) (hf0 : zB g ad f c s t p bc co ex rc pl pn wy gx i0 = .inl (g.2.1 0, n0, .inl a)) (hn : ¬ n < 0) (hk : n.toNatClampNeg = k) (h4 : k ≤ n0) (h5 : k ≤ 32) (hR : 1 ≤ rm.frames) (hR2 : (st.map fun v => v.category).sum + (nativeFrameWords "java/lang/System" "arraycopy" 5 + 11) ≤ rm.locals) (kk : V E g N ad 0 0 (zB g ad f c s t p bc co (va_cpy a ex 0 0 k) rc pl pn wy gx) (pc + 3) lo st) : V E g N ad 0 0 (zB g ad f c s t p bc co ex rc pl pn wy gx) pc lo (.int n :: .int 0 :: .ref (ad (c + 5)) :: .int 0 :: .ref (ad i0) :: st) := V_copy hC hd hw1 hw2 hw3 hw4 hi0 hf0 (by omega) zB0_a5 hn hk h4 h5 hR hR2 (V_f zB0_u5 kk)
theorem V_B_cp6 {E : EV} {g : GE} {N : Nat} {ad : Nat → Nat} {f : Nat → va_E} {pc : Nat} {lo : List (Option Value)} {st : List Value} {cc : ByteArray} {Ts : List Cond} {own : String} {rm : Room} {c : Nat} {s t : Nat → Int32} {p : Nat → Nat} {bc : Int32} {co ex : Nat → Int32} {rc : Int32} {pl : Nat → Int32} {pn : Int32} {wy : Nat → Int32} {gx : Nat → Nat → Int32} (hC : CX E g cc Ts own rm) (hN : c + 16 ≤ N) {i0 n0 k : Nat} {a : Nat → Int32} {index : Nat} {n : Int32} (hd : decode cc pc = .ok (.invokestatic index, 3)) (hw1 : Cond.methodLink own index arraycopyName ∈ Ts) (hw2 : Cond.native arraycopyName ∈ Ts) (hw3 : Cond.static arraycopyName ∈ Ts) (hw4 : Cond.initialized "java/lang/System" ∈ Ts) (hi0 : i0 < N) (hf0 : zB g ad f c s t p bc co ex rc pl pn wy gx i0 = .inl (g.2.1 0, n0, .inl a)) (hn : ¬ n < 0) (hk : n.toNatClampNeg = k) (h4 : k ≤ n0) (h5 : k ≤ 32) (hR : 1 ≤ rm.frames) (hR2 : (st.map fun v => v.category).sum + (nativeFrameWords "java/lang/System" "arraycopy" 5 + 11) ≤ rm.locals) (kk : V E g N ad 0 0 (zB g ad f c s t p bc co ex rc (va_cpy a pl 0 0 k) pn wy gx) (pc + 3) lo st) : V E g N ad 0 0 (zB g ad f c s t p bc co ex rc pl pn wy gx) pc lo (.int n :: .int 0 :: .ref (ad (c + 6)) :: .int 0 :: .ref (ad i0) :: st) := V_copy hC hd hw1 hw2 hw3 hw4 hi0 hf0 (by omega) zB0_a6 hn hk h4 h5 hR hR2 (V_f zB0_u6 kk)
theorem V_B_cp7 {E : EV} {g : GE} {N : Nat} {ad : Nat → Nat} {f : Nat → va_E} {pc : Nat} {lo : List (Option Value)} {st : List Value} {cc : ByteArray} {Ts : List Cond} {own : String} {rm : Room} {c : Nat} {s t : Nat → Int32} {p : Nat → Nat} {bc : Int32} {co ex : Nat → Int32} {rc : Int32} {pl : Nat → Int32} {pn : Int32} {wy : Nat → Int32} {gx : Nat → Nat → Int32} (hC : CX E g cc Ts own rm) (hN : c + 16 ≤ N) {i0 n0 k : Nat} {a : Nat → Int32} {index : Nat} {n : Int32} (hd : decode cc pc = .ok (.invokestatic index, 3)) (hw1 : Cond.methodLink own index arraycopyName ∈ Ts) (hw2 : Cond.native arraycopyName ∈ Ts) (hw3 : Cond.static arraycopyName ∈ Ts) (hw4 : Cond.initialized "java/lang/System" ∈ Ts) (hi0 : i0 < N) (hf0 : zB g ad f c s t p bc co ex rc pl pn wy gx i0 = .inl (g.2.1 0, n0, .inl a)) (hn : ¬ n < 0) (hk : n.toNatClampNeg = k) (h4 : k ≤ n0) (h5 : k ≤ 5) (hR : 1 ≤ rm.frames) (hR2 : (st.map fun v => v.category).sum + (nativeFrameWords "java/lang/System" "arraycopy" 5 + 11) ≤ rm.locals) (kk : V E g N ad 0 0 (zB g ad f c s t p bc co ex rc pl pn (va_cpy a wy 0 0 k) gx) (pc + 3) lo st) : V E g N ad 0 0 (zB g ad f c s t p bc co ex rc pl pn wy gx) pc lo (.int n :: .int 0 :: .ref (ad (c + 7)) :: .int 0 :: .ref (ad i0) :: st) := V_copy hC hd hw1 hw2 hw3 hw4 hi0 hf0 (by omega) zB0_a7 hn hk h4 h5 hR hR2 (V_f zB0_u7 kk)
theorem inX0_X0_copyFrom : ∀ w ∈ wsX00, w ∈ wsX0_copyFrom := by decide +kernel
theorem inX1_X0_copyFrom : ∀ w ∈ wsX10, w ∈ wsX0_copyFrom := by decide +kernel
abbrev rmX0_copyFrom : Room := { frames := 1, cells := 0, slots := 0, locals := 40 }
set_option maxHeartbeats 4000000 in
set_option maxRecDepth 100000 in
theorem c_X0_copyFrom (g : GE) (lau : Launch) {N : Nat} {ad : Nat → Nat} {f : Nat → va_E} {c : Nat} {s t : Nat → Int32} {p : Nat → Nat} {bc : Int32} {co ex : Nat → Int32} {rc : Int32} {pl : Nat → Int32} {pn : Int32} {wy : Nat → Int32} {gx : Nat → Nat → Int32} (hN : c + 16 ≤ N) {m0 : MT} (hm0 : RepB s t p bc co ex rc pl pn wy gx m0) {c2 : Nat} {s2 t2 : Nat → Int32} {p2 : Nat → Nat} {bc2 : Int32} {co2 ex2 : Nat → Int32} {rc2 : Int32} {pl2 : Nat → Int32} {pn2 : Int32} {wy2 : Nat → Int32} {gx2 : Nat → Nat → Int32} (hN2 : c2 + 16 ≤ N) (hd2 : c2 + 16 ≤ c ∨ c + 16 ≤ c2) (hO : hasB g ad f c2 s2 t2 p2 bc2 co2 ex2 rc2 pl2 pn2 wy2 gx2) {m : MT} (hm : RepB s2 t2 p2 bc2 co2 ex2 rc2 pl2 pn2 wy2 gx2 m) : Ct g lau yX0_copyFrom wsX0_copyFrom rmX0_copyFrom N ad [.ref (ad c), .ref (ad c2)] (zB g ad f c s t p bc co ex rc pl pn wy gx) (pV N ad (fun u => BIs g ad f c m u)) 0 0 := by
  refine Ct.of (maxL := 3) rfl (by decide +kernel) [some (.ref (ad c)), some (.ref (ad c2)), none] (Nat.le_of_ble_eq_true rfl) (by simp [lvo, lv_args, Value.category]) (fun E hnl _ hC hR => ?_)
  have hxp := hm0.2.1
  have hpi : ∀ j, j < 8 → p j < 8 := hxp.2.2.1
  have hinj := hxp.2.2.2.1
  obtain ⟨h, bs, rs, ps⟩ := m
  obtain ⟨hh, hx, hr, hp⟩ : qH s2 t2 wy2 h ∧ qX p2 gx2 bc2 bs ∧ qR co2 ex2 rc2 rs ∧ qP pl2 pn2 ps := hm
  have hr28 := hr.2.1
  have hp29 := hp.2.1
  have loop : ∀ (r d : List (Nat → Int32)) (gx : Nat → Nat → Int32), d ++ r = bs → (∀ j x, d[j]? = some x → isX (gx (p j)) x) → V E g N ad 0 0 (zB g ad f c (va_cpy s2 s 0 0 8) (va_cpy t2 t 0 0 14) p bc2 co ex rc pl pn wy gx) 46 [some (.ref (ad c)), some (.ref (ad c2)), some (.int (nI d.length))] [] := by
    intro r
    induction r with
    | nil =>
      intro d gx hd hg
      rw [List.append_nil] at hd
      subst hd
      refine V_iload_n hC dX0_copyFrom_46 rfl rfl ?_
      refine V_aload_n hC dX0_copyFrom_47 rfl rfl ?_
      refine V_B_boxCount hC hN dX0_copyFrom_48 inX0_X0_copyFrom (by decide +kernel) ?_
      refine V_icmp_ge_t hC 75 dX0_copyFrom_51 (by decide) (by rw [hx.1]; exact Int32.le_refl _) ?_
      refine V_aload_n hC dX0_copyFrom_75 rfl rfl ?_
      refine V_aload_n hC dX0_copyFrom_76 rfl rfl ?_
      refine V_get hC 6 dX0_copyFrom_77 (by omega) ((hO.over hd2)).1 rfl (by decide) inX0_X0_copyFrom (by decide +kernel) rfl ?_
      refine V_B_put_reportCount hC hN dX0_copyFrom_80 inX0_X0_copyFrom (by decide +kernel) ?_
      refine V_aload_n hC dX0_copyFrom_83 rfl rfl ?_
      refine V_get hC 4 dX0_copyFrom_84 (by omega) ((hO.over hd2)).1 rfl (by decide) inX0_X0_copyFrom (by decide +kernel) rfl ?_
      refine V_iconst hC 0 dX0_copyFrom_87 (by decide) ?_
      refine V_aload_n hC dX0_copyFrom_88 rfl rfl ?_
      refine V_B_comes hC hN dX0_copyFrom_89 inX0_X0_copyFrom (by decide +kernel) ?_
      refine V_iconst hC 0 dX0_copyFrom_92 (by decide) ?_
      refine V_aload_n hC dX0_copyFrom_93 rfl rfl ?_
      refine V_B_reportCount hC hN dX0_copyFrom_94 inX0_X0_copyFrom (by decide +kernel) ?_
      refine V_B_cp4 (k := rs.length) hC hN dX0_copyFrom_97 (by decide +kernel) (by decide +kernel) (by decide +kernel) (by decide +kernel) (by omega) (hO.over hd2).2.2.2.2.1 (by rw [hr.1]; exact nI_pos (by omega)) (by rw [hr.1]; exact nI_clamp (by omega)) (by omega) (by omega) (by decide) (Nat.le_of_ble_eq_true rfl) ?_
      refine V_aload_n hC dX0_copyFrom_100 rfl rfl ?_
      refine V_get hC 5 dX0_copyFrom_101 (by omega) ((hO.over hd2)).1 rfl (by decide) inX0_X0_copyFrom (by decide +kernel) rfl ?_
      refine V_iconst hC 0 dX0_copyFrom_104 (by decide) ?_
      refine V_aload_n hC dX0_copyFrom_105 rfl rfl ?_
      refine V_B_excesses hC hN dX0_copyFrom_106 inX0_X0_copyFrom (by decide +kernel) ?_
      refine V_iconst hC 0 dX0_copyFrom_109 (by decide) ?_
      refine V_aload_n hC dX0_copyFrom_110 rfl rfl ?_
      refine V_B_reportCount hC hN dX0_copyFrom_111 inX0_X0_copyFrom (by decide +kernel) ?_
      refine V_B_cp5 (k := rs.length) hC hN dX0_copyFrom_114 (by decide +kernel) (by decide +kernel) (by decide +kernel) (by decide +kernel) (by omega) (hO.over hd2).2.2.2.2.2.1 (by rw [hr.1]; exact nI_pos (by omega)) (by rw [hr.1]; exact nI_clamp (by omega)) (by omega) (by omega) (by decide) (Nat.le_of_ble_eq_true rfl) ?_
      refine V_aload_n hC dX0_copyFrom_117 rfl rfl ?_
      refine V_aload_n hC dX0_copyFrom_118 rfl rfl ?_
      refine V_get hC 8 dX0_copyFrom_119 (by omega) ((hO.over hd2)).1 rfl (by decide) inX0_X0_copyFrom (by decide +kernel) rfl ?_
      refine V_B_put_planCount hC hN dX0_copyFrom_122 inX0_X0_copyFrom (by decide +kernel) ?_
      refine V_aload_n hC dX0_copyFrom_125 rfl rfl ?_
      refine V_get hC 7 dX0_copyFrom_126 (by omega) ((hO.over hd2)).1 rfl (by decide) inX0_X0_copyFrom (by decide +kernel) rfl ?_
      refine V_iconst hC 0 dX0_copyFrom_129 (by decide) ?_
      refine V_aload_n hC dX0_copyFrom_130 rfl rfl ?_
      refine V_B_plans hC hN dX0_copyFrom_131 inX0_X0_copyFrom (by decide +kernel) ?_
      refine V_iconst hC 0 dX0_copyFrom_134 (by decide) ?_
      refine V_aload_n hC dX0_copyFrom_135 rfl rfl ?_
      refine V_B_planCount hC hN dX0_copyFrom_136 inX0_X0_copyFrom (by decide +kernel) ?_
      refine V_B_cp6 (k := ps.length) hC hN dX0_copyFrom_139 (by decide +kernel) (by decide +kernel) (by decide +kernel) (by decide +kernel) (by omega) (hO.over hd2).2.2.2.2.2.2.1 (by rw [hp.1]; exact nI_pos (by omega)) (by rw [hp.1]; exact nI_clamp (by omega)) (by omega) (by omega) (by decide) (Nat.le_of_ble_eq_true rfl) ?_
      refine V_aload_n hC dX0_copyFrom_142 rfl rfl ?_
      refine V_get hC 9 dX0_copyFrom_143 (by omega) ((hO.over hd2)).1 rfl (by decide) inX0_X0_copyFrom (by decide +kernel) rfl ?_
      refine V_iconst hC 0 dX0_copyFrom_146 (by decide) ?_
      refine V_aload_n hC dX0_copyFrom_147 rfl rfl ?_
      refine V_B_ways hC hN dX0_copyFrom_148 inX0_X0_copyFrom (by decide +kernel) ?_
      refine V_iconst hC 0 dX0_copyFrom_151 (by decide) ?_
      refine V_aload_n hC dX0_copyFrom_152 rfl rfl ?_
      refine V_B_ways hC hN dX0_copyFrom_153 inX0_X0_copyFrom (by decide +kernel) ?_
      refine V_B_len7 hC hN 5 dX0_copyFrom_156 rfl ?_
      refine V_B_cp7 (k := 5) hC hN dX0_copyFrom_157 (by decide +kernel) (by decide +kernel) (by decide +kernel) (by decide +kernel) (by omega) (hO.over hd2).2.2.2.2.2.2.2.1 (by decide) (by decide) (by decide) (by decide) (by decide) (Nat.le_of_ble_eq_true rfl) ?_
      refine V_vret hC hR dX0_copyFrom_160 ⟨rfl, rfl, rfl, ?_⟩
      refine BIs.mk ⟨⟨fun i hi => ?_, fun i h1 h2 h3 h4 => ?_, fun k hk => ?_⟩, ⟨hx.1, hx.2.1, hpi, hinj, hg⟩, ⟨hr.1, hr.2.1, fun j q hq => ?_⟩, hp.1, hp.2.1, fun j q hq => ?_⟩
      · rw [cpy0 hi]; exact hh.1 i hi
      · rw [cpy0 h1]; exact hh.2.1 i h1 h2 h3 h4
      · rw [cpy0 hk]; exact hh.2.2 k hk
      · have := (List.getElem?_eq_some_iff.mp hq).1
        rw [cpy0 this, cpy0 this]; exact hr.2.2 j q hq
      · rw [cpy0 (List.getElem?_eq_some_iff.mp hq).1]; exact hp.2.2 j q hq
    | cons x r ih =>
      intro d gx hd hg
      have hx2 := hx
      rw [← hd] at hx2
      have hlt := hx2.lt
      have e := hx2.get
      have hpl := hpi _ hlt
      have hp2 := hx2.p8 hlt
      refine V_iload_n hC dX0_copyFrom_46 rfl rfl ?_
      refine V_aload_n hC dX0_copyFrom_47 rfl rfl ?_
      refine V_B_boxCount hC hN dX0_copyFrom_48 inX0_X0_copyFrom (by decide +kernel) ?_
      refine V_icmp_ge_f (tgt := 75) hC dX0_copyFrom_51 (by decide) (by rw [hx2.1]; exact nI_ge (by simp) (by have := hx2.2.1; omega)) ?_
      refine V_aload_n hC dX0_copyFrom_54 rfl rfl ?_
      refine V_B_boxes hC hN dX0_copyFrom_55 inX0_X0_copyFrom (by decide +kernel) ?_
      refine V_iload_n hC dX0_copyFrom_58 rfl rfl ?_
      refine V_B_ld3 hC hN dX0_copyFrom_59 (ix_nI (j := d.length) hlt (by decide)) ?_
      refine V_aload_n hC dX0_copyFrom_60 rfl rfl ?_
      refine V_get hC 2 dX0_copyFrom_61 (by omega) ((hO.over hd2)).1 rfl (by decide) inX0_X0_copyFrom (by decide +kernel) rfl ?_
      refine V_iload_n hC dX0_copyFrom_64 rfl rfl ?_
      refine V_aald (t0 := 4) hC dX0_copyFrom_65 (by omega) ((hO.over hd2)).2.2.2.1 rfl (ix_nI (j := d.length) hlt (by decide)) rfl ?_
      refine V_cvV (n := 1) hC (c_X1_copyFrom g (eL E) (i := c + 8 + p d.length) (by omega) (zB_box hpl) (j := c2 + 8 + p2 d.length) (by omega) ((hO.over hd2).2.2.2.2.2.2.2.2 _ hp2) (by omega) e.ok) dX0_copyFrom_66 gX0_copyFrom_X1_copyFrom rfl rfl rfl ⟨rfl, rfl⟩ (by decide +kernel) (by decide +kernel) (by omega) (zB_box hpl) rfl (Nat.le_of_ble_eq_true rfl) (by decide) (fun u66 h66 => ?_)
      obtain rfl := h66
      refine V_f (zB_ubox hpl) ?_
      refine V_iinc2 hC (nI (d ++ [x]).length) dX0_copyFrom_69 len_s (by rw [hnl]; decide) rfl ?_
      refine V_goto hC 46 dX0_copyFrom_72 (by decide) ?_
      refine ih (d ++ [x]) _ (by rw [List.append_assoc]; exact hd) (fun j y hy => ?_)
      have hj : j < d.length + 1 := by simpa using (List.getElem?_eq_some_iff.mp hy).1
      by_cases h2 : j < d.length
      · have hne : p j ≠ p d.length := fun q => by have := hinj j d.length (by omega) hlt q; omega
        rw [va_up_ne _ _ hne]
        exact hg j y ((cut_s h2).mp hy)
      · have : j = d.length := by omega
        subst this
        rw [cut_m] at hy
        cases hy
        rw [va_up_self]
        exact e
  refine V_aload_n hC dX0_copyFrom_0 rfl rfl ?_
  refine V_get hC 0 dX0_copyFrom_1 (by omega) ((hO.over hd2)).1 rfl (by decide) inX0_X0_copyFrom (by decide +kernel) rfl ?_
  refine V_iconst hC 0 dX0_copyFrom_4 (by decide) ?_
  refine V_aload_n hC dX0_copyFrom_5 rfl rfl ?_
  refine V_B_settings hC hN dX0_copyFrom_6 inX0_X0_copyFrom (by decide +kernel) ?_
  refine V_iconst hC 0 dX0_copyFrom_9 (by decide) ?_
  refine V_aload_n hC dX0_copyFrom_10 rfl rfl ?_
  refine V_B_settings hC hN dX0_copyFrom_11 inX0_X0_copyFrom (by decide +kernel) ?_
  refine V_B_len1 hC hN 8 dX0_copyFrom_14 rfl ?_
  refine V_B_cp1 (k := 8) hC hN dX0_copyFrom_15 (by decide +kernel) (by decide +kernel) (by decide +kernel) (by decide +kernel) (by omega) (hO.over hd2).2.1 (by decide) (by decide) (by decide) (by decide) (by decide) (Nat.le_of_ble_eq_true rfl) ?_
  refine V_aload_n hC dX0_copyFrom_18 rfl rfl ?_
  refine V_get hC 1 dX0_copyFrom_19 (by omega) ((hO.over hd2)).1 rfl (by decide) inX0_X0_copyFrom (by decide +kernel) rfl ?_
  refine V_iconst hC 0 dX0_copyFrom_22 (by decide) ?_
  refine V_aload_n hC dX0_copyFrom_23 rfl rfl ?_
  refine V_B_tallies hC hN dX0_copyFrom_24 inX0_X0_copyFrom (by decide +kernel) ?_
  refine V_iconst hC 0 dX0_copyFrom_27 (by decide) ?_
  refine V_aload_n hC dX0_copyFrom_28 rfl rfl ?_
  refine V_B_tallies hC hN dX0_copyFrom_29 inX0_X0_copyFrom (by decide +kernel) ?_
  refine V_B_len2 hC hN 14 dX0_copyFrom_32 rfl ?_
  refine V_B_cp2 (k := 14) hC hN dX0_copyFrom_33 (by decide +kernel) (by decide +kernel) (by decide +kernel) (by decide +kernel) (by omega) (hO.over hd2).2.2.1 (by decide) (by decide) (by decide) (by decide) (by decide) (Nat.le_of_ble_eq_true rfl) ?_
  refine V_aload_n hC dX0_copyFrom_36 rfl rfl ?_
  refine V_aload_n hC dX0_copyFrom_37 rfl rfl ?_
  refine V_get hC 3 dX0_copyFrom_38 (by omega) ((hO.over hd2)).1 rfl (by decide) inX0_X0_copyFrom (by decide +kernel) rfl ?_
  refine V_B_put_boxCount hC hN dX0_copyFrom_41 inX0_X0_copyFrom (by decide +kernel) ?_
  refine V_iconst hC 0 dX0_copyFrom_44 (by decide) ?_
  refine V_istore_n2 hC dX0_copyFrom_45 rfl (by rw [hnl]; decide) rfl ?_
  exact loop bs [] gx rfl (fun j x hj => by simp at hj)
end
section
/-- the cells y, y+1 of the world u are a history: its object and the array of its states -/
def hasY (g : GE) (ad : Nat → Nat) (u : Nat → va_E) (y ol n : Nat) : Prop := u y = .inr (2, [.ref (ad (y + 1)), .int (nI ol), .int (nI n)]) ∧ u (y + 1) = .inl (g.2.1 3, 7, .inr (.inr (.inr (.inr (fun k => some (ad (y + 2 + 16 * k)))))))
def YAt (g : GE) (ad : Nat → Nat) (y : Nat) (hi : List MT) (u : Nat → va_E) : Prop := ∃ ol, ol < 7 ∧ hi.length ≤ 6 ∧ hasY g ad u y ol hi.length ∧ (∀ k, k < 7 → ∃ m, BAt g ad (y + 2 + 16 * k) m u) ∧ ∀ j m, hi[j]? = some m → BAt g ad (y + 2 + 16 * ((ol + j) % 7)) m u
def YN (g : GE) (ad : Nat → Nat) (y : Nat) (hi : List MT) (mk : MT) (u : Nat → va_E) : Prop := ∃ ol, ol < 7 ∧ hi.length ≤ 6 ∧ hasY g ad u y ol hi.length ∧ (∀ k, k < 7 → ∃ m, BAt g ad (y + 2 + 16 * k) m u) ∧ (∀ j m, hi[j]? = some m → BAt g ad (y + 2 + 16 * ((ol + j) % 7)) m u) ∧ BAt g ad (y + 2 + 16 * ((ol + hi.length) % 7)) mk u
theorem YN.at {g : GE} {ad : Nat → Nat} {y : Nat} {hi : List MT} {mk : MT} {u : Nat → va_E} (h : YN g ad y hi mk u) : YAt g ad y hi u := by
  obtain ⟨ol, h1, h2, h3, h4, h5, -⟩ := h
  exact ⟨ol, h1, h2, h3, h4, h5⟩
theorem YN.keep {g : GE} {ad : Nat → Nat} {y : Nat} {hi : List MT} {mk : MT} {u v : Nat → va_E} (h : YN g ad y hi mk u) (he : ∀ q, y ≤ q → q < y + 114 → v q = u q) : YN g ad y hi mk v := by
  obtain ⟨ol, h1, h2, h3, h4, h5, h6⟩ := h
  refine ⟨ol, h1, h2, ⟨(he _ (by omega) (by omega)).trans h3.1, (he _ (by omega) (by omega)).trans h3.2⟩, fun k hk => ?_, fun j m hj => (h5 j m hj).keep fun q a b => he q (by omega) (by omega), h6.keep fun q a b => he q (by omega) (by omega)⟩
  obtain ⟨m, hm⟩ := h4 k hk
  exact ⟨m, hm.keep fun q a b => he q (by omega) (by omega)⟩
theorem YAt.keep {g : GE} {ad : Nat → Nat} {y : Nat} {hi : List MT} {u v : Nat → va_E} (h : YAt g ad y hi u) (he : ∀ q, y ≤ q → q < y + 114 → v q = u q) : YAt g ad y hi v := by
  obtain ⟨ol, h1, h2, h3, h4, h5⟩ := h
  refine ⟨ol, h1, h2, ⟨(he _ (by omega) (by omega)).trans h3.1, (he _ (by omega) (by omega)).trans h3.2⟩, fun k hk => ?_, fun j m hj => (h5 j m hj).keep fun q a b => he q (by omega) (by omega)⟩
  obtain ⟨m, hm⟩ := h4 k hk
  exact ⟨m, hm.keep fun q a b => he q (by omega) (by omega)⟩
theorem fmd7_p : ∀ a : Fin 14, fmd (nI a.val) 7 = nI (a.val % 7) := by decide +kernel
theorem fmd7 {a : Nat} (h : a < 14) : fmd (nI a) 7 = nI (a % 7) := fmd7_p ⟨a, h⟩
theorem inX2_X2_stateAt : ∀ w ∈ wsX20, w ∈ wsX2_stateAt := by decide +kernel
abbrev rmX2_stateAt : Room := { frames := 1, cells := 0, slots := 0, locals := 22 }
set_option maxHeartbeats 4000000 in
set_option maxRecDepth 100000 in
theorem c_X2_stateAt (g : GE) (lau : Launch) {N : Nat} {ad : Nat → Nat} {f : Nat → va_E} {y : Nat} (hN : y + 114 ≤ N) {ol n k : Nat} (hY : hasY g ad f y ol n) (ho : ol < 7) (hk : k ≤ 6) : Ct g lau yX2_stateAt wsX2_stateAt rmX2_stateAt N ad [.ref (ad y), .int (nI k)] f (pR N ad (fun x u => x = ad (y + 2 + 16 * ((ol + k) % 7)) ∧ u = f)) 0 0 := by
  refine Ct.of (maxL := 2) rfl (by decide +kernel) [some (.ref (ad y)), some (.int (nI k))] (Nat.le_of_ble_eq_true rfl) (by simp [lvo, lv_args, Value.category]) (fun E hnl _ hC hR => ?_)
  refine V_aload_n hC dX2_stateAt_0 rfl rfl ?_
  refine V_get hC 0 dX2_stateAt_1 (by omega) hY.1 rfl (by decide) inX2_X2_stateAt (by decide +kernel) rfl ?_
  refine V_aload_n hC dX2_stateAt_4 rfl rfl ?_
  refine V_get hC 1 dX2_stateAt_5 (by omega) hY.1 rfl (by decide) inX2_X2_stateAt (by decide +kernel) rfl ?_
  refine V_iload_n hC dX2_stateAt_8 rfl rfl ?_
  refine V_iadd hC dX2_stateAt_9 ?_
  refine V_eqt (nI (ol + k)) (nI_add _ _) ?_
  refine V_bipush hC 7 dX2_stateAt_10 (by decide) ?_
  refine V_csI (n := 2) hC (c_J9_floorMod_7cf53 g (eL E) _ 7 (by decide)) dX2_stateAt_12 gX2_stateAt_J9_floorMod_7cf53 rfl rfl rfl ⟨rfl, rfl⟩ (by decide +kernel) (by decide +kernel) (Nat.le_of_ble_eq_true rfl) (by decide) (fun x12 u12 h12 => ?_)
  obtain ⟨rfl, he⟩ := h12
  obtain rfl := he.symm
  refine V_eqt (nI ((ol + k) % 7)) (fmd7 (by omega)) ?_
  refine V_aald (t0 := 3) hC dX2_stateAt_15 (by omega) hY.2 rfl (ix_nI (j := (ol + k) % 7) (by omega) (by decide)) rfl ?_
  refine V_aret hC hR (Or.inl ⟨_, rfl⟩) dX2_stateAt_16 ⟨rfl, rfl, _, rfl, ?_⟩
  exact ⟨rfl, rfl⟩
theorem inX0_X2_note : ∀ w ∈ wsX00, w ∈ wsX2_note := by decide +kernel
theorem inX1_X2_note : ∀ w ∈ wsX10, w ∈ wsX2_note := by decide +kernel
theorem inX2_X2_note : ∀ w ∈ wsX20, w ∈ wsX2_note := by decide +kernel
abbrev rmX2_note : Room := { frames := 2, cells := 0, slots := 0, locals := 62 }
set_option maxHeartbeats 4000000 in
set_option maxRecDepth 100000 in
theorem c_X2_note (g : GE) (lau : Launch) {N : Nat} {ad : Nat → Nat} {f : Nat → va_E} {y : Nat} (hN : y + 114 ≤ N) {hi : List MT} (hH : YAt g ad y hi f) {c : Nat} {m : MT} (hN2 : c + 16 ≤ N) (hd : c + 16 ≤ y ∨ y + 114 ≤ c) (hc : BAt g ad c m f) : Ct g lau yX2_note wsX2_note rmX2_note N ad [.ref (ad y), .ref (ad c)] f (pV N ad (fun u => YN g ad y hi m u ∧ ∀ q, q < y ∨ y + 114 ≤ q → u q = f q)) 0 0 := by
  refine Ct.of (maxL := 2) rfl (by decide +kernel) [some (.ref (ad y)), some (.ref (ad c))] (Nat.le_of_ble_eq_true rfl) (by simp [lvo, lv_args, Value.category]) (fun E hnl _ hC hR => ?_)
  obtain ⟨ol, ho, h6, hY, hA, hj⟩ := hH
  obtain ⟨m1, s, t, p, bc, co, ex, rc, pl, pn, wy, gx, hB, hm1⟩ := hA ((ol + hi.length) % 7) (by omega)
  obtain ⟨s2, t2, p2, bc2, co2, ex2, rc2, pl2, pn2, wy2, gx2, hB2, hm⟩ := hc
  refine V_aload_n hC dX2_note_0 rfl rfl ?_
  refine V_aload_n hC dX2_note_1 rfl rfl ?_
  refine V_get hC 2 dX2_note_2 (by omega) hY.1 rfl (by decide) inX2_X2_note (by decide +kernel) rfl ?_
  refine V_cvR (n := 1) hC (c_X2_stateAt g (eL E) hN hY ho h6) dX2_note_5 gX2_note_X2_stateAt rfl rfl rfl ⟨rfl, rfl⟩ (by decide +kernel) (by decide +kernel) (by omega) hY.1 rfl (Nat.le_of_ble_eq_true rfl) (by decide) (fun x5 u5 h5 => ?_)
  obtain ⟨rfl, he⟩ := h5
  obtain rfl := he.symm
  refine V_aload_n hC dX2_note_8 rfl rfl ?_
  refine V_f hB.self ?_
  refine V_cvV (n := 1) hC (c_X0_copyFrom g (eL E) (f := f) (by omega) hm1 (by omega) (by omega) hB2 hm) dX2_note_9 gX2_note_X0_copyFrom rfl rfl rfl ⟨rfl, rfl⟩ (by decide +kernel) (by decide +kernel) (by omega) zB_0 rfl (Nat.le_of_ble_eq_true rfl) (by decide) (fun u9 h9 => ?_)
  obtain hu := h9
  refine V_vret hC hR dX2_note_12 ⟨rfl, rfl, rfl, ?_⟩
  obtain ⟨hu1, hu2⟩ := BIs.at h9
  refine ⟨⟨ol, ho, h6, ⟨(hu2 _ (by omega)).trans hY.1, (hu2 _ (by omega)).trans hY.2⟩, fun k hk => ?_, fun j m2 hjm => ?_, hu1⟩, fun q hq => hu2 q (by omega)⟩
  · by_cases hk2 : k = (ol + hi.length) % 7
    · subst hk2; exact ⟨m, hu1⟩
    · obtain ⟨m3, hm3⟩ := hA k hk
      exact ⟨m3, hm3.keep fun q a b => hu2 q (by omega)⟩
  · have hjl := (List.getElem?_eq_some_iff.mp hjm).1
    exact (hj j m2 hjm).keep fun q a b => hu2 q (by omega)
theorem inX2_X2_keepNoted : ∀ w ∈ wsX20, w ∈ wsX2_keepNoted := by decide +kernel
abbrev rmX2_keepNoted : Room := { frames := 1, cells := 0, slots := 0, locals := 22 }
set_option maxHeartbeats 4000000 in
set_option maxRecDepth 100000 in
theorem c_X2_keepNoted (g : GE) (lau : Launch) {N : Nat} {ad : Nat → Nat} {f : Nat → va_E} {y : Nat} (hN : y + 114 ≤ N) {hi : List MT} {mk : MT} (hH : YN g ad y hi mk f) : Ct g lau yX2_keepNoted wsX2_keepNoted rmX2_keepNoted N ad [.ref (ad y)] f (pV N ad (fun u => YAt g ad y (pushH hi mk) u ∧ ∀ q, q < y ∨ y + 114 ≤ q → u q = f q)) 0 0 := by
  refine Ct.of (maxL := 1) rfl (by decide +kernel) [some (.ref (ad y))] (Nat.le_of_ble_eq_true rfl) (by simp [lvo, lv_args, Value.category]) (fun E hnl _ hC hR => ?_)
  obtain ⟨ol, ho, h6, hY, hA, hj, hmk⟩ := hH
  refine V_aload_n hC dX2_keepNoted_0 rfl rfl ?_
  refine V_get hC 2 dX2_keepNoted_1 (by omega) hY.1 rfl (by decide) inX2_X2_keepNoted (by decide +kernel) rfl ?_
  refine V_bipush hC 6 dX2_keepNoted_4 (by decide) ?_
  refine V_icmp_ge hC 22 dX2_keepNoted_6 (by decide) (fun c6 => ?_) (fun c6 => ?_)
  · have hl : hi.length = 6 := by have := (nI_leI (a := 6) (by decide) (by omega)).mp c6; omega
    refine V_aload_n hC dX2_keepNoted_22 rfl rfl ?_
    refine V_aload_n hC dX2_keepNoted_23 rfl rfl ?_
    refine V_get hC 1 dX2_keepNoted_24 (by omega) hY.1 rfl (by decide) inX2_X2_keepNoted (by decide +kernel) rfl ?_
    refine V_iconst hC 1 dX2_keepNoted_27 (by decide) ?_
    refine V_iadd hC dX2_keepNoted_28 ?_
    refine V_eqt (nI (ol + 1)) (nI_1 _) ?_
    refine V_bipush hC 7 dX2_keepNoted_29 (by decide) ?_
    refine V_csI (n := 2) hC (c_J9_floorMod_7cf53 g (eL E) _ 7 (by decide)) dX2_keepNoted_31 gX2_keepNoted_J9_floorMod_7cf53 rfl rfl rfl ⟨rfl, rfl⟩ (by decide +kernel) (by decide +kernel) (Nat.le_of_ble_eq_true rfl) (by decide) (fun x31 u31 h31 => ?_)
    obtain ⟨rfl, he⟩ := h31
    obtain rfl := he.symm
    refine V_eqt (nI ((ol + 1) % 7)) (fmd7 (by omega)) ?_
    refine V_put hC (ty := .int) 1 dX2_keepNoted_34 (by omega) hY.1 rfl (by decide) inX2_X2_keepNoted (by decide +kernel) tyX2_ok nmX2 rfl rfl rfl rfl (by simp) ?_
    refine V_vret hC hR dX2_keepNoted_37 ⟨rfl, rfl, rfl, ?_⟩
    have hY2 : hasY g ad (va_up f y (.inr (2, [.ref (ad (y + 1)), .int (nI ((ol + 1) % 7)), .int (nI (hi.length))]))) y ((ol + 1) % 7) (hi.length) := ⟨va_up_self _ _ _, (va_up_ne _ _ (by omega)).trans hY.2⟩
    have ko : ∀ {k : Nat} {m : MT}, BAt g ad (y + 2 + 16 * k) m f → BAt g ad (y + 2 + 16 * k) m (va_up f y (.inr (2, [.ref (ad (y + 1)), .int (nI ((ol + 1) % 7)), .int (nI (hi.length))]))) := fun h => h.keep fun q a b => va_up_ne _ _ (by omega)
    refine ⟨?_, fun q hq => va_up_ne _ _ (by omega)⟩
    rw [pushH, if_pos hl]
    have hdl : (hi.drop 1).length = 5 := by rw [List.length_drop, hl]
    have e6 : (hi.drop 1 ++ [mk]).length = hi.length := by rw [List.length_append, hdl, hl]; rfl
    refine ⟨(ol + 1) % 7, by omega, by omega, by rw [e6]; exact hY2, fun k hk => ?_, fun j m hjm => ?_⟩
    · obtain ⟨m, hm⟩ := hA k hk
      exact ⟨m, ko hm⟩
    · have hl2 : j < 5 + 1 := by have := (List.getElem?_eq_some_iff.mp hjm).1; rw [List.length_append, hdl] at this; exact this
      by_cases h : j < 5
      · have q := (cut_s (by omega)).mp hjm
        rw [List.getElem?_drop] at q
        have k := hj (1 + j) m q
        rw [show (ol + (1 + j)) % 7 = ((ol + 1) % 7 + j) % 7 by omega] at k
        exact ko k
      · have e : j = (hi.drop 1).length := by omega
        rw [e, cut_m] at hjm
        cases hjm
        rw [show (ol + hi.length) % 7 = ((ol + 1) % 7 + j) % 7 by omega] at hmk
        exact ko hmk
  · have hl : hi.length < 6 := by rcases Nat.lt_or_ge hi.length 6 with q | q; exact q; exact absurd (nI_le (a := 6) q (by omega)) c6
    refine V_aload_n hC dX2_keepNoted_9 rfl rfl ?_
    refine V_dup hC dX2_keepNoted_10 rfl ?_
    refine V_get hC 2 dX2_keepNoted_11 (by omega) hY.1 rfl (by decide) inX2_X2_keepNoted (by decide +kernel) rfl ?_
    refine V_iconst hC 1 dX2_keepNoted_14 (by decide) ?_
    refine V_iadd hC dX2_keepNoted_15 ?_
    refine V_eqt (nI (hi.length + 1)) (nI_1 _) ?_
    refine V_put hC (ty := .int) 2 dX2_keepNoted_16 (by omega) hY.1 rfl (by decide) inX2_X2_keepNoted (by decide +kernel) tyX2_ok nmX2 rfl rfl rfl rfl (by simp) ?_
    refine V_goto hC 37 dX2_keepNoted_19 (by decide) ?_
    refine V_vret hC hR dX2_keepNoted_37 ⟨rfl, rfl, rfl, ?_⟩
    have hY2 : hasY g ad (va_up f y (.inr (2, [.ref (ad (y + 1)), .int (nI (ol)), .int (nI (hi.length + 1))]))) y (ol) (hi.length + 1) := ⟨va_up_self _ _ _, (va_up_ne _ _ (by omega)).trans hY.2⟩
    have ko : ∀ {k : Nat} {m : MT}, BAt g ad (y + 2 + 16 * k) m f → BAt g ad (y + 2 + 16 * k) m (va_up f y (.inr (2, [.ref (ad (y + 1)), .int (nI (ol)), .int (nI (hi.length + 1))]))) := fun h => h.keep fun q a b => va_up_ne _ _ (by omega)
    refine ⟨?_, fun q hq => va_up_ne _ _ (by omega)⟩
    rw [pushH, if_neg (by omega)]
    refine ⟨ol, ho, by simp; omega, by rw [List.length_append]; exact hY2, fun k hk => ?_, fun j m hjm => ?_⟩
    · obtain ⟨m, hm⟩ := hA k hk
      exact ⟨m, ko hm⟩
    · have hl2 : j < hi.length + 1 := by simpa using (List.getElem?_eq_some_iff.mp hjm).1
      by_cases h : j < hi.length
      · exact ko (hj j m ((cut_s h).mp hjm))
      · have e : j = hi.length := by omega
        subst e
        rw [cut_m] at hjm
        cases hjm
        exact ko hmk
theorem inX0_X2_takeBack : ∀ w ∈ wsX00, w ∈ wsX2_takeBack := by decide +kernel
theorem inX1_X2_takeBack : ∀ w ∈ wsX10, w ∈ wsX2_takeBack := by decide +kernel
theorem inX2_X2_takeBack : ∀ w ∈ wsX20, w ∈ wsX2_takeBack := by decide +kernel
abbrev rmX2_takeBack : Room := { frames := 2, cells := 0, slots := 0, locals := 62 }
set_option maxHeartbeats 4000000 in
set_option maxRecDepth 100000 in
theorem c_X2_takeBack (g : GE) (lau : Launch) {N : Nat} {ad : Nat → Nat} {f : Nat → va_E} {y : Nat} (hN : y + 114 ≤ N) {hi : List MT} {m : MT} (hH : YAt g ad y (hi ++ [m]) f) {c : Nat} {m0 : MT} (hN2 : c + 16 ≤ N) (hd : c + 16 ≤ y ∨ y + 114 ≤ c) (hc : BAt g ad c m0 f) : Ct g lau yX2_takeBack wsX2_takeBack rmX2_takeBack N ad [.ref (ad y), .ref (ad c)] f (pV N ad (fun u => YAt g ad y hi u ∧ BAt g ad c m u ∧ ∀ q, (q < y ∨ y + 114 ≤ q) → (q < c ∨ c + 16 ≤ q) → u q = f q)) 0 0 := by
  refine Ct.of (maxL := 2) rfl (by decide +kernel) [some (.ref (ad y)), some (.ref (ad c))] (Nat.le_of_ble_eq_true rfl) (by simp [lvo, lv_args, Value.category]) (fun E hnl _ hC hR => ?_)
  obtain ⟨ol, ho, h6, hY, hA, hj⟩ := hH
  have hlen : (hi ++ [m]).length = hi.length + 1 := by simp
  rw [hlen] at hY h6
  obtain ⟨s, t, p, bc, co, ex, rc, pl, pn, wy, gx, hB, hm1⟩ := hc
  have hY2 : hasY g ad (va_up f y (.inr (2, [.ref (ad (y + 1)), .int (nI ol), .int (nI hi.length)]))) y ol hi.length := ⟨va_up_self _ _ _, (va_up_ne _ _ (by omega)).trans hY.2⟩
  have hjl := hj hi.length m cut_m
  obtain ⟨s2, t2, p2, bc2, co2, ex2, rc2, pl2, pn2, wy2, gx2, hB2, hm⟩ := hjl.keep (v := (va_up f y (.inr (2, [.ref (ad (y + 1)), .int (nI ol), .int (nI hi.length)])))) fun q a b => va_up_ne _ _ (by omega)
  have hB3 : hasB g ad (va_up f y (.inr (2, [.ref (ad (y + 1)), .int (nI ol), .int (nI hi.length)]))) c s t p bc co ex rc pl pn wy gx := hB.keep fun q a b => va_up_ne _ _ (by omega)
  refine V_aload_n hC dX2_takeBack_0 rfl rfl ?_
  refine V_get hC 2 dX2_takeBack_1 (by omega) hY.1 rfl (by decide) inX2_X2_takeBack (by decide +kernel) rfl ?_
  refine V_if_le_f (tgt := 29) hC dX2_takeBack_4 (by decide) (nI_nle (by omega) (by omega)) ?_
  refine V_aload_n hC dX2_takeBack_7 rfl rfl ?_
  refine V_dup hC dX2_takeBack_8 rfl ?_
  refine V_get hC 2 dX2_takeBack_9 (by omega) hY.1 rfl (by decide) inX2_X2_takeBack (by decide +kernel) rfl ?_
  refine V_iconst hC 1 dX2_takeBack_12 (by decide) ?_
  refine V_isub hC dX2_takeBack_13 ?_
  refine V_eqt (nI hi.length) (nI_pred _) ?_
  refine V_put hC (ty := .int) 2 dX2_takeBack_14 (by omega) hY.1 rfl (by decide) inX2_X2_takeBack (by decide +kernel) tyX2_ok nmX2 rfl rfl rfl rfl (by simp) ?_
  show V E g N ad 0 0 (va_up f y (.inr (2, [.ref (ad (y + 1)), .int (nI ol), .int (nI hi.length)]))) _ _ _
  refine V_aload_n hC dX2_takeBack_17 rfl rfl ?_
  refine V_aload_n hC dX2_takeBack_18 rfl rfl ?_
  refine V_aload_n hC dX2_takeBack_19 rfl rfl ?_
  refine V_get hC 2 dX2_takeBack_20 (by omega) hY2.1 rfl (by decide) inX2_X2_takeBack (by decide +kernel) rfl ?_
  refine V_cvR (n := 1) hC (c_X2_stateAt g (eL E) hN hY2 ho (k := hi.length) (by omega)) dX2_takeBack_23 gX2_takeBack_X2_stateAt rfl rfl rfl ⟨rfl, rfl⟩ (by decide +kernel) (by decide +kernel) (by omega) hY2.1 rfl (Nat.le_of_ble_eq_true rfl) (by decide) (fun x23 u23 h23 => ?_)
  obtain ⟨rfl, he⟩ := h23
  obtain rfl := he.symm
  refine V_f hB3.self ?_
  refine V_cvV (n := 1) hC (c_X0_copyFrom g (eL E) (f := (va_up f y (.inr (2, [.ref (ad (y + 1)), .int (nI ol), .int (nI hi.length)])))) hN2 hm1 (by omega) (by omega) hB2 hm) dX2_takeBack_26 gX2_takeBack_X0_copyFrom rfl rfl rfl ⟨rfl, rfl⟩ (by decide +kernel) (by decide +kernel) (by omega) zB_0 rfl (Nat.le_of_ble_eq_true rfl) (by decide) (fun u26 h26 => ?_)
  obtain hu := h26
  refine V_vret hC hR dX2_takeBack_29 ⟨rfl, rfl, rfl, ?_⟩
  obtain ⟨hu1, hu2⟩ := BIs.at h26
  have e2 : ∀ q, q ≠ y → (q < c ∨ c + 16 ≤ q) → u26 q = f q := fun q hq h => (hu2 q h).trans (va_up_ne _ _ hq)
  refine ⟨⟨ol, ho, by omega, ⟨(hu2 _ (by omega)).trans hY2.1, (hu2 _ (by omega)).trans hY2.2⟩, fun k hk => ?_, fun j m2 hjm => ?_⟩, hu1, fun q h1 h2 => e2 q (by omega) h2⟩
  · obtain ⟨m3, hm3⟩ := hA k hk
    exact ⟨m3, hm3.keep fun q a b => e2 q (by omega) (by omega)⟩
  · have hl2 := (List.getElem?_eq_some_iff.mp hjm).1
    exact (hj j m2 ((cut_s hl2).mpr hjm)).keep fun q a b => e2 q (by omega) (by omega)
end
section
/-- the world u has at o the class's object, its slots and its pad, and a belt to try things on -/
def CR (g : GE) (ad : Nat → Nat) (o : Nat) (sl : Nat → Option MT) (pd : List Int32) (u : Nat → va_E) : Prop := u o = .inr (4, [.ref (ad (o + 1)), .ref (ad (o + 17)), .ref (ad (o + 33)), .ref (ad (o + 147)), .ref (ad (o + 180)), .ref (ad (o + 181))]) ∧ (∃ m, BAt g ad (o + 17) m u) ∧ u (o + 147) = .inl (g.2.1 3, 2, .inr (.inr (.inr (.inr (fun k => some (ad (o + 148 + 16 * k))))))) ∧ (∃ sv : Nat → Int32, u (o + 180) = .inl (g.2.1 2, 2, .inl sv) ∧ ∀ k, k < 2 → ∃ m, BAt g ad (o + 148 + 16 * k) m u ∧ ((sl k = none ∧ sv k = 0) ∨ (sl k = some m ∧ sv k = 1))) ∧ ∃ sg : Nat → Int32, u (o + 181) = .inr (3, [.ref (ad (o + 182)), .int (nI pd.length)]) ∧ u (o + 182) = .inl (g.2.1 1, 60, .inl sg) ∧ rPad sg (nI pd.length) pd
def CAt (g : GE) (ad : Nat → Nat) (o : Nat) (S : ST) (u : Nat → va_E) : Prop := CR g ad o S.2.2.1 S.2.2.2 u ∧ BAt g ad (o + 1) S.1 u ∧ YAt g ad (o + 33) S.2.1 u
theorem CR.keep {g : GE} {ad : Nat → Nat} {o : Nat} {sl : Nat → Option MT} {pd : List Int32} {u v : Nat → va_E} (h : CR g ad o sl pd u) (he : ∀ q, (q = o ∨ (o + 17 ≤ q ∧ q < o + 33) ∨ (o + 147 ≤ q ∧ q < o + 183)) → v q = u q) : CR g ad o sl pd v := by
  obtain ⟨h1, ⟨m, hm⟩, h3, ⟨sv, h4, h5⟩, sg, h6, h7, h8⟩ := h
  refine ⟨(he _ (by omega)).trans h1, ⟨m, hm.keep fun q a b => he q (by omega)⟩, (he _ (by omega)).trans h3, ⟨sv, (he _ (by omega)).trans h4, fun k hk => ?_⟩, sg, (he _ (by omega)).trans h6, (he _ (by omega)).trans h7, h8⟩
  obtain ⟨m, q1, q2⟩ := h5 k hk
  exact ⟨m, q1.keep fun q a b => he q (by omega), q2⟩
theorem inX2_X4_recorded : ∀ w ∈ wsX20, w ∈ wsX4_recorded := by decide +kernel
theorem inX4_X4_recorded : ∀ w ∈ wsX40, w ∈ wsX4_recorded := by decide +kernel
abbrev rmX4_recorded : Room := { frames := 2, cells := 0, slots := 0, locals := 42 }
set_option maxHeartbeats 4000000 in
set_option maxRecDepth 100000 in
theorem c_X4_recorded (g : GE) (lau : Launch) {N : Nat} {ad : Nat → Nat} {f : Nat → va_E} {o : Nat} (hN : o + 183 ≤ N) (ho : f o = .inr (4, [.ref (ad (o + 1)), .ref (ad (o + 17)), .ref (ad (o + 33)), .ref (ad (o + 147)), .ref (ad (o + 180)), .ref (ad (o + 181))])) {hi : List MT} {mk : MT} (hH : YN g ad (o + 33) hi mk f) (r : Int32) : Ct g lau yX4_recorded wsX4_recorded rmX4_recorded N ad [.ref (ad o), .int (r)] f (pI N ad (fun x u => x = r ∧ YAt g ad (o + 33) (if r < 0 then hi else pushH hi mk) u ∧ ∀ q, q < o + 33 ∨ o + 147 ≤ q → u q = f q)) 0 0 := by
  refine Ct.of (maxL := 2) rfl (by decide +kernel) [some (.ref (ad o)), some (.int (r))] (Nat.le_of_ble_eq_true rfl) (by simp [lvo, lv_args, Value.category]) (fun E hnl _ hC hR => ?_)
  have hYo : ∃ fs, f (o + 33) = .inr (2, fs) := by obtain ⟨ol, -, -, hY, -⟩ := hH; exact ⟨_, hY.1⟩
  obtain ⟨fs, hYo⟩ := hYo
  refine V_iload_n hC dX4_recorded_0 rfl rfl ?_
  refine V_if_lt hC 11 dX4_recorded_1 (by decide) (fun c1 => ?_) (fun c1 => ?_)
  · refine V_iload_n hC dX4_recorded_11 rfl rfl ?_
    refine V_iret hC hR dX4_recorded_12 ⟨rfl, rfl, _, rfl, ?_⟩
    first | exact ⟨rfl, by rw [if_pos c1]; exact hH.at, fun q hq => rfl⟩ | exact ⟨rfl, by rw [if_neg c1]; exact k1, fun q hq => k2 q (by omega)⟩
  · refine V_aload_n hC dX4_recorded_4 rfl rfl ?_
    refine V_get hC 2 dX4_recorded_5 (by omega) ho rfl (by decide) inX4_X4_recorded (by decide +kernel) rfl ?_
    refine V_cvV (n := 0) hC (c_X2_keepNoted g (eL E) (y := o + 33) (by omega) hH) dX4_recorded_8 gX4_recorded_X2_keepNoted rfl rfl rfl ⟨rfl, rfl⟩ (by decide +kernel) (by decide +kernel) (by omega) hYo rfl (Nat.le_of_ble_eq_true rfl) (by decide) (fun u8 h8 => ?_)
    obtain ⟨k1, k2⟩ := h8
    refine V_iload_n hC dX4_recorded_11 rfl rfl ?_
    refine V_iret hC hR dX4_recorded_12 ⟨rfl, rfl, _, rfl, ?_⟩
    first | exact ⟨rfl, by rw [if_pos c1]; exact hH.at, fun q hq => rfl⟩ | exact ⟨rfl, by rw [if_neg c1]; exact k1, fun q hq => k2 q (by omega)⟩
theorem inX0_X4_set : ∀ w ∈ wsX00, w ∈ wsX4_set := by decide +kernel
theorem inX1_X4_set : ∀ w ∈ wsX10, w ∈ wsX4_set := by decide +kernel
theorem inX2_X4_set : ∀ w ∈ wsX20, w ∈ wsX4_set := by decide +kernel
theorem inX4_X4_set : ∀ w ∈ wsX40, w ∈ wsX4_set := by decide +kernel
abbrev rmX4_set : Room := { frames := 3, cells := 0, slots := 0, locals := 83 }
set_option maxHeartbeats 4000000 in
set_option maxRecDepth 100000 in
theorem c_X4_set (g : GE) (lau : Launch) {N : Nat} {ad : Nat → Nat} {f : Nat → va_E} {o : Nat} (hN : o + 183 ≤ N) {S : ST} (hS : CAt g ad o S f) (k : Int32) (v : Int32) : Ct g lau yX4_set wsX4_set rmX4_set N ad [.ref (ad o), .int (k), .int (v)] f (pI N ad (fun x u => x = (sChange (mSet k v S.1) S).1 ∧ CAt g ad o (sChange (mSet k v S.1) S).2 u ∧ ∀ q, q < o ∨ o + 183 ≤ q → u q = f q)) 0 0 := by
  refine Ct.of (maxL := 3) rfl (by decide +kernel) [some (.ref (ad o)), some (.int (k)), some (.int (v))] (Nat.le_of_ble_eq_true rfl) (by simp [lvo, lv_args, Value.category]) (fun E hnl _ hC hR => ?_)
  have hYo : ∃ fs, f (o + 33) = .inr (2, fs) := by obtain ⟨ol, -, -, hY, -⟩ := hS.2.2; exact ⟨_, hY.1⟩
  obtain ⟨fs, hYo⟩ := hYo
  refine V_aload_n hC dX4_set_0 rfl rfl ?_
  refine V_get hC 2 dX4_set_1 (by omega) hS.1.1 rfl (by decide) inX4_X4_set (by decide +kernel) rfl ?_
  refine V_aload_n hC dX4_set_4 rfl rfl ?_
  refine V_get hC 0 dX4_set_5 (by omega) hS.1.1 rfl (by decide) inX4_X4_set (by decide +kernel) rfl ?_
  refine V_cvV (n := 1) hC (c_X2_note g (eL E) (y := o + 33) (by omega) hS.2.2 (c := o + 1) (by omega) (by omega) hS.2.1) dX4_set_8 gX4_set_X2_note rfl rfl rfl ⟨rfl, rfl⟩ (by decide +kernel) (by decide +kernel) (by omega) hYo rfl (Nat.le_of_ble_eq_true rfl) (by decide) (fun u8 h8 => ?_)
  obtain ⟨n1, n2⟩ := h8
  have eo := (n2 o (by omega)).trans hS.1.1
  obtain ⟨s, t, p, bc, co, ex, rc, pl, pn, wy, gx, hB, hm⟩ := hS.2.1.keep (v := u8) fun q a b => n2 q (by omega)
  refine V_aload_n hC dX4_set_11 rfl rfl ?_
  refine V_aload_n hC dX4_set_12 rfl rfl ?_
  refine V_get hC 0 dX4_set_13 (by omega) eo rfl (by decide) inX4_X4_set (by decide +kernel) rfl ?_
  refine V_iload_n hC dX4_set_16 rfl rfl ?_
  refine V_iload_n hC dX4_set_17 rfl rfl ?_
  refine V_f hB.self ?_
  refine V_cvI (n := 2) hC (c_X0_choose g (eL E) (f := u8) (c := o + 1) (by omega) hm k v) dX4_set_18 gX4_set_X0_choose rfl rfl rfl ⟨rfl, rfl⟩ (by decide +kernel) (by decide +kernel) (by omega) zB_0 rfl (Nat.le_of_ble_eq_true rfl) (by decide) (fun x18 u18 h18 => ?_)
  obtain ⟨rfl, hu⟩ := h18
  obtain ⟨b1, b2⟩ := BIs.at hu
  have eo2 := (b2 o (by omega)).trans eo
  have hH2 := n1.keep (v := u18) fun q a b => b2 q (by omega)
  refine V_cvI (n := 1) hC (c_X4_recorded g (eL E) (o := o) hN eo2 hH2 _) dX4_set_21 gX4_set_X4_recorded rfl rfl rfl ⟨rfl, rfl⟩ (by decide +kernel) (by decide +kernel) (by omega) eo2 rfl (Nat.le_of_ble_eq_true rfl) (by decide) (fun x21 u21 h21 => ?_)
  obtain ⟨rfl, r1, r2⟩ := h21
  refine V_iret hC hR dX4_set_24 ⟨rfl, rfl, _, rfl, ?_⟩
  exact ⟨rfl, ⟨hS.1.keep fun q hq => (r2 q (by omega)).trans ((b2 q (by omega)).trans (n2 q (by omega))), b1.keep fun q a b => r2 q (by omega), r1⟩, fun q hq => (r2 q (by omega)).trans ((b2 q (by omega)).trans (n2 q (by omega)))⟩
theorem inX0_X4_arrive : ∀ w ∈ wsX00, w ∈ wsX4_arrive := by decide +kernel
theorem inX1_X4_arrive : ∀ w ∈ wsX10, w ∈ wsX4_arrive := by decide +kernel
theorem inX2_X4_arrive : ∀ w ∈ wsX20, w ∈ wsX4_arrive := by decide +kernel
theorem inX4_X4_arrive : ∀ w ∈ wsX40, w ∈ wsX4_arrive := by decide +kernel
abbrev rmX4_arrive : Room := { frames := 3, cells := 0, slots := 0, locals := 83 }
set_option maxHeartbeats 4000000 in
set_option maxRecDepth 100000 in
theorem c_X4_arrive (g : GE) (lau : Launch) {N : Nat} {ad : Nat → Nat} {f : Nat → va_E} {o : Nat} (hN : o + 183 ≤ N) {S : ST} (hS : CAt g ad o S f) (v : Int32) : Ct g lau yX4_arrive wsX4_arrive rmX4_arrive N ad [.ref (ad o), .int (v)] f (pI N ad (fun x u => x = (sChange (mArrive v S.1) S).1 ∧ CAt g ad o (sChange (mArrive v S.1) S).2 u ∧ ∀ q, q < o ∨ o + 183 ≤ q → u q = f q)) 0 0 := by
  refine Ct.of (maxL := 2) rfl (by decide +kernel) [some (.ref (ad o)), some (.int (v))] (Nat.le_of_ble_eq_true rfl) (by simp [lvo, lv_args, Value.category]) (fun E hnl _ hC hR => ?_)
  have hYo : ∃ fs, f (o + 33) = .inr (2, fs) := by obtain ⟨ol, -, -, hY, -⟩ := hS.2.2; exact ⟨_, hY.1⟩
  obtain ⟨fs, hYo⟩ := hYo
  refine V_aload_n hC dX4_arrive_0 rfl rfl ?_
  refine V_get hC 2 dX4_arrive_1 (by omega) hS.1.1 rfl (by decide) inX4_X4_arrive (by decide +kernel) rfl ?_
  refine V_aload_n hC dX4_arrive_4 rfl rfl ?_
  refine V_get hC 0 dX4_arrive_5 (by omega) hS.1.1 rfl (by decide) inX4_X4_arrive (by decide +kernel) rfl ?_
  refine V_cvV (n := 1) hC (c_X2_note g (eL E) (y := o + 33) (by omega) hS.2.2 (c := o + 1) (by omega) (by omega) hS.2.1) dX4_arrive_8 gX4_arrive_X2_note rfl rfl rfl ⟨rfl, rfl⟩ (by decide +kernel) (by decide +kernel) (by omega) hYo rfl (Nat.le_of_ble_eq_true rfl) (by decide) (fun u8 h8 => ?_)
  obtain ⟨n1, n2⟩ := h8
  have eo := (n2 o (by omega)).trans hS.1.1
  obtain ⟨s, t, p, bc, co, ex, rc, pl, pn, wy, gx, hB, hm⟩ := hS.2.1.keep (v := u8) fun q a b => n2 q (by omega)
  refine V_aload_n hC dX4_arrive_11 rfl rfl ?_
  refine V_aload_n hC dX4_arrive_12 rfl rfl ?_
  refine V_get hC 0 dX4_arrive_13 (by omega) eo rfl (by decide) inX4_X4_arrive (by decide +kernel) rfl ?_
  refine V_iload_n hC dX4_arrive_16 rfl rfl ?_
  refine V_f hB.self ?_
  refine V_cvI (n := 1) hC (c_X0_takeBox g (eL E) (f := u8) (c := o + 1) (by omega) hm v) dX4_arrive_17 gX4_arrive_X0_takeBox rfl rfl rfl ⟨rfl, rfl⟩ (by decide +kernel) (by decide +kernel) (by omega) zB_0 rfl (Nat.le_of_ble_eq_true rfl) (by decide) (fun x17 u17 h17 => ?_)
  obtain ⟨rfl, hu⟩ := h17
  obtain ⟨b1, b2⟩ := BIs.at hu
  have eo2 := (b2 o (by omega)).trans eo
  have hH2 := n1.keep (v := u17) fun q a b => b2 q (by omega)
  refine V_cvI (n := 1) hC (c_X4_recorded g (eL E) (o := o) hN eo2 hH2 _) dX4_arrive_20 gX4_arrive_X4_recorded rfl rfl rfl ⟨rfl, rfl⟩ (by decide +kernel) (by decide +kernel) (by omega) eo2 rfl (Nat.le_of_ble_eq_true rfl) (by decide) (fun x20 u20 h20 => ?_)
  obtain ⟨rfl, r1, r2⟩ := h20
  refine V_iret hC hR dX4_arrive_23 ⟨rfl, rfl, _, rfl, ?_⟩
  exact ⟨rfl, ⟨hS.1.keep fun q hq => (r2 q (by omega)).trans ((b2 q (by omega)).trans (n2 q (by omega))), b1.keep fun q a b => r2 q (by omega), r1⟩, fun q hq => (r2 q (by omega)).trans ((b2 q (by omega)).trans (n2 q (by omega)))⟩
theorem inX0_X4_turn : ∀ w ∈ wsX00, w ∈ wsX4_turn := by decide +kernel
theorem inX1_X4_turn : ∀ w ∈ wsX10, w ∈ wsX4_turn := by decide +kernel
theorem inX2_X4_turn : ∀ w ∈ wsX20, w ∈ wsX4_turn := by decide +kernel
theorem inX4_X4_turn : ∀ w ∈ wsX40, w ∈ wsX4_turn := by decide +kernel
abbrev rmX4_turn : Room := { frames := 3, cells := 0, slots := 0, locals := 83 }
set_option maxHeartbeats 4000000 in
set_option maxRecDepth 100000 in
theorem c_X4_turn (g : GE) (lau : Launch) {N : Nat} {ad : Nat → Nat} {f : Nat → va_E} {o : Nat} (hN : o + 183 ≤ N) {S : ST} (hS : CAt g ad o S f) (k : Int32) (v : Int32) (hlen : ∀ x ∈ S.1.2.1, okLen (x 1) = true) : Ct g lau yX4_turn wsX4_turn rmX4_turn N ad [.ref (ad o), .int (k), .int (v)] f (pI N ad (fun x u => x = (sChange (mTurn k v S.1) S).1 ∧ CAt g ad o (sChange (mTurn k v S.1) S).2 u ∧ ∀ q, q < o ∨ o + 183 ≤ q → u q = f q)) 0 0 := by
  refine Ct.of (maxL := 3) rfl (by decide +kernel) [some (.ref (ad o)), some (.int (k)), some (.int (v))] (Nat.le_of_ble_eq_true rfl) (by simp [lvo, lv_args, Value.category]) (fun E hnl _ hC hR => ?_)
  have hYo : ∃ fs, f (o + 33) = .inr (2, fs) := by obtain ⟨ol, -, -, hY, -⟩ := hS.2.2; exact ⟨_, hY.1⟩
  obtain ⟨fs, hYo⟩ := hYo
  refine V_aload_n hC dX4_turn_0 rfl rfl ?_
  refine V_get hC 2 dX4_turn_1 (by omega) hS.1.1 rfl (by decide) inX4_X4_turn (by decide +kernel) rfl ?_
  refine V_aload_n hC dX4_turn_4 rfl rfl ?_
  refine V_get hC 0 dX4_turn_5 (by omega) hS.1.1 rfl (by decide) inX4_X4_turn (by decide +kernel) rfl ?_
  refine V_cvV (n := 1) hC (c_X2_note g (eL E) (y := o + 33) (by omega) hS.2.2 (c := o + 1) (by omega) (by omega) hS.2.1) dX4_turn_8 gX4_turn_X2_note rfl rfl rfl ⟨rfl, rfl⟩ (by decide +kernel) (by decide +kernel) (by omega) hYo rfl (Nat.le_of_ble_eq_true rfl) (by decide) (fun u8 h8 => ?_)
  obtain ⟨n1, n2⟩ := h8
  have eo := (n2 o (by omega)).trans hS.1.1
  obtain ⟨s, t, p, bc, co, ex, rc, pl, pn, wy, gx, hB, hm⟩ := hS.2.1.keep (v := u8) fun q a b => n2 q (by omega)
  refine V_aload_n hC dX4_turn_11 rfl rfl ?_
  refine V_aload_n hC dX4_turn_12 rfl rfl ?_
  refine V_get hC 0 dX4_turn_13 (by omega) eo rfl (by decide) inX4_X4_turn (by decide +kernel) rfl ?_
  refine V_iload_n hC dX4_turn_16 rfl rfl ?_
  refine V_iload_n hC dX4_turn_17 rfl rfl ?_
  refine V_f hB.self ?_
  refine V_cvI (n := 2) hC (c_X0_turnBox g (eL E) (f := u8) (c := o + 1) (by omega) hm k v hlen) dX4_turn_18 gX4_turn_X0_turnBox rfl rfl rfl ⟨rfl, rfl⟩ (by decide +kernel) (by decide +kernel) (by omega) zB_0 rfl (Nat.le_of_ble_eq_true rfl) (by decide) (fun x18 u18 h18 => ?_)
  obtain ⟨rfl, hu⟩ := h18
  obtain ⟨b1, b2⟩ := BIs.at hu
  have eo2 := (b2 o (by omega)).trans eo
  have hH2 := n1.keep (v := u18) fun q a b => b2 q (by omega)
  refine V_cvI (n := 1) hC (c_X4_recorded g (eL E) (o := o) hN eo2 hH2 _) dX4_turn_21 gX4_turn_X4_recorded rfl rfl rfl ⟨rfl, rfl⟩ (by decide +kernel) (by decide +kernel) (by omega) eo2 rfl (Nat.le_of_ble_eq_true rfl) (by decide) (fun x21 u21 h21 => ?_)
  obtain ⟨rfl, r1, r2⟩ := h21
  refine V_iret hC hR dX4_turn_24 ⟨rfl, rfl, _, rfl, ?_⟩
  exact ⟨rfl, ⟨hS.1.keep fun q hq => (r2 q (by omega)).trans ((b2 q (by omega)).trans (n2 q (by omega))), b1.keep fun q a b => r2 q (by omega), r1⟩, fun q hq => (r2 q (by omega)).trans ((b2 q (by omega)).trans (n2 q (by omega)))⟩
theorem inX0_X4_pass : ∀ w ∈ wsX00, w ∈ wsX4_pass := by decide +kernel
theorem inX1_X4_pass : ∀ w ∈ wsX10, w ∈ wsX4_pass := by decide +kernel
theorem inX2_X4_pass : ∀ w ∈ wsX20, w ∈ wsX4_pass := by decide +kernel
theorem inX4_X4_pass : ∀ w ∈ wsX40, w ∈ wsX4_pass := by decide +kernel
abbrev rmX4_pass : Room := { frames := 5, cells := 0, slots := 0, locals := 129 }
set_option maxHeartbeats 4000000 in
set_option maxRecDepth 100000 in
theorem c_X4_pass (g : GE) (lau : Launch) {N : Nat} {ad : Nat → Nat} {f : Nat → va_E} {o : Nat} (hN : o + 183 ≤ N) {S : ST} (hS : CAt g ad o S f) (v : Int32) (hok : ∀ n, n ≤ 99 → TicksOK n S.1) (hmk : MarkOK S.1) : Ct g lau yX4_pass wsX4_pass rmX4_pass N ad [.ref (ad o), .int (v)] f (pI N ad (fun x u => x = (sChange (mPass v S.1) S).1 ∧ CAt g ad o (sChange (mPass v S.1) S).2 u ∧ ∀ q, q < o ∨ o + 183 ≤ q → u q = f q)) 0 0 := by
  refine Ct.of (maxL := 2) rfl (by decide +kernel) [some (.ref (ad o)), some (.int (v))] (Nat.le_of_ble_eq_true rfl) (by simp [lvo, lv_args, Value.category]) (fun E hnl _ hC hR => ?_)
  have hYo : ∃ fs, f (o + 33) = .inr (2, fs) := by obtain ⟨ol, -, -, hY, -⟩ := hS.2.2; exact ⟨_, hY.1⟩
  obtain ⟨fs, hYo⟩ := hYo
  refine V_aload_n hC dX4_pass_0 rfl rfl ?_
  refine V_get hC 2 dX4_pass_1 (by omega) hS.1.1 rfl (by decide) inX4_X4_pass (by decide +kernel) rfl ?_
  refine V_aload_n hC dX4_pass_4 rfl rfl ?_
  refine V_get hC 0 dX4_pass_5 (by omega) hS.1.1 rfl (by decide) inX4_X4_pass (by decide +kernel) rfl ?_
  refine V_cvV (n := 1) hC (c_X2_note g (eL E) (y := o + 33) (by omega) hS.2.2 (c := o + 1) (by omega) (by omega) hS.2.1) dX4_pass_8 gX4_pass_X2_note rfl rfl rfl ⟨rfl, rfl⟩ (by decide +kernel) (by decide +kernel) (by omega) hYo rfl (Nat.le_of_ble_eq_true rfl) (by decide) (fun u8 h8 => ?_)
  obtain ⟨n1, n2⟩ := h8
  have eo := (n2 o (by omega)).trans hS.1.1
  obtain ⟨s, t, p, bc, co, ex, rc, pl, pn, wy, gx, hB, hm⟩ := hS.2.1.keep (v := u8) fun q a b => n2 q (by omega)
  refine V_aload_n hC dX4_pass_11 rfl rfl ?_
  refine V_aload_n hC dX4_pass_12 rfl rfl ?_
  refine V_get hC 0 dX4_pass_13 (by omega) eo rfl (by decide) inX4_X4_pass (by decide +kernel) rfl ?_
  refine V_iload_n hC dX4_pass_16 rfl rfl ?_
  refine V_f hB.self ?_
  refine V_cvI (n := 1) hC (c_X0_letPass g (eL E) (f := u8) (c := o + 1) (by omega) hm v hok hmk) dX4_pass_17 gX4_pass_X0_letPass rfl rfl rfl ⟨rfl, rfl⟩ (by decide +kernel) (by decide +kernel) (by omega) zB_0 rfl (Nat.le_of_ble_eq_true rfl) (by decide) (fun x17 u17 h17 => ?_)
  obtain ⟨rfl, hu⟩ := h17
  obtain ⟨b1, b2⟩ := BIs.at hu
  have eo2 := (b2 o (by omega)).trans eo
  have hH2 := n1.keep (v := u17) fun q a b => b2 q (by omega)
  refine V_cvI (n := 1) hC (c_X4_recorded g (eL E) (o := o) hN eo2 hH2 _) dX4_pass_20 gX4_pass_X4_recorded rfl rfl rfl ⟨rfl, rfl⟩ (by decide +kernel) (by decide +kernel) (by omega) eo2 rfl (Nat.le_of_ble_eq_true rfl) (by decide) (fun x20 u20 h20 => ?_)
  obtain ⟨rfl, r1, r2⟩ := h20
  refine V_iret hC hR dX4_pass_23 ⟨rfl, rfl, _, rfl, ?_⟩
  exact ⟨rfl, ⟨hS.1.keep fun q hq => (r2 q (by omega)).trans ((b2 q (by omega)).trans (n2 q (by omega))), b1.keep fun q a b => r2 q (by omega), r1⟩, fun q hq => (r2 q (by omega)).trans ((b2 q (by omega)).trans (n2 q (by omega)))⟩
theorem inX0_X4_box : ∀ w ∈ wsX00, w ∈ wsX4_box := by decide +kernel
theorem inX1_X4_box : ∀ w ∈ wsX10, w ∈ wsX4_box := by decide +kernel
theorem inX4_X4_box : ∀ w ∈ wsX40, w ∈ wsX4_box := by decide +kernel
abbrev rmX4_box : Room := { frames := 2, cells := 0, slots := 0, locals := 43 }
set_option maxHeartbeats 4000000 in
set_option maxRecDepth 100000 in
theorem c_X4_box (g : GE) (lau : Launch) {N : Nat} {ad : Nat → Nat} {f : Nat → va_E} {o : Nat} (hN : o + 183 ≤ N) {S : ST} (hS : CAt g ad o S f) (v : Int32) (w : Int32) : Ct g lau yX4_box wsX4_box rmX4_box N ad [.ref (ad o), .int (v), .int (w)] f (pI N ad (fun x u => x = mBox v w S.1 ∧ u = f)) 0 0 := by
  refine Ct.of (maxL := 3) rfl (by decide +kernel) [some (.ref (ad o)), some (.int (v)), some (.int (w))] (Nat.le_of_ble_eq_true rfl) (by simp [lvo, lv_args, Value.category]) (fun E hnl _ hC hR => ?_)
  obtain ⟨s, t, p, bc, co, ex, rc, pl, pn, wy, gx, hB, hm⟩ := hS.2.1
  refine V_aload_n hC dX4_box_0 rfl rfl ?_
  refine V_get hC 0 dX4_box_1 (by omega) hS.1.1 rfl (by decide) inX4_X4_box (by decide +kernel) rfl ?_
  refine V_iload_n hC dX4_box_4 rfl rfl ?_
  refine V_iload_n hC dX4_box_5 rfl rfl ?_
  refine V_f hB.self ?_
  refine V_cvI (n := 2) hC (c_X0_aboutBox g (eL E) (f := f) (c := o + 1) (by omega) hm v w) dX4_box_6 gX4_box_X0_aboutBox rfl rfl rfl ⟨rfl, rfl⟩ (by decide +kernel) (by decide +kernel) (by omega) zB_0 rfl (Nat.le_of_ble_eq_true rfl) (by decide) (fun x6 u6 h6 => ?_)
  obtain ⟨rfl, rfl⟩ := h6
  refine V_f hB.self.symm ?_
  refine V_iret hC hR dX4_box_9 ⟨rfl, rfl, _, rfl, ?_⟩
  exact ⟨rfl, rfl⟩
theorem inX0_X4_plan : ∀ w ∈ wsX00, w ∈ wsX4_plan := by decide +kernel
theorem inX4_X4_plan : ∀ w ∈ wsX40, w ∈ wsX4_plan := by decide +kernel
abbrev rmX4_plan : Room := { frames := 1, cells := 0, slots := 0, locals := 21 }
set_option maxHeartbeats 4000000 in
set_option maxRecDepth 100000 in
theorem c_X4_plan (g : GE) (lau : Launch) {N : Nat} {ad : Nat → Nat} {f : Nat → va_E} {o : Nat} (hN : o + 183 ≤ N) {S : ST} (hS : CAt g ad o S f) (v : Int32) : Ct g lau yX4_plan wsX4_plan rmX4_plan N ad [.ref (ad o), .int (v)] f (pI N ad (fun x u => x = mPlan v S.1 ∧ u = f)) 0 0 := by
  refine Ct.of (maxL := 2) rfl (by decide +kernel) [some (.ref (ad o)), some (.int (v))] (Nat.le_of_ble_eq_true rfl) (by simp [lvo, lv_args, Value.category]) (fun E hnl _ hC hR => ?_)
  obtain ⟨s, t, p, bc, co, ex, rc, pl, pn, wy, gx, hB, hm⟩ := hS.2.1
  refine V_aload_n hC dX4_plan_0 rfl rfl ?_
  refine V_get hC 0 dX4_plan_1 (by omega) hS.1.1 rfl (by decide) inX4_X4_plan (by decide +kernel) rfl ?_
  refine V_iload_n hC dX4_plan_4 rfl rfl ?_
  refine V_f hB.self ?_
  refine V_cvI (n := 1) hC (c_X0_planAt g (eL E) (f := f) (c := o + 1) (by omega) hm v) dX4_plan_5 gX4_plan_X0_planAt rfl rfl rfl ⟨rfl, rfl⟩ (by decide +kernel) (by decide +kernel) (by omega) zB_0 rfl (Nat.le_of_ble_eq_true rfl) (by decide) (fun x5 u5 h5 => ?_)
  obtain ⟨rfl, rfl⟩ := h5
  refine V_f hB.self.symm ?_
  refine V_iret hC hR dX4_plan_8 ⟨rfl, rfl, _, rfl, ?_⟩
  exact ⟨rfl, rfl⟩
theorem inX0_X4_report : ∀ w ∈ wsX00, w ∈ wsX4_report := by decide +kernel
theorem inX4_X4_report : ∀ w ∈ wsX40, w ∈ wsX4_report := by decide +kernel
abbrev rmX4_report : Room := { frames := 1, cells := 0, slots := 0, locals := 22 }
set_option maxHeartbeats 4000000 in
set_option maxRecDepth 100000 in
theorem c_X4_report (g : GE) (lau : Launch) {N : Nat} {ad : Nat → Nat} {f : Nat → va_E} {o : Nat} (hN : o + 183 ≤ N) {S : ST} (hS : CAt g ad o S f) (v : Int32) (w : Int32) : Ct g lau yX4_report wsX4_report rmX4_report N ad [.ref (ad o), .int (v), .int (w)] f (pI N ad (fun x u => x = mReport v w S.1 ∧ u = f)) 0 0 := by
  refine Ct.of (maxL := 3) rfl (by decide +kernel) [some (.ref (ad o)), some (.int (v)), some (.int (w))] (Nat.le_of_ble_eq_true rfl) (by simp [lvo, lv_args, Value.category]) (fun E hnl _ hC hR => ?_)
  obtain ⟨s, t, p, bc, co, ex, rc, pl, pn, wy, gx, hB, hm⟩ := hS.2.1
  refine V_aload_n hC dX4_report_0 rfl rfl ?_
  refine V_get hC 0 dX4_report_1 (by omega) hS.1.1 rfl (by decide) inX4_X4_report (by decide +kernel) rfl ?_
  refine V_iload_n hC dX4_report_4 rfl rfl ?_
  refine V_iload_n hC dX4_report_5 rfl rfl ?_
  refine V_f hB.self ?_
  refine V_cvI (n := 2) hC (c_X0_aboutReport g (eL E) (f := f) (c := o + 1) (by omega) hm v w) dX4_report_6 gX4_report_X0_aboutReport rfl rfl rfl ⟨rfl, rfl⟩ (by decide +kernel) (by decide +kernel) (by omega) zB_0 rfl (Nat.le_of_ble_eq_true rfl) (by decide) (fun x6 u6 h6 => ?_)
  obtain ⟨rfl, rfl⟩ := h6
  refine V_f hB.self.symm ?_
  refine V_iret hC hR dX4_report_9 ⟨rfl, rfl, _, rfl, ?_⟩
  exact ⟨rfl, rfl⟩
theorem numB_s {w : Nat} (h : w < 22) (S : ST) : numB w S.1 = sCount (nI w) S := by
  have h0 : ¬ nI w < 0 := nI_pos (by omega)
  unfold numB sCount
  rw [if_neg h0, nI_clamp (by omega)]
  by_cases h14 : w < 14
  · rw [show (14 : Int32) = nI 14 from rfl, if_pos h14, if_pos ((nI_ltI (b := 14) (by omega) (by decide)).mpr h14)]
  · rw [show (14 : Int32) = nI 14 from rfl, show (22 : Int32) = nI 22 from rfl, if_neg h14, if_neg (fun q => h14 ((nI_ltI (b := 14) (by omega) (by decide)).mp q)), if_pos ((nI_ltI (b := 22) (by omega) (by decide)).mpr h)]
theorem inX0_X4_count : ∀ w ∈ wsX00, w ∈ wsX4_count := by decide +kernel
theorem inX2_X4_count : ∀ w ∈ wsX20, w ∈ wsX4_count := by decide +kernel
theorem inX3_X4_count : ∀ w ∈ wsX30, w ∈ wsX4_count := by decide +kernel
theorem inX4_X4_count : ∀ w ∈ wsX40, w ∈ wsX4_count := by decide +kernel
abbrev rmX4_count : Room := { frames := 1, cells := 0, slots := 0, locals := 22 }
set_option maxHeartbeats 4000000 in
set_option maxRecDepth 100000 in
theorem c_X4_count (g : GE) (lau : Launch) {N : Nat} {ad : Nat → Nat} {f : Nat → va_E} {o : Nat} (hN : o + 183 ≤ N) {S : ST} (hS : CAt g ad o S f) (v : Int32) : Ct g lau yX4_count wsX4_count rmX4_count N ad [.ref (ad o), .int (v)] f (pI N ad (fun x u => x = sCount v S ∧ u = f)) 0 0 := by
  refine Ct.of (maxL := 2) rfl (by decide +kernel) [some (.ref (ad o)), some (.int (v))] (Nat.le_of_ble_eq_true rfl) (by simp [lvo, lv_args, Value.category]) (fun E hnl _ hC hR => ?_)
  obtain ⟨s, t, p, bc, co, ex, rc, pl, pn, wy, gx, hB, hm⟩ := hS.2.1
  obtain ⟨-, -, -, -, sg, hp1, -⟩ := hS.1
  obtain ⟨ol, -, -, hY, -⟩ := hS.2.2
  refine V_iload_n hC dX4_count_0 rfl rfl ?_
  refine V_if_lt hC 10 dX4_count_1 (by decide) (fun c1 => ?_) (fun c1 => ?_)
  · refine V_bipush hC (-2) dX4_count_10 (by decide) ?_
    refine V_iret hC hR dX4_count_12 ⟨rfl, rfl, _, rfl, ?_⟩
    first | exact ⟨by unfold sCount; rw [if_pos c1], rfl⟩ | (refine ⟨?_, rfl⟩; have hh : ∀ z : Int32, z ≤ 23 → ¬ v = z ∧ ¬ v < z := fun z hz => ⟨fun q => absurd (q ▸ c7) (Int32.not_lt.mpr hz), fun q => absurd (Int32.lt_of_lt_of_le q hz) (Int32.lt_asymm c7)⟩; unfold sCount; rw [if_neg (hh 0 (by decide)).2, if_neg (hh 14 (by decide)).2, if_neg (hh 22 (by decide)).2, if_neg (hh 22 (by decide)).1, if_neg (hh 23 (by decide)).1])
  · refine V_iload_n hC dX4_count_4 rfl rfl ?_
    refine V_bipush hC 23 dX4_count_5 (by decide) ?_
    refine V_icmp_le hC 13 dX4_count_7 (by decide) (fun c7 => ?_) (fun c7 => ?_)
    · obtain ⟨w, hw, rfl⟩ := lt_n (n := 24) (by decide) c1 (by have c8 := Int32.le_iff_toInt_le.mp c7; have e : (23 : Int32).toInt = 23 := rfl; have e2 : (nI 24).toInt = 24 := rfl; rw [Int32.le_iff_toInt_le, e2]; omega)
      refine V_iload_n hC dX4_count_13 rfl rfl ?_
      refine V_bipush hC 22 dX4_count_14 (by decide) ?_
      refine V_icmp_ne hC 27 dX4_count_16 (by decide) (fun c16 => ?_) (fun c16 => ?_)
      · refine V_iload_n hC dX4_count_27 rfl rfl ?_
        refine V_bipush hC 23 dX4_count_28 (by decide) ?_
        refine V_icmp_ne hC 41 dX4_count_30 (by decide) (fun c30 => ?_) (fun c30 => ?_)
        · have hw2 : w < 22 := by rcases (show w < 22 ∨ w = 22 ∨ w = 23 by omega) with q | q | q; exact q; exact absurd (q ▸ rfl) c16; exact absurd (q ▸ rfl) c30
          refine V_aload_n hC dX4_count_41 rfl rfl ?_
          refine V_get hC 0 dX4_count_42 (by omega) hS.1.1 rfl (by decide) inX4_X4_count (by decide +kernel) rfl ?_
          refine V_iload_n hC dX4_count_45 rfl rfl ?_
          refine V_f hB.self ?_
          refine V_cvI (n := 1) hC (c_X0_number g (eL E) (f := f) (c := o + 1) (by omega) hm (k := w) (by omega)) dX4_count_46 gX4_count_X0_number rfl rfl rfl ⟨rfl, rfl⟩ (by decide +kernel) (by decide +kernel) (by omega) zB_0 rfl (Nat.le_of_ble_eq_true rfl) (by decide) (fun x46 u46 h46 => ?_)
          obtain ⟨rfl, rfl⟩ := h46
          refine V_f hB.self.symm ?_
          refine V_iret hC hR dX4_count_49 ⟨rfl, rfl, _, rfl, ?_⟩
          exact ⟨numB_s hw2 S, rfl⟩
        · have ew : w = 23 := (nI_eq (b := 23) (by omega) (by decide)).mp c30
          refine V_aload_n hC dX4_count_33 rfl rfl ?_
          refine V_get hC 2 dX4_count_34 (by omega) hS.1.1 rfl (by decide) inX4_X4_count (by decide +kernel) rfl ?_
          refine V_get hC 2 dX4_count_37 (by omega) hY.1 rfl (by decide) inX2_X4_count (by decide +kernel) rfl ?_
          refine V_iret hC hR dX4_count_40 ⟨rfl, rfl, _, rfl, ?_⟩
          subst ew
          exact ⟨rfl, rfl⟩
      · have ew : w = 22 := (nI_eq (b := 22) (by omega) (by decide)).mp c16
        refine V_aload_n hC dX4_count_19 rfl rfl ?_
        refine V_get hC 5 dX4_count_20 (by omega) hS.1.1 rfl (by decide) inX4_X4_count (by decide +kernel) rfl ?_
        refine V_get hC 1 dX4_count_23 (by omega) hp1 rfl (by decide) inX3_X4_count (by decide +kernel) rfl ?_
        refine V_iret hC hR dX4_count_26 ⟨rfl, rfl, _, rfl, ?_⟩
        subst ew
        exact ⟨rfl, rfl⟩
    · have c7 : 23 < v := Int32.not_le.mp c7
      refine V_bipush hC (-2) dX4_count_10 (by decide) ?_
      refine V_iret hC hR dX4_count_12 ⟨rfl, rfl, _, rfl, ?_⟩
      first | exact ⟨by unfold sCount; rw [if_pos c1], rfl⟩ | (refine ⟨?_, rfl⟩; have hh : ∀ z : Int32, z ≤ 23 → ¬ v = z ∧ ¬ v < z := fun z hz => ⟨fun q => absurd (q ▸ c7) (Int32.not_lt.mpr hz), fun q => absurd (Int32.lt_of_lt_of_le q hz) (Int32.lt_asymm c7)⟩; unfold sCount; rw [if_neg (hh 0 (by decide)).2, if_neg (hh 14 (by decide)).2, if_neg (hh 22 (by decide)).2, if_neg (hh 22 (by decide)).1, if_neg (hh 23 (by decide)).1])
theorem inX0_X4_undo : ∀ w ∈ wsX00, w ∈ wsX4_undo := by decide +kernel
theorem inX1_X4_undo : ∀ w ∈ wsX10, w ∈ wsX4_undo := by decide +kernel
theorem inX2_X4_undo : ∀ w ∈ wsX20, w ∈ wsX4_undo := by decide +kernel
theorem inX4_X4_undo : ∀ w ∈ wsX40, w ∈ wsX4_undo := by decide +kernel
abbrev rmX4_undo : Room := { frames := 3, cells := 0, slots := 0, locals := 83 }
set_option maxHeartbeats 4000000 in
set_option maxRecDepth 100000 in
theorem c_X4_undo (g : GE) (lau : Launch) {N : Nat} {ad : Nat → Nat} {f : Nat → va_E} {o : Nat} (hN : o + 183 ≤ N) {S : ST} (hS : CAt g ad o S f) : Ct g lau yX4_undo wsX4_undo rmX4_undo N ad [.ref (ad o)] f (pI N ad (fun x u => x = (sUndo S).1 ∧ CAt g ad o (sUndo S).2 u ∧ ∀ q, q < o ∨ o + 183 ≤ q → u q = f q)) 0 0 := by
  refine Ct.of (maxL := 1) rfl (by decide +kernel) [some (.ref (ad o))] (Nat.le_of_ble_eq_true rfl) (by simp [lvo, lv_args, Value.category]) (fun E hnl _ hC hR => ?_)
  have hYo : ∃ fs, f (o + 33) = .inr (2, fs) := by obtain ⟨ol, -, -, hY, -⟩ := hS.2.2; exact ⟨_, hY.1⟩
  obtain ⟨fs, hYo⟩ := hYo
  obtain ⟨m, hi, sl, pd⟩ := S
  obtain ⟨ol, ho, h6, hY, hA⟩ := hS.2.2
  refine V_aload_n hC dX4_undo_0 rfl rfl ?_
  refine V_get hC 2 dX4_undo_1 (by omega) hS.1.1 rfl (by decide) inX4_X4_undo (by decide +kernel) rfl ?_
  refine V_get hC 2 dX4_undo_4 (by omega) hY.1 rfl (by decide) inX2_X4_undo (by decide +kernel) rfl ?_
  refine V_if_ne hC 13 dX4_undo_7 (by decide) (fun c7 => ?_) (fun c7 => ?_)
  · have hne : hi ≠ [] := fun q => c7 (by rw [q]; rfl)
    obtain ⟨hi2, m2, rfl⟩ : ∃ a b, hi = a ++ [b] := ⟨hi.dropLast, hi.getLast hne, (List.dropLast_concat_getLast hne).symm⟩
    refine V_aload_n hC dX4_undo_13 rfl rfl ?_
    refine V_get hC 2 dX4_undo_14 (by omega) hS.1.1 rfl (by decide) inX4_X4_undo (by decide +kernel) rfl ?_
    refine V_aload_n hC dX4_undo_17 rfl rfl ?_
    refine V_get hC 0 dX4_undo_18 (by omega) hS.1.1 rfl (by decide) inX4_X4_undo (by decide +kernel) rfl ?_
    refine V_cvV (n := 1) hC (c_X2_takeBack g (eL E) (y := o + 33) (by omega) hS.2.2 (c := o + 1) (by omega) (by omega) hS.2.1) dX4_undo_21 gX4_undo_X2_takeBack rfl rfl rfl ⟨rfl, rfl⟩ (by decide +kernel) (by decide +kernel) (by omega) hYo rfl (Nat.le_of_ble_eq_true rfl) (by decide) (fun u21 h21 => ?_)
    obtain ⟨k1, k2, k3⟩ := h21
    have eo := (k3 o (by omega) (by omega)).trans hS.1.1
    obtain ⟨ol2, -, -, hY2, -⟩ := id k1
    refine V_aload_n hC dX4_undo_24 rfl rfl ?_
    refine V_get hC 2 dX4_undo_25 (by omega) eo rfl (by decide) inX4_X4_undo (by decide +kernel) rfl ?_
    refine V_get hC 2 dX4_undo_28 (by omega) hY2.1 rfl (by decide) inX2_X4_undo (by decide +kernel) rfl ?_
    refine V_iret hC hR dX4_undo_31 ⟨rfl, rfl, _, rfl, ?_⟩
    have e : sUndo (m, hi2 ++ [m2], sl, pd) = (nI hi2.length, (m2, hi2, sl, pd)) := by simp [sUndo]
    rw [e]
    exact ⟨rfl, ⟨hS.1.keep fun q hq => k3 q (by omega) (by omega), k2, k1⟩, fun q hq => k3 q (by omega) (by omega)⟩
  · have hi0 : hi = [] := by have := (nI_eq (b := 0) (by show hi.length < 2 ^ 31; have h6 : hi.length ≤ 6 := h6; omega) (by decide)).mp c7; exact List.length_eq_zero_iff.mp this
    subst hi0
    refine V_bipush hC (-5) dX4_undo_10 (by decide) ?_
    refine V_iret hC hR dX4_undo_12 ⟨rfl, rfl, _, rfl, ?_⟩
    exact ⟨rfl, hS, fun q hq => rfl⟩
abbrev rmX4_canTry : Room := { frames := 0, cells := 0, slots := 0, locals := 0 }
set_option maxHeartbeats 4000000 in
set_option maxRecDepth 100000 in
theorem c_X4_canTry (g : GE) (lau : Launch) {N : Nat} {ad : Nat → Nat} {f : Nat → va_E} (v : Int32) : Ct g lau yX4_canTry wsX4_canTry rmX4_canTry N ad [.int v] f (pI N ad (fun x u => (x = 1 ∧ okT v = true ∧ u = f) ∨ (x = 0 ∧ okT v = false ∧ u = f))) 0 0 := by
  refine Ct.of (maxL := 1) rfl (by decide +kernel) [some (.int v)] (Nat.le_of_ble_eq_true rfl) (by simp [lvo, lv_args, Value.category]) (fun E hnl _ hC hR => ?_)
  refine V_iload_n hC dX4_canTry_0 rfl rfl ?_
  refine V_iconst hC 1 dX4_canTry_1 (by decide) ?_
  refine V_icmp_lt hC 15 dX4_canTry_2 (by decide) (fun c2 => ?_) (fun c2 => ?_)
  · refine V_iconst hC 0 dX4_canTry_15 (by decide) ?_
    refine V_zret hC hR rfl dX4_canTry_16 ⟨rfl, rfl, _, rfl, ?_⟩
    first | exact Or.inl ⟨rfl, by simp only [okT, Bool.and_eq_true, decide_eq_true_eq]; exact ⟨Int32.not_lt.mp c2, Int32.not_lt.mp c8⟩, rfl⟩ | exact Or.inr ⟨rfl, by rw [okT, decide_eq_false (Int32.not_le.mpr c2)]; rfl, rfl⟩ | exact Or.inr ⟨rfl, by rw [okT, decide_eq_false (p := v ≤ 99) (Int32.not_le.mpr c8), Bool.and_false], rfl⟩
  · refine V_iload_n hC dX4_canTry_5 rfl rfl ?_
    refine V_bipush hC 99 dX4_canTry_6 (by decide) ?_
    refine V_icmp_gt hC 15 dX4_canTry_8 (by decide) (fun c8 => ?_) (fun c8 => ?_)
    · refine V_iconst hC 0 dX4_canTry_15 (by decide) ?_
      refine V_zret hC hR rfl dX4_canTry_16 ⟨rfl, rfl, _, rfl, ?_⟩
      first | exact Or.inl ⟨rfl, by simp only [okT, Bool.and_eq_true, decide_eq_true_eq]; exact ⟨Int32.not_lt.mp c2, Int32.not_lt.mp c8⟩, rfl⟩ | exact Or.inr ⟨rfl, by rw [okT, decide_eq_false (Int32.not_le.mpr c2)]; rfl, rfl⟩ | exact Or.inr ⟨rfl, by rw [okT, decide_eq_false (p := v ≤ 99) (Int32.not_le.mpr c8), Bool.and_false], rfl⟩
    · refine V_iconst hC 1 dX4_canTry_11 (by decide) ?_
      refine V_goto hC 16 dX4_canTry_12 (by decide) ?_
      refine V_zret hC hR rfl dX4_canTry_16 ⟨rfl, rfl, _, rfl, ?_⟩
      first | exact Or.inl ⟨rfl, by simp only [okT, Bool.and_eq_true, decide_eq_true_eq]; exact ⟨Int32.not_lt.mp c2, Int32.not_lt.mp c8⟩, rfl⟩ | exact Or.inr ⟨rfl, by rw [okT, decide_eq_false (Int32.not_le.mpr c2)]; rfl, rfl⟩ | exact Or.inr ⟨rfl, by rw [okT, decide_eq_false (p := v ≤ 99) (Int32.not_le.mpr c8), Bool.and_false], rfl⟩
end
section
theorem slot_n {k : Int32} (h : 0 ≤ k ∧ k ≤ 1) : ∃ j, j < 2 ∧ k = nI j := by
  obtain ⟨j, hj, e⟩ := nI_of (x := k) (Int32.not_lt.mpr h.1)
  subst e
  exact ⟨j, by have := (nI_leI hj (b := 1) (by decide)).mp h.2; omega, rfl⟩
theorem numB_0 (m : MT) : numB 0 m = m.1 8 := rfl
def fsn (j : Nat) : Nat := if j = 0 then 3 else if j = 1 then 4 else if j = 2 then 5 else if j = 3 then 9 else if j = 4 then 6 else 7
theorem fsn_v {j : Nat} (h : j < 6) : lstA [3, 4, 5, 9, 6, 7] j = nI (fsn j) := by
  rcases (show j = 0 ∨ j = 1 ∨ j = 2 ∨ j = 3 ∨ j = 4 ∨ j = 5 by omega) with rfl | rfl | rfl | rfl | rfl | rfl <;> decide
theorem fsn_b (j : Nat) : fsn j = 3 ∨ fsn j = 4 ∨ fsn j = 5 ∨ fsn j = 9 ∨ fsn j = 6 ∨ fsn j = 7 := by
  unfold fsn
  repeat' (split; simp)
  simp
theorem numB_f {k : Nat} (h : k < 14) (h1 : k ≠ 1) (h2 : k ≠ 11) (h3 : k ≠ 12) (m : MT) : numB k m = m.1 (8 + k) := by
  unfold numB
  rw [if_pos h, hAll, if_neg (by omega), if_neg (by omega), if_neg (by omega)]
theorem numB_fs (j : Nat) (m : MT) : numB (fsn j) m = m.1 (8 + fsn j) := by
  have := fsn_b j
  exact numB_f (by omega) (by omega) (by omega) (by omega) m
theorem mIf_f {n j : Nat} {m : MT} (hn : n ≤ 99) (h : okT (nI n) = true) (hj : j < 6) : mIf (nI n) (nI j) m = (mTicks n m).1 (8 + fsn j) - m.1 (8 + fsn j) := by
  rw [mIf, h, nI_clamp (by omega)]
  rcases (show j = 0 ∨ j = 1 ∨ j = 2 ∨ j = 3 ∨ j = 4 ∨ j = 5 by omega) with rfl | rfl | rfl | rfl | rfl | rfl <;> rfl
theorem mIf_6 {n : Nat} {m : MT} (hn : n ≤ 99) (h : okT (nI n) = true) : mIf (nI n) 6 m = (mTicks n m).1 18 := by
  rw [mIf, h, nI_clamp (by omega)]
  rfl
theorem mIf_t {v w : Int32} {m : MT} (h : okT v = false) : mIf v w m = -2 := by rw [mIf, h]; rfl
/-- the class with another belt to try on -/
theorem CAt.try {g : GE} {ad : Nat → Nat} {o : Nat} {S : ST} {m : MT} {u v : Nat → va_E} (h : CAt g ad o S u) (hN : BAt g ad (o + 17) m v) (he : ∀ q, q < o + 17 ∨ o + 33 ≤ q → v q = u q) : CAt g ad o S v := by
  obtain ⟨⟨h1, -, h3, ⟨sv, h4, h5⟩, sg, h6, h7, h8⟩, h9, h10⟩ := h
  refine ⟨⟨(he _ (by omega)).trans h1, ⟨m, hN⟩, (he _ (by omega)).trans h3, ⟨sv, (he _ (by omega)).trans h4, fun k hk => ?_⟩, sg, (he _ (by omega)).trans h6, (he _ (by omega)).trans h7, h8⟩, h9.keep fun q a b => he q (by omega), h10.keep fun q a b => he q (by omega)⟩
  obtain ⟨m, q1, q2⟩ := h5 k hk
  exact ⟨m, q1.keep fun q a b => he q (by omega), q2⟩
theorem inX0_X4_ifPass : ∀ w ∈ wsX00, w ∈ wsX4_ifPass := by decide +kernel
theorem inX1_X4_ifPass : ∀ w ∈ wsX10, w ∈ wsX4_ifPass := by decide +kernel
theorem inX4_X4_ifPass : ∀ w ∈ wsX40, w ∈ wsX4_ifPass := by decide +kernel
abbrev rmX4_ifPass : Room := { frames := 4, cells := 0, slots := 0, locals := 107 }
set_option maxHeartbeats 4000000 in
set_option maxRecDepth 100000 in
theorem c_X4_ifPass (g : GE) (lau : Launch) {N : Nat} {ad : Nat → Nat} {f : Nat → va_E} {o : Nat} (hN : o + 183 ≤ N) {S : ST} (hS : CAt g ad o S f) (v w : Int32) (hok : ∀ n, n ≤ 99 → TicksOK n S.1) (hmk : MarkOK S.1) : Ct g lau yX4_ifPass wsX4_ifPass rmX4_ifPass N ad [.ref (ad o), .int (v), .int (w)] f (pI N ad (fun x u => x = mIf v w S.1 ∧ CAt g ad o S u ∧ ∀ q, q < o ∨ o + 183 ≤ q → u q = f q)) 0 0 := by
  refine Ct.of (maxL := 3) rfl (by decide +kernel) [some (.ref (ad o)), some (.int (v)), some (.int (w))] (Nat.le_of_ble_eq_true rfl) (by simp [lvo, lv_args, Value.category]) (fun E hnl _ hC hR => ?_)
  refine V_iload_n hC dX4_ifPass_0 rfl rfl ?_
  refine V_csI (n := 1) hC (c_X4_canTry g (eL E) v) dX4_ifPass_1 gX4_ifPass_X4_canTry rfl rfl rfl ⟨rfl, rfl⟩ (by decide +kernel) (by decide +kernel) (Nat.le_of_ble_eq_true rfl) (by decide) (fun x1 u1 h1 => ?_)
  rcases h1 with ⟨rfl, hT, he⟩ | ⟨rfl, hT, he⟩
  · obtain rfl := he.symm
    obtain ⟨n, hn, rfl⟩ := okT_n hT
    refine V_if_eq_f (tgt := 19) hC dX4_ifPass_4 (by decide) (by decide) ?_
    refine V_iload_n hC dX4_ifPass_7 rfl rfl ?_
    refine V_if_lt hC 19 dX4_ifPass_8 (by decide) (fun c8 => ?_) (fun c8 => ?_)
    · have hw : ¬ ((0 : Int32) ≤ w ∧ w ≤ 6) := fun q => absurd q.1 (Int32.not_le.mpr c8)
      refine V_bipush hC (-2) dX4_ifPass_19 (by decide) ?_
      refine V_iret hC hR dX4_ifPass_21 ⟨rfl, rfl, _, rfl, ?_⟩
      first | exact ⟨(mIf_t hT).symm, hS, fun q hq => rfl⟩ | exact ⟨(mIf_no hT hw).symm, hS, fun q hq => rfl⟩
    · have hw0 : 0 ≤ w := Int32.not_lt.mp c8
      refine V_iload_n hC dX4_ifPass_11 rfl rfl ?_
      refine V_gets hC hC.2.2.2.2.2.2.2.1.2.2.2.1 dX4_ifPass_12 (by decide +kernel) ?_
      refine V_talen hC hC.2.2.2.2.2.2.2.1.2.2.2.1 6 rfl dX4_ifPass_15 ?_
      refine V_icmp_le hC 22 dX4_ifPass_16 (by decide) (fun c16 => ?_) (fun c16 => ?_)
      · obtain ⟨j, hj7, rfl⟩ := lt_n (n := 7) (by decide) c8 (by have e1 := Int32.le_iff_toInt_le.mp c16; have e2 : (6 : Int32).toInt = 6 := rfl; have e3 : (nI 7).toInt = 7 := rfl; rw [Int32.le_iff_toInt_le, e3]; omega)
        obtain ⟨m1, s, t, p, bc, co, ex, rc, pl, pn, wy, gx, hB, hm1⟩ := id hS.1.2.1
        obtain ⟨s2, t2, p2, bc2, co2, ex2, rc2, pl2, pn2, wy2, gx2, hB2, hm⟩ := id hS.2.1
        refine V_aload_n hC dX4_ifPass_22 rfl rfl ?_
        refine V_get hC 1 dX4_ifPass_23 (by omega) hS.1.1 rfl (by decide) inX4_X4_ifPass (by decide +kernel) rfl ?_
        refine V_aload_n hC dX4_ifPass_26 rfl rfl ?_
        refine V_get hC 0 dX4_ifPass_27 (by omega) hS.1.1 rfl (by decide) inX4_X4_ifPass (by decide +kernel) rfl ?_
        refine V_f hB.self ?_
        refine V_cvV (n := 1) hC (c_X0_copyFrom g (eL E) (f := f) (c := o + 17) (by omega) hm1 (c2 := o + 1) (by omega) (by omega) hB2 hm) dX4_ifPass_30 gX4_ifPass_X0_copyFrom rfl rfl rfl ⟨rfl, rfl⟩ (by decide +kernel) (by decide +kernel) (by omega) zB_0 rfl (Nat.le_of_ble_eq_true rfl) (by decide) (fun u30 h30 => ?_)
        obtain hu := h30
        obtain ⟨b1, b2⟩ := BIs.at h30
        have eo := (b2 o (by omega)).trans hS.1.1
        obtain ⟨s3, t3, p3, bc3, co3, ex3, rc3, pl3, pn3, wy3, gx3, hB3, hm3⟩ := id b1
        refine V_aload_n hC dX4_ifPass_33 rfl rfl ?_
        refine V_get hC 1 dX4_ifPass_34 (by omega) eo rfl (by decide) inX4_X4_ifPass (by decide +kernel) rfl ?_
        refine V_iload_n hC dX4_ifPass_37 rfl rfl ?_
        refine V_f hB3.self ?_
        refine V_cvV (n := 1) hC (c_X0_tickOn g (eL E) (f := u30) (c := o + 17) (by omega) (n := n) (by omega) hm3 (hok n hn) hmk) dX4_ifPass_38 gX4_ifPass_X0_tickOn rfl rfl rfl ⟨rfl, rfl⟩ (by decide +kernel) (by decide +kernel) (by omega) zB_0 rfl (Nat.le_of_ble_eq_true rfl) (by decide) (fun u38 h38 => ?_)
        obtain hu := h38
        obtain ⟨d1, d2⟩ := BIs.at h38
        have eo2 := (d2 o (by omega)).trans eo
        obtain ⟨s4, t4, p4, bc4, co4, ex4, rc4, pl4, pn4, wy4, gx4, hB4, hm4⟩ := id d1
        have kp : ∀ q, q < o + 17 ∨ o + 33 ≤ q → u38 q = f q := fun q hq => (d2 q (by omega)).trans (b2 q (by omega))
        have hB5 := hB2.keep (v := u38) fun q a b => kp q (by omega)
        refine V_iload_n hC dX4_ifPass_41 rfl rfl ?_
        refine V_gets hC hC.2.2.2.2.2.2.2.1.2.2.2.1 dX4_ifPass_42 (by decide +kernel) ?_
        refine V_talen hC hC.2.2.2.2.2.2.2.1.2.2.2.1 6 rfl dX4_ifPass_45 ?_
        refine V_icmp_ne hC 59 dX4_ifPass_46 (by decide) (fun c46 => ?_) (fun c46 => ?_)
        · have hj6 : j < 6 := by rcases Nat.lt_or_ge j 6 with q | q; exact q; exact absurd (by rw [show j = 6 by omega]; rfl) c46
          refine V_aload_n hC dX4_ifPass_59 rfl rfl ?_
          refine V_get hC 1 dX4_ifPass_60 (by omega) eo2 rfl (by decide) inX4_X4_ifPass (by decide +kernel) rfl ?_
          refine V_gets hC hC.2.2.2.2.2.2.2.1.2.2.2.1 dX4_ifPass_63 (by decide +kernel) ?_
          refine V_iload_n hC dX4_ifPass_66 rfl rfl ?_
          refine V_tald hC hC.2.2.2.2.2.2.2.1.2.2.2.1 dX4_ifPass_67 (ix_nI (j := j) hj6 (by decide)) ?_
          refine V_eqt (nI (fsn j)) (fsn_v hj6) ?_
          refine V_f hB4.self ?_
          refine V_cvI (n := 1) hC (c_X0_number g (eL E) (f := u38) (c := (o + 17)) (by omega) hm4 (k := fsn j) (by have := fsn_b j; omega)) dX4_ifPass_68 gX4_ifPass_X0_number rfl rfl rfl ⟨rfl, rfl⟩ (by decide +kernel) (by decide +kernel) (by omega) zB_0 rfl (Nat.le_of_ble_eq_true rfl) (by decide) (fun x68 u68 h68 => ?_)
          obtain ⟨rfl, rfl⟩ := h68
          refine V_f hB4.self.symm ?_
          refine V_aload_n hC dX4_ifPass_71 rfl rfl ?_
          refine V_get hC 0 dX4_ifPass_72 (by omega) eo2 rfl (by decide) inX4_X4_ifPass (by decide +kernel) rfl ?_
          refine V_gets hC hC.2.2.2.2.2.2.2.1.2.2.2.1 dX4_ifPass_75 (by decide +kernel) ?_
          refine V_iload_n hC dX4_ifPass_78 rfl rfl ?_
          refine V_tald hC hC.2.2.2.2.2.2.2.1.2.2.2.1 dX4_ifPass_79 (ix_nI (j := j) hj6 (by decide)) ?_
          refine V_eqt (nI (fsn j)) (fsn_v hj6) ?_
          refine V_f hB5.self ?_
          refine V_cvI (n := 1) hC (c_X0_number g (eL E) (f := u38) (c := (o + 1)) (by omega) hm (k := fsn j) (by have := fsn_b j; omega)) dX4_ifPass_80 gX4_ifPass_X0_number rfl rfl rfl ⟨rfl, rfl⟩ (by decide +kernel) (by decide +kernel) (by omega) zB_0 rfl (Nat.le_of_ble_eq_true rfl) (by decide) (fun x80 u80 h80 => ?_)
          obtain ⟨rfl, rfl⟩ := h80
          refine V_f hB5.self.symm ?_
          refine V_isub hC dX4_ifPass_83 ?_
          refine V_iret hC hR dX4_ifPass_84 ⟨rfl, rfl, _, rfl, ?_⟩
          exact ⟨by rw [mIf_f hn hT hj6, numB_fs, numB_fs], hS.try d1 kp, fun q hq => kp q (by omega)⟩
        · have hj6 : j = 6 := (nI_eq (b := 6) (by omega) (by decide)).mp c46
          subst hj6
          refine V_aload_n hC dX4_ifPass_49 rfl rfl ?_
          refine V_get hC 1 dX4_ifPass_50 (by omega) eo2 rfl (by decide) inX4_X4_ifPass (by decide +kernel) rfl ?_
          refine V_bipush hC 10 dX4_ifPass_53 (by decide) ?_
          refine V_eqt (nI 10) rfl ?_
          refine V_f hB4.self ?_
          refine V_cvI (n := 1) hC (c_X0_number g (eL E) (f := u38) (c := (o + 17)) (by omega) hm4 (k := 10) (by omega)) dX4_ifPass_55 gX4_ifPass_X0_number rfl rfl rfl ⟨rfl, rfl⟩ (by decide +kernel) (by decide +kernel) (by omega) zB_0 rfl (Nat.le_of_ble_eq_true rfl) (by decide) (fun x55 u55 h55 => ?_)
          obtain ⟨rfl, rfl⟩ := h55
          refine V_f hB4.self.symm ?_
          refine V_iret hC hR dX4_ifPass_58 ⟨rfl, rfl, _, rfl, ?_⟩
          exact ⟨(mIf_6 hn hT).symm, hS.try d1 kp, fun q hq => kp q (by omega)⟩
      · have hw : ¬ ((0 : Int32) ≤ w ∧ w ≤ 6) := fun q => absurd q.2 c16
        refine V_bipush hC (-2) dX4_ifPass_19 (by decide) ?_
        refine V_iret hC hR dX4_ifPass_21 ⟨rfl, rfl, _, rfl, ?_⟩
        first | exact ⟨(mIf_t hT).symm, hS, fun q hq => rfl⟩ | exact ⟨(mIf_no hT hw).symm, hS, fun q hq => rfl⟩
  · obtain rfl := he.symm
    refine V_if_eq_t hC 19 dX4_ifPass_4 (by decide) rfl ?_
    refine V_bipush hC (-2) dX4_ifPass_19 (by decide) ?_
    refine V_iret hC hR dX4_ifPass_21 ⟨rfl, rfl, _, rfl, ?_⟩
    first | exact ⟨(mIf_t hT).symm, hS, fun q hq => rfl⟩ | exact ⟨(mIf_no hT hw).symm, hS, fun q hq => rfl⟩
theorem inX0_X4_goodWithGuess : ∀ w ∈ wsX00, w ∈ wsX4_goodWithGuess := by decide +kernel
theorem inX1_X4_goodWithGuess : ∀ w ∈ wsX10, w ∈ wsX4_goodWithGuess := by decide +kernel
theorem inX4_X4_goodWithGuess : ∀ w ∈ wsX40, w ∈ wsX4_goodWithGuess := by decide +kernel
abbrev rmX4_goodWithGuess : Room := { frames := 4, cells := 0, slots := 0, locals := 107 }
set_option maxHeartbeats 4000000 in
set_option maxRecDepth 100000 in
theorem c_X4_goodWithGuess (g : GE) (lau : Launch) {N : Nat} {ad : Nat → Nat} {f : Nat → va_E} {o : Nat} (hN : o + 183 ≤ N) {S : ST} (hS : CAt g ad o S f) {k n : Nat} (hn : n ≤ 99) (hok : TicksOK n (withH S.1 2 (nI k))) (hmk : MarkOK (withH S.1 2 (nI k))) : Ct g lau yX4_goodWithGuess wsX4_goodWithGuess rmX4_goodWithGuess N ad [.ref (ad o), .int (nI k), .int (nI n)] f (pI N ad (fun x u => x = brg n 11 (withH S.1 2 (nI k)) ∧ CAt g ad o S u ∧ ∀ q, q < o ∨ o + 183 ≤ q → u q = f q)) 0 0 := by
  refine Ct.of (maxL := 3) rfl (by decide +kernel) [some (.ref (ad o)), some (.int (nI k)), some (.int (nI n))] (Nat.le_of_ble_eq_true rfl) (by simp [lvo, lv_args, Value.category]) (fun E hnl _ hC hR => ?_)
  obtain ⟨m1, s, t, p, bc, co, ex, rc, pl, pn, wy, gx, hB, hm1⟩ := id hS.1.2.1
  obtain ⟨s2, t2, p2, bc2, co2, ex2, rc2, pl2, pn2, wy2, gx2, hB2, hm⟩ := id hS.2.1
  refine V_aload_n hC dX4_goodWithGuess_0 rfl rfl ?_
  refine V_get hC 1 dX4_goodWithGuess_1 (by omega) hS.1.1 rfl (by decide) inX4_X4_goodWithGuess (by decide +kernel) rfl ?_
  refine V_aload_n hC dX4_goodWithGuess_4 rfl rfl ?_
  refine V_get hC 0 dX4_goodWithGuess_5 (by omega) hS.1.1 rfl (by decide) inX4_X4_goodWithGuess (by decide +kernel) rfl ?_
  refine V_f hB.self ?_
  refine V_cvV (n := 1) hC (c_X0_copyFrom g (eL E) (f := f) (c := o + 17) (by omega) hm1 (c2 := o + 1) (by omega) (by omega) hB2 hm) dX4_goodWithGuess_8 gX4_goodWithGuess_X0_copyFrom rfl rfl rfl ⟨rfl, rfl⟩ (by decide +kernel) (by decide +kernel) (by omega) zB_0 rfl (Nat.le_of_ble_eq_true rfl) (by decide) (fun u8 h8 => ?_)
  obtain hu := h8
  obtain ⟨b1, b2⟩ := BIs.at h8
  have eo := (b2 o (by omega)).trans hS.1.1
  obtain ⟨s3, t3, p3, bc3, co3, ex3, rc3, pl3, pn3, wy3, gx3, hB3, hm3⟩ := id b1
  refine V_aload_n hC dX4_goodWithGuess_11 rfl rfl ?_
  refine V_get hC 1 dX4_goodWithGuess_12 (by omega) eo rfl (by decide) inX4_X4_goodWithGuess (by decide +kernel) rfl ?_
  refine V_f hB3.self ?_
  have eo3 : (zB g ad u8 (o + 17) (upd s3 2 (nI k)) t3 p3 bc3 co3 ex3 rc3 pl3 pn3 wy3 gx3) o = _ := (zB_out (by omega)).trans eo
  have hm5 : RepB (upd s3 2 (nI k)) t3 p3 bc3 co3 ex3 rc3 pl3 pn3 wy3 gx3 (withH S.1 2 (nI k)) := ⟨hm3.1.s (k := 2) (by decide), hm3.2.1, hm3.2.2.1, hm3.2.2.2⟩
  refine V_B_settings hC (show o + 17 + 16 ≤ N by omega) dX4_goodWithGuess_15 inX0_X4_goodWithGuess (by decide +kernel) ?_
  refine V_iconst hC 2 dX4_goodWithGuess_18 (by decide) ?_
  refine V_iload_n hC dX4_goodWithGuess_19 rfl rfl ?_
  refine V_B_st1 hC (show o + 17 + 16 ≤ N by omega) dX4_goodWithGuess_20 (ix_c (k := 2) (by decide)) ?_
  refine V_aload_n hC dX4_goodWithGuess_21 rfl rfl ?_
  refine V_get hC 1 dX4_goodWithGuess_22 (by omega) eo3 rfl (by decide) inX4_X4_goodWithGuess (by decide +kernel) rfl ?_
  refine V_iload_n hC dX4_goodWithGuess_25 rfl rfl ?_
  refine V_cvV (n := 1) hC (c_X0_tickOn g (eL E) (f := u8) (c := o + 17) (by omega) (n := n) (by omega) hm5 hok hmk) dX4_goodWithGuess_26 gX4_goodWithGuess_X0_tickOn rfl rfl rfl ⟨rfl, rfl⟩ (by decide +kernel) (by decide +kernel) (by omega) zB_0 rfl (Nat.le_of_ble_eq_true rfl) (by decide) (fun u26 h26 => ?_)
  obtain hu := h26
  obtain ⟨d1, d2⟩ := BIs.at h26
  have eo2 := (d2 o (by omega)).trans eo
  obtain ⟨s4, t4, p4, bc4, co4, ex4, rc4, pl4, pn4, wy4, gx4, hB4, hm4⟩ := id d1
  have kp : ∀ q, q < o + 17 ∨ o + 33 ≤ q → u26 q = f q := fun q hq => (d2 q (by omega)).trans (b2 q (by omega))
  have hB5 := hB2.keep (v := u26) fun q a b => kp q (by omega)
  refine V_aload_n hC dX4_goodWithGuess_29 rfl rfl ?_
  refine V_get hC 1 dX4_goodWithGuess_30 (by omega) eo2 rfl (by decide) inX4_X4_goodWithGuess (by decide +kernel) rfl ?_
  refine V_iconst hC 3 dX4_goodWithGuess_33 (by decide) ?_
  refine V_eqt (nI 3) rfl ?_
  refine V_f hB4.self ?_
  refine V_cvI (n := 1) hC (c_X0_number g (eL E) (f := u26) (c := (o + 17)) (by omega) hm4 (k := 3) (by omega)) dX4_goodWithGuess_34 gX4_goodWithGuess_X0_number rfl rfl rfl ⟨rfl, rfl⟩ (by decide +kernel) (by decide +kernel) (by omega) zB_0 rfl (Nat.le_of_ble_eq_true rfl) (by decide) (fun x34 u34 h34 => ?_)
  obtain ⟨rfl, rfl⟩ := h34
  refine V_f hB4.self.symm ?_
  refine V_aload_n hC dX4_goodWithGuess_37 rfl rfl ?_
  refine V_get hC 0 dX4_goodWithGuess_38 (by omega) eo2 rfl (by decide) inX4_X4_goodWithGuess (by decide +kernel) rfl ?_
  refine V_iconst hC 3 dX4_goodWithGuess_41 (by decide) ?_
  refine V_eqt (nI 3) rfl ?_
  refine V_f hB5.self ?_
  refine V_cvI (n := 1) hC (c_X0_number g (eL E) (f := u26) (c := (o + 1)) (by omega) hm (k := 3) (by omega)) dX4_goodWithGuess_42 gX4_goodWithGuess_X0_number rfl rfl rfl ⟨rfl, rfl⟩ (by decide +kernel) (by decide +kernel) (by omega) zB_0 rfl (Nat.le_of_ble_eq_true rfl) (by decide) (fun x42 u42 h42 => ?_)
  obtain ⟨rfl, rfl⟩ := h42
  refine V_f hB5.self.symm ?_
  refine V_isub hC dX4_goodWithGuess_45 ?_
  refine V_iret hC hR dX4_goodWithGuess_46 ⟨rfl, rfl, _, rfl, ?_⟩
  exact ⟨rfl, hS.try d1 kp, fun q hq => kp q (by omega)⟩
end
section
theorem bestN_s (n : Nat) (m : MT) (k : Nat) : bestN n m (k + 1) = if (bestN n m k).2 < brg n 11 (withH m 2 (nI k)) then (nI k, brg n 11 (withH m 2 (nI k))) else bestN n m k := rfl
theorem mBest_t {v w : Int32} {m : MT} (h : okT v = false) : mBest v w m = -2 := by rw [mBest, h]; rfl
theorem mBest_0 {n : Nat} {m : MT} (hn : n ≤ 99) (h : okT (nI n) = true) : mBest (nI n) 0 m = (bestN n m 6).1 := by
  rw [mBest, h, nI_clamp (by omega)]
  rfl
theorem mBest_1 {n : Nat} {m : MT} (hn : n ≤ 99) (h : okT (nI n) = true) : mBest (nI n) 1 m = (bestN n m 6).2 := by
  rw [mBest, h, nI_clamp (by omega)]
  rfl
theorem inX0_X4_bestGuess : ∀ w ∈ wsX00, w ∈ wsX4_bestGuess := by decide +kernel
theorem inX1_X4_bestGuess : ∀ w ∈ wsX10, w ∈ wsX4_bestGuess := by decide +kernel
theorem inX4_X4_bestGuess : ∀ w ∈ wsX40, w ∈ wsX4_bestGuess := by decide +kernel
abbrev rmX4_bestGuess : Room := { frames := 5, cells := 0, slots := 0, locals := 129 }
set_option maxHeartbeats 4000000 in
set_option maxRecDepth 100000 in
theorem c_X4_bestGuess (g : GE) (lau : Launch) {N : Nat} {ad : Nat → Nat} {f : Nat → va_E} {o : Nat} (hN : o + 183 ≤ N) {S : ST} (hS : CAt g ad o S f) (v w : Int32) (hok : AllOK S.1) (hmk : MarkOK S.1) : Ct g lau yX4_bestGuess wsX4_bestGuess rmX4_bestGuess N ad [.ref (ad o), .int (v), .int (w)] f (pI N ad (fun x u => x = mBest v w S.1 ∧ CAt g ad o S u ∧ ∀ q, q < o ∨ o + 183 ≤ q → u q = f q)) 0 0 := by
  refine Ct.of (maxL := 7) rfl (by decide +kernel) [some (.ref (ad o)), some (.int (v)), some (.int (w)), none, none, none, none] (Nat.le_of_ble_eq_true rfl) (by simp [lvo, lv_args, Value.category]) (fun E hnl _ hC hR => ?_)
  obtain ⟨f0, hf0⟩ : ∃ z, z = f := ⟨_, rfl⟩
  have loop : okT v = true → (w = 0 ∨ w = 1) → ∀ n : Nat, n ≤ 99 → v = nI n → ∀ (j k : Nat) (f : Nat → va_E) (w6 : Option Value), k + j = 6 → CAt g ad o S f → (∀ q, q < o ∨ o + 183 ≤ q → f q = f0 q) → V E g N ad 0 0 f 27 [some (.ref (ad o)), some (.int (v)), some (.int (w)), some (.int ((bestN n S.1 k).1)), some (.int ((bestN n S.1 k).2)), some (.int (nI k)), w6] [] := by
    rintro hT hw n hn rfl j
    induction j with
    | zero =>
      intro k f w6 hk hS he
      have hk : k = 6 := by omega
      subst hk
      refine V_iload hC dX4_bestGuess_27 rfl ?_
      refine V_iconst hC 5 dX4_bestGuess_29 (by decide) ?_
      refine V_icmp_gt_t hC 62 dX4_bestGuess_30 (by decide) (by decide) ?_
      refine V_iload_n hC dX4_bestGuess_62 rfl rfl ?_
      refine V_if_ne hC 70 dX4_bestGuess_63 (by decide) (fun c63 => ?_) (fun c63 => ?_)
      · refine V_iload hC dX4_bestGuess_70 rfl ?_
        refine V_iret hC hR dX4_bestGuess_72 ⟨rfl, rfl, _, rfl, ?_⟩
        first | (rcases hw with rfl | rfl; exact absurd rfl c63; exact ⟨(mBest_1 hn hT).symm, hS, hf0 ▸ he⟩) | (subst c63; exact ⟨(mBest_0 hn hT).symm, hS, hf0 ▸ he⟩)
      · refine V_iload_n hC dX4_bestGuess_66 rfl rfl ?_
        refine V_goto hC 72 dX4_bestGuess_67 (by decide) ?_
        refine V_iret hC hR dX4_bestGuess_72 ⟨rfl, rfl, _, rfl, ?_⟩
        first | (rcases hw with rfl | rfl; exact absurd rfl c63; exact ⟨(mBest_1 hn hT).symm, hS, hf0 ▸ he⟩) | (subst c63; exact ⟨(mBest_0 hn hT).symm, hS, hf0 ▸ he⟩)
    | succ j ih =>
      intro k f w6 hk hS he
      refine V_iload hC dX4_bestGuess_27 rfl ?_
      refine V_iconst hC 5 dX4_bestGuess_29 (by decide) ?_
      refine V_icmp_gt_f (tgt := 62) hC dX4_bestGuess_30 (by decide) (by have : ¬ nI 5 < nI k := fun q => absurd ((nI_ltI (by decide) (by omega)).mp q) (by omega); exact this) ?_
      refine V_aload_n hC dX4_bestGuess_33 rfl rfl ?_
      refine V_iload hC dX4_bestGuess_34 rfl ?_
      refine V_iload_n hC dX4_bestGuess_36 rfl rfl ?_
      refine V_cvI (n := 2) hC (c_X4_goodWithGuess g (eL E) hN hS (k := k) hn ((hok n hn).2.1 k (by omega)) (hmk.put (by decide) (by decide))) dX4_bestGuess_37 gX4_bestGuess_X4_goodWithGuess rfl rfl rfl ⟨rfl, rfl⟩ (by decide +kernel) (by decide +kernel) (by omega) hS.1.1 rfl (Nat.le_of_ble_eq_true rfl) (by decide) (fun x37 u37 h37 => ?_)
      obtain ⟨rfl, hS2, he2⟩ := h37
      refine V_istore6 hC dX4_bestGuess_40 (by rw [hnl]; decide) rfl ?_
      refine V_iload hC dX4_bestGuess_42 rfl ?_
      refine V_iload hC dX4_bestGuess_44 rfl ?_
      refine V_icmp_le hC 56 dX4_bestGuess_46 (by decide) (fun c46 => ?_) (fun c46 => ?_)
      · have hb : bestN n S.1 (k + 1) = bestN n S.1 k := by rw [bestN_s, if_neg (Int32.not_lt.mpr c46)]
        refine V_iinc5 hC (nI (k + 1)) dX4_bestGuess_56 (nI_1 k) (by rw [hnl]; decide) rfl ?_
        refine V_goto hC 27 dX4_bestGuess_59 (by decide) ?_
        have q := ih (k + 1) u37 (some (.int (brg n 11 (withH S.1 2 (nI k))))) (by omega) hS2 fun q hq => (he2 q hq).trans (he q hq)
        rw [hb] at q
        exact q
      · have hb : bestN n S.1 (k + 1) = (nI k, brg n 11 (withH S.1 2 (nI k))) := by rw [bestN_s, if_pos (Int32.not_le.mp c46)]
        refine V_iload hC dX4_bestGuess_49 rfl ?_
        refine V_istore_n3 hC dX4_bestGuess_51 rfl (by rw [hnl]; decide) rfl ?_
        refine V_iload hC dX4_bestGuess_52 rfl ?_
        refine V_istore4 hC dX4_bestGuess_54 (by rw [hnl]; decide) rfl ?_
        refine V_iinc5 hC (nI (k + 1)) dX4_bestGuess_56 (nI_1 k) (by rw [hnl]; decide) rfl ?_
        refine V_goto hC 27 dX4_bestGuess_59 (by decide) ?_
        have q := ih (k + 1) u37 (some (.int (brg n 11 (withH S.1 2 (nI k))))) (by omega) hS2 fun q hq => (he2 q hq).trans (he q hq)
        rw [hb] at q
        exact q
  refine V_iload_n hC dX4_bestGuess_0 rfl rfl ?_
  refine V_csI (n := 1) hC (c_X4_canTry g (eL E) v) dX4_bestGuess_1 gX4_bestGuess_X4_canTry rfl rfl rfl ⟨rfl, rfl⟩ (by decide +kernel) (by decide +kernel) (Nat.le_of_ble_eq_true rfl) (by decide) (fun x1 u1 h1 => ?_)
  rcases h1 with ⟨rfl, hT, he⟩ | ⟨rfl, hT, he⟩
  · obtain rfl := he.symm
    obtain ⟨n, hn, hv⟩ := okT_n hT
    refine V_if_eq_f (tgt := 16) hC dX4_bestGuess_4 (by decide) (by decide) ?_
    refine V_iload_n hC dX4_bestGuess_7 rfl rfl ?_
    refine V_if_lt hC 16 dX4_bestGuess_8 (by decide) (fun c8 => ?_) (fun c8 => ?_)
    · have hw : ¬ ((0 : Int32) ≤ w ∧ w ≤ 1) := fun q => absurd q.1 (Int32.not_le.mpr c8)
      refine V_bipush hC (-2) dX4_bestGuess_16 (by decide) ?_
      refine V_iret hC hR dX4_bestGuess_18 ⟨rfl, rfl, _, rfl, ?_⟩
      first | exact ⟨(mBest_t hT).symm, hS, fun q hq => rfl⟩ | exact ⟨(mBest_no hT hw).symm, hS, fun q hq => rfl⟩
    · have hw0 : 0 ≤ w := Int32.not_lt.mp c8
      refine V_iload_n hC dX4_bestGuess_11 rfl rfl ?_
      refine V_iconst hC 1 dX4_bestGuess_12 (by decide) ?_
      refine V_icmp_le hC 19 dX4_bestGuess_13 (by decide) (fun c13 => ?_) (fun c13 => ?_)
      · have hw : w = 0 ∨ w = 1 := by
          obtain ⟨j, hj, rfl⟩ := slot_n ⟨hw0, c13⟩
          rcases (show j = 0 ∨ j = 1 by omega) with rfl | rfl
          · exact Or.inl rfl
          · exact Or.inr rfl
        refine V_iconst hC 0 dX4_bestGuess_19 (by decide) ?_
        refine V_istore_n3 hC dX4_bestGuess_20 rfl (by rw [hnl]; decide) rfl ?_
        refine V_iconst hC (-1) dX4_bestGuess_21 (by decide) ?_
        refine V_istore4 hC dX4_bestGuess_22 (by rw [hnl]; decide) rfl ?_
        refine V_iconst hC 0 dX4_bestGuess_24 (by decide) ?_
        refine V_istore5 hC dX4_bestGuess_25 (by rw [hnl]; decide) rfl ?_
        exact loop hT hw n hn hv 6 0 f _ (by omega) hS fun q _ => (congrFun hf0 q).symm
      · have hw : ¬ ((0 : Int32) ≤ w ∧ w ≤ 1) := fun q => absurd q.2 c13
        refine V_bipush hC (-2) dX4_bestGuess_16 (by decide) ?_
        refine V_iret hC hR dX4_bestGuess_18 ⟨rfl, rfl, _, rfl, ?_⟩
        first | exact ⟨(mBest_t hT).symm, hS, fun q hq => rfl⟩ | exact ⟨(mBest_no hT hw).symm, hS, fun q hq => rfl⟩
  · obtain rfl := he.symm
    refine V_if_eq_t hC 16 dX4_bestGuess_4 (by decide) rfl ?_
    refine V_bipush hC (-2) dX4_bestGuess_16 (by decide) ?_
    refine V_iret hC hR dX4_bestGuess_18 ⟨rfl, rfl, _, rfl, ?_⟩
    first | exact ⟨(mBest_t hT).symm, hS, fun q hq => rfl⟩ | exact ⟨(mBest_no hT hw).symm, hS, fun q hq => rfl⟩
/-- a slack of k lets a plan starve -/
def starves (n : Nat) (m : MT) (k : Nat) : Prop := m.1 17 < (mTicks n (withH m 18 (nI k))).1 17
def NeedOK (m : MT) : Prop := ∀ n, n ≤ 99 → (∀ k, k ≤ 60 → (starves n m k ↔ ¬ brg n 17 (withH m 18 (nI k)) = 0)) ∧ ∀ k l, k ≤ l → l ≤ 60 → starves n m l → starves n m k
def nInv (n : Nat) (m : MT) (t D : Nat) : Prop := (∀ k, k < t → k ≤ 60 ∧ starves n m k) ∧ ∀ k, k ≤ 60 → t + D ≤ k + 1 → ¬ starves n m k
theorem nInv.le {n : Nat} {m : MT} {t D : Nat} (h : nInv n m t D) : t ≤ 61 := by
  rcases Nat.lt_or_ge 61 t with q | q
  · have := (h.1 61 q).1; omega
  · exact q
theorem nInv.yes {n : Nat} {m : MT} {t s : Nat} (h : nInv n m t (2 * s)) (hs : 0 < s) (hm : ∀ k l, k ≤ l → l ≤ 60 → starves n m l → starves n m k) (h1 : t + s - 1 ≤ 60) (h2 : starves n m (t + s - 1)) : nInv n m (t + s) s :=
  ⟨fun k hk => ⟨by omega, hm k (t + s - 1) (by omega) h1 h2⟩, fun k h3 h4 => h.2 k h3 (by omega)⟩
theorem nInv.no {n : Nat} {m : MT} {t s : Nat} (h : nInv n m t (2 * s)) (hm : ∀ k l, k ≤ l → l ≤ 60 → starves n m l → starves n m k) (h1 : ¬ (t + s - 1 ≤ 60 ∧ starves n m (t + s - 1))) : nInv n m t s :=
  ⟨h.1, fun k h3 h4 h5 => h1 ⟨by omega, hm _ k (by omega) h3 h5⟩⟩
theorem needN_t {n : Nat} {m : MT} {t : Nat} (h : nInv n m t 1) (hP : ∀ k, k ≤ 60 → (starves n m k ↔ ¬ brg n 17 (withH m 18 (nI k)) = 0)) : ∀ j, j ≤ 61 → 61 - j ≤ t → needN n m j = if t ≤ 60 then nI t else -6 := by
  intro j
  induction j with
  | zero =>
    intro _ h2
    rw [if_neg (by omega)]
    rfl
  | succ j ih =>
    intro h1 h2
    unfold needN
    by_cases h0 : brg n 17 (withH m 18 (nI (60 - j))) = 0
    · have hn : ¬ starves n m (60 - j) := fun q => (hP _ (by omega)).mp q h0
      have e : t = 60 - j := by
        rcases Nat.lt_or_ge (60 - j) t with q | q
        · exact absurd (h.1 _ q).2 hn
        · omega
      rw [if_pos h0, if_pos (by omega), e]
    · have hy : starves n m (60 - j) := (hP _ (by omega)).mpr h0
      have e : ¬ t ≤ 60 - j := fun q => h.2 (60 - j) (by omega) (by omega) hy
      rw [if_neg h0]
      exact ih (by omega) (by omega)
theorem pw_half : ∀ j : Fin 7, nI (2 ^ j.val) / 2 = nI (2 ^ j.val / 2) := by decide +kernel
theorem pw_b {j : Nat} (h : j ≤ 6) : 2 ^ j ≤ 64 ∧ 0 < 2 ^ j := by
  rcases (show j = 0 ∨ j = 1 ∨ j = 2 ∨ j = 3 ∨ j = 4 ∨ j = 5 ∨ j = 6 by omega) with rfl | rfl | rfl | rfl | rfl | rfl | rfl <;> decide
theorem pw_s (j : Nat) : 2 ^ (j + 1) / 2 = 2 ^ j := by rw [Nat.pow_succ, Nat.mul_div_cancel _ (by decide)]
end
section
theorem nar_cn {n : Nat} (h : n < 65536) : narrow .char (.int (nI n)) = .int (nI n) := by
  have e : ((nI n).toUInt32.toUInt16.toUInt32.toInt32) = nI n := by
    unfold nI
    apply Int32.toBitVec_inj.mp
    simp
    apply BitVec.eq_of_toNat_eq
    simp
    omega
  first | exact congrArg Value.int e | (simp only [narrow]; rw [e])
def dg (v : Int32) : Bool := decide (48 ≤ v) && decide (v ≤ 57)
/-- what is due behind a sign -/
def duF (d : Nat) (v : Int32) : Nat :=
  if d = 0 then (if v = 116 then 1 else if v = 98 ∨ v = 119 ∨ v = 115 then 3 else 6)
  else if d = 1 then (if 48 ≤ v ∧ v ≤ 55 then 2 else 6)
  else if d = 2 then (if v = 61 then 3 else 6)
  else if d = 3 then (if v = 48 then 5 else if dg v then 4 else 6)
  else if d = 4 then (if dg v then 5 else if v = 59 then 0 else 6)
  else if d = 5 then (if v = 59 then 0 else 6) else 6
theorem duF_le (d : Nat) (v : Int32) : duF d v ≤ 6 := by
  unfold duF
  repeat' (first | decide | split)
def autoF : Nat → Nat → List Int32 → Int32
  | d, i, [] => if d = 4 ∨ d = 5 then -6 else nI i
  | d, i, c :: t => if duF d c = 6 then nI i else autoF (duF d c) (i + 1) t
def numL : Int32 → List Int32 → Int32
  | acc, [] => acc
  | acc, c :: t => if dg c then numL (10 * acc + (c - 48)) t else acc
def sgn (p : List Int32) (i : Nat) : Int32 := p.getD i 59
/-- at z, z+1 of the world u is a pad with the text p -/
def PAt (g : GE) (ad : Nat → Nat) (z : Nat) (p : List Int32) (u : Nat → va_E) : Prop := ∃ sg : Nat → Int32, u z = .inr (3, [.ref (ad (z + 1)), .int (nI p.length)]) ∧ u (z + 1) = .inl (g.2.1 1, 60, .inl sg) ∧ rPad sg (nI p.length) p
def padOK (p : List Int32) : Prop := ∀ c ∈ p, 0 ≤ c.toInt ∧ c.toInt < 65536
theorem nar_c {c : Int32} (h : 0 ≤ c.toInt ∧ c.toInt < 65536) : narrow .char (.int c) = .int c := by
  obtain ⟨n, hn⟩ := Int.eq_ofNat_of_zero_le h.1
  have e := nI_of_int hn (by omega)
  subst e
  exact nar_cn (by omega)
end
section
section
variable {E : EV} {g : GE} {N : Nat} {ad : Nat → Nat} {ce sl : Nat} {f : Nat → va_E} {pc : Nat} {lo : List (Option Value)} {st : List Value} {cc : ByteArray} {Ts : List Cond} {own : String} {rm : Room}
theorem cls_eq {U : State} {cA cB : ClassId} {ty : FieldType} (h1 : va_RA U cA ty) (h2 : va_RA U cB ty) : cA = cB := by
  cases ty with
  | object C =>
    obtain ⟨_, _, _, _, _, a⟩ := h1
    obtain ⟨_, _, _, _, _, b⟩ := h2
    exact Option.some.inj (a.symm.trans b)
  | _ => exact Option.some.inj ((show U.vm.findClass _ = some cA from h1).symm.trans (show U.vm.findClass _ = some cB from h2))
theorem V_objInit (hC : CX E g cc Ts own rm) {i index : Nat} (hd : decode cc pc = .ok (.invokespecial index, 3)) (hw1 : Cond.methodLink own index objectInit ∈ Ts) (hw2 : Cond.instanceMethod objectInit ∈ Ts) (hw3 : Cond.code objectInit ⟨#[0xb1]⟩ 1 none ∈ Ts) (hR : 1 ≤ rm.frames) (hR2 : (st.map fun v => v.category).sum + 12 ≤ rm.locals) (kk : V E g N ad ce sl f (pc + 3) lo st) : V E g N ad ce sl f pc lo (.ref (ad i) :: st) := by
  intro H locs ls hP hD hS hl
  obtain ⟨c1, c2, c3, c4, c5, c6, c7, c8, c9, c10⟩ := hC
  refine W.objInit c1 c2 c4 (c5 _ hw1) (c5 _ hw2) (c5 _ hw3) (g := F0 (eM E) pc ls (.ref (ad i) :: st)) rfl (by rw [c3]; exact hl.1) rfl hd (by rw [c10]; exact hR) (by rw [c10]; show 2 * 0 + _ + 12 ≤ _; omega) ?_
  exact W.eq (g2 := F0 (eM E) (pc + 3) ls st) rfl (kk H locs ls hP hD hS hl)
theorem V_new (hC : CX E g cc Ts own rm) {ci index Nf : Nat} {C : String} {T : u_T} {fs : List Value} (ty : Nat → FieldType) (hty : ∀ k, k < Nf → parseFieldDescriptor (T k).2.2.1 = some (ty k)) (hd : decode cc pc = .ok (.new index, 3)) (hin : ∀ w ∈ u_ws C T Nf, w ∈ Ts) (hw1 : Cond.classLink own index C ∈ Ts) (hw2 : Cond.instantiable C Nf ∈ Ts) (hw3 : Cond.initialized C ∈ Ts) (hc : vwCl[ci]? = some (C, T, Nf)) (hfs : ∀ j, j < Nf → defaultValue (ty j) = vp_V fs j) (h1 : ce + 1 ≤ rm.cells) (h2 : sl + Nf ≤ rm.slots)
    (kk : ∀ ad2 : Nat → Nat, (∀ i, i < N → ad2 i = ad i) → V E g (N + 1) ad2 (ce + 1) (sl + Nf) (va_up f N (.inr (ci, fs))) (pc + 3) lo (.ref (ad2 N) :: st)) : V E g N ad ce sl f pc lo st := by
  intro H locs ls hP hD hS hl
  obtain ⟨c1, c2, c3, c4, c5, c6, c7, c8, c9, c10⟩ := hC
  refine va_new c1 c2 c5 hin ty hty c4 (c5 _ hw1) (c5 _ hw2) (c5 _ hw3) c6 hP hD hS (fun q h => Nat.le_trans c7 h) hc hfs (by rw [c10]; exact h1) (by rw [c10]; exact h2) hd (fun q H1 hP1 hD1 hS1 => ?_)
  rw [wl_push] at hP1 hD1
  have w := kk (va_up ad N q) (fun i hi => va_up_ne _ _ (by omega)) H1 locs ls hP1 hD1 hS1 hl
  rw [va_up_self] at w
  exact w
theorem V_newa (hC : CX E g cc Ts own rm) {t0 n : Nat} {v : Int32} {atype : ArrayType} {ty : FieldType} {cA : ClassId} {a0 : vp_A} (hd : decode cc pc = .ok (.newarray atype, 2)) (hty : newarray.typeOf atype = ty) (hw : Cond.arrayClass (newarray.typeOf atype) ∈ Ts) (ht : (gT g)[t0]? = some (cA, ty)) (ha : ∀ cA : ClassId, vp_cell cA a0 = arrV cA n (fun _ => defaultValue ty)) (hn : ¬ v < 0) (hN : v.toNatClampNeg = n) (hb : n * componentBytes ty ≤ 536870912) (h1 : ce + 1 ≤ rm.cells) (h2 : sl + n ≤ rm.slots)
    (kk : ∀ ad2 : Nat → Nat, (∀ i, i < N → ad2 i = ad i) → V E g (N + 1) ad2 (ce + 1) (sl + n) (va_up f N (.inl (cA, a0))) (pc + 2) lo (.ref (ad2 N) :: st)) : V E g N ad ce sl f pc lo (.int v :: st) := by
  intro H locs ls hP hD hS hl
  obtain ⟨c1, c2, c3, c4, c5, c6, c7, c8, c9, c10⟩ := hC
  refine va_newa c1 c2 (c5 _ hw) hty c6 hP hD hS (fun q h => Nat.le_trans c7 h) ha hn hN hb (by rw [c10]; exact h1) (by rw [c10]; exact h2) hd (fun q cB H1 hK1 hP1 hD1 hS1 => ?_)
  have e : cB = cA := cls_eq (hK1.2 (gT g).length (cB, ty) (by simp)).2 (c6.2 t0 (cA, ty) ht).2
  subst e
  rw [wl_push] at hP1 hD1
  have w := kk (va_up ad N q) (fun i hi => va_up_ne _ _ (by omega)) H1 locs ls hP1 hD1 hS1 hl
  rw [va_up_self] at w
  exact w
theorem V_newq (hC : CX E g cc Ts own rm) {t0 n index : Nat} {v : Int32} {C : String} {cA : ClassId} (hd : decode cc pc = .ok (.anewarray index, 3)) (hw : Cond.classLink own index C ∈ Ts) (ht : (gT g)[t0]? = some (cA, .object C)) (hao : va_AO C (eS E)) (hn : ¬ v < 0) (hN : v.toNatClampNeg = n) (hb : n * 4 ≤ 536870912) (h1 : ce + 1 ≤ rm.cells) (h2 : sl + n ≤ rm.slots)
    (kk : ∀ ad2 : Nat → Nat, (∀ i, i < N → ad2 i = ad i) → V E g (N + 1) ad2 (ce + 1) (sl + n) (va_up f N (.inl (cA, n, .inr (.inr (.inr (.inr (fun _ => none))))))) (pc + 3) lo (.ref (ad2 N) :: st)) : V E g N ad ce sl f pc lo (.int v :: st) := by
  intro H locs ls hP hD hS hl
  obtain ⟨c1, c2, c3, c4, c5, c6, c7, c8, c9, c10⟩ := hC
  refine va_newq c1 c2 c4 (c5 _ hw) hao c6 hP hD hS (fun q h => Nat.le_trans c7 h) hn hN hb (by rw [c10]; exact h1) (by rw [c10]; exact h2) hd (fun q cB H1 hK1 hP1 hD1 hS1 => ?_)
  have e : cB = cA := cls_eq (hK1.2 (gT g).length (cB, .object C) (by simp)).2 (c6.2 t0 (cA, .object C) ht).2
  subst e
  rw [wl_push] at hP1 hD1
  have w := kk (va_up ad N q) (fun i hi => va_up_ne _ _ (by omega)) H1 locs ls hP1 hD1 hS1 hl
  rw [va_up_self] at w
  exact w
theorem V_castI (hC : CX E g cc Ts own rm) {i index : Nat} {x : vp_A} (hd : decode cc pc = .ok (.checkcast index, 3)) (hw : Cond.classLink own index "[I" ∈ Ts) (hi : i < N) (hf : f i = .inl (g.2.1 0, x)) (kk : V E g N ad ce sl f (pc + 3) lo (.ref (ad i) :: st)) : V E g N ad ce sl f pc lo (.ref (ad i) :: st) := by
  intro H locs ls hP hD hS hl
  obtain ⟨c1, c2, c3, c4, c5, c6, c7, c8, c9, c10⟩ := hC
  exact va_castA c1 c2 c4 (c5 _ hw) hP i (by rw [wl_get hi, hf]) (c6.2 0 _ rfl).2 hd (kk H locs ls hP hD hS hl)
/-- an array holds what stands below its length -/
theorem V_arr {i : Nat} {cA : ClassId} {x y : vp_A} (hi : i < N) (hf : f i = .inl (cA, x)) (he : vp_cell cA x = vp_cell cA y) (kk : V E g N ad ce sl (va_up f i (.inl (cA, y))) pc lo st) : V E g N ad ce sl f pc lo st := by
  intro H locs ls hP hD hS hl
  refine kk H locs ls ?_ ?_ hS hl
  · rw [← wl_set hi]
    intro k q hk
    rw [List.getElem?_set] at hk
    split at hk
    · rename_i hik
      subst hik
      split at hk
      · cases hk
        have w := hP i _ (wl_get hi)
        rw [hf] at w
        show H[ad i]? = some (vp_cell cA y)
        rw [← he]
        exact w
      · cases hk
    · exact hP k q hk
  · rw [← wl_set hi]
    have key : ∀ (k : Nat) (q : Nat × va_E), ((wl N ad f).set i (ad i, .inl (cA, y)))[k]? = some q → ∃ e, (wl N ad f)[k]? = some (q.1, e) := by
      intro k q hk
      rw [List.getElem?_set] at hk
      split at hk
      · rename_i hik
        subst hik
        split at hk
        · cases hk
          exact ⟨_, wl_get hi⟩
        · cases hk
      · exact ⟨q.2, hk⟩
    refine ⟨fun a b p q ha hb e => ?_, fun k q hk => ?_⟩
    · obtain ⟨e1, h1⟩ := key a p ha
      obtain ⟨e2, h2⟩ := key b q hb
      exact hD.1 a b _ _ h1 h2 e
    · obtain ⟨e1, h1⟩ := key k q hk
      exact hD.2 k (q.1, e1) h1
def pC (N : Nat) (ad : Nat → Nat) (P : Nat → (Nat → Nat) → (Nat → va_E) → Prop) : Option Value → Nat → (Nat → Nat) → (Nat → va_E) → Prop := fun r N' ad' u => r = none ∧ (∀ i, i < N → ad' i = ad i) ∧ P N' ad' u
theorem V_ci (hC : CX E g cc Ts own rm) {y : MethodName} {ws ws' : List Cond} {rm2 : Room} {mc ms i index maxL : Nat} {rest : List Value} {bytes : ByteArray} {P : Nat → (Nat → Nat) → (Nat → va_E) → Prop}
    (hM : Ct g (eL E) y ws rm2 N ad [.ref (ad i)] f (pC N ad P) mc ms) (hd : decode cc pc = .ok (.invokespecial index, 3)) (hG : GoodIn Ts ws) (hw1 : Cond.initialized y.cls ∈ Ts) (hw2 : Cond.methodLink own index y ∈ Ts) (hw3 : Cond.instanceMethod y ∈ Ts) (hst : st = .ref (ad i) :: rest) (hy1 : y.name = "<init>") (hw : ws = Cond.code y bytes maxL none :: ws') (hrc : rm2.cells = mc ∧ rm2.slots = ms) (hd2 : y.cls ≠ "java/lang/invoke/MethodHandle" ∧ y.cls ≠ "java/lang/invoke/VarHandle" ∧ (parseMethodDescriptor y.desc).map (fun d => d.parameters.length) = some 0)
    (hR : rm2.frames + 1 ≤ rm.frames ∧ 8 + (maxL + 11) + rm2.locals ≤ rm.locals) (hcat : (rest.map fun v => v.category).sum ≤ 8) (hf2 : ce + mc ≤ rm.cells ∧ sl + ms ≤ rm.slots) (kk : ∀ (N' : Nat) (ad' : Nat → Nat) (u : Nat → va_E), (∀ i, i < N → ad' i = ad i) → P N' ad' u → V E g N' ad' (ce + mc) (sl + ms) u (pc + 3) lo rest) : V E g N ad ce sl f pc lo st := by
  have hC0 := hC
  obtain ⟨c1, c2, c3, c4, c5, c6, c7, c8, c9, c10⟩ := hC
  subst c10
  refine V_run (post := pC N ad P) (mc := mc) (ms := ms) (rest := rest) (a := #[Value.ref (ad i)]) hC0 (fun H locs ls hP hD hS hsz => ?_) (fun r N' ad' u h => ?_)
  · exact va_runI (As := []) (rest := rest) ⟨c1, c2, c3, c4, c5⟩ hM (cwI 0 c5 hG hw hrc.1 hrc.2 (c5 _ hw1) (c5 _ hw2) (c5 _ hw3) hy1 hd2 hR) ⟨WC.blind, fun U hU hW => ⟨rfl, WC.at hC0 hP hD hS hU hW⟩⟩ rfl rfl hsz (by rw [hst]; rfl) (lv_room hcat) hd hf2
  · obtain ⟨rfl, h1, h2⟩ := h
    exact kk N' ad' u h1 h2
theorem V_ciN (hC : CX E g cc Ts own rm) {y : MethodName} {host : String} {ws ws' : List Cond} {rm2 : Room} {mc ms i index maxL : Nat} {rest : List Value} {bytes : ByteArray} {P : Nat → (Nat → Nat) → (Nat → va_E) → Prop}
    (hM : Ct g (eL E) y ws rm2 N ad [.ref (ad i)] f (pC N ad P) mc ms) (hl : va_Nw (.methodLinkNest own index y host) (eS E)) (hd : decode cc pc = .ok (.invokespecial index, 3)) (hG : GoodIn Ts ws) (hw1 : Cond.initialized y.cls ∈ Ts) (hw3 : Cond.instanceMethod y ∈ Ts) (hst : st = .ref (ad i) :: rest) (hy1 : y.name = "<init>") (hw : ws = Cond.code y bytes maxL none :: ws') (hrc : rm2.cells = mc ∧ rm2.slots = ms) (hd2 : y.cls ≠ "java/lang/invoke/MethodHandle" ∧ y.cls ≠ "java/lang/invoke/VarHandle" ∧ (parseMethodDescriptor y.desc).map (fun d => d.parameters.length) = some 0)
    (hR : rm2.frames + 1 ≤ rm.frames ∧ 8 + (maxL + 11) + rm2.locals ≤ rm.locals) (hcat : (rest.map fun v => v.category).sum ≤ 8) (hf2 : ce + mc ≤ rm.cells ∧ sl + ms ≤ rm.slots) (kk : ∀ (N' : Nat) (ad' : Nat → Nat) (u : Nat → va_E), (∀ i, i < N → ad' i = ad i) → P N' ad' u → V E g N' ad' (ce + mc) (sl + ms) u (pc + 3) lo rest) : V E g N ad ce sl f pc lo st := by
  have hC0 := hC
  obtain ⟨c1, c2, c3, c4, c5, c6, c7, c8, c9, c10⟩ := hC
  subst c10
  refine V_run (post := pC N ad P) (mc := mc) (ms := ms) (rest := rest) (a := #[Value.ref (ad i)]) hC0 (fun H locs ls hP hD hS hsz => ?_) (fun r N' ad' u h => ?_)
  · exact va_runIN (As := []) (rest := rest) ⟨c1, c2, c3, c4, c5⟩ hM ⟨va_cnB 0 c5 hG hw hrc.1 hrc.2 hl (c5 _ hw1) hd2 hR, hy1, c5 _ hw3⟩ ⟨WC.blind, fun U hU hW => ⟨rfl, WC.at hC0 hP hD hS hU hW⟩⟩ rfl rfl hsz (by rw [hst]; rfl) (lv_room hcat) hd hf2
  · obtain ⟨rfl, h1, h2⟩ := h
    exact kk N' ad' u h1 h2
theorem fits_arr {cA : ClassId} {n : Nat} {a : Nat → Int32} {i : Nat} {v : Value} (h : (arrV cA n (fun j => .int (a j))).slots[i]? = some v) : fits .int v = true := by
  have hs : i < (arrV cA n (fun j => Value.int (a j))).slots.size := (Array.getElem?_eq_some_iff.mp h).1
  rw [arrV_size] at hs
  rw [arrV_read _ _ hs] at h
  cases h
  rfl
theorem V_clone (hC : CX E g cc Ts own rm) {index : Nat} (hd : decode cc pc = .ok (.invokevirtual index, 3)) (hw1 : Cond.methodLink own index ⟨"[I", "clone", "()Ljava/lang/Object;"⟩ ∈ Ts) (hw2 : Cond.sameMethod "[I" "java/lang/Object" "clone" "()Ljava/lang/Object;" ∈ Ts) (hw3 : Cond.native ⟨"java/lang/Object", "clone", "()Ljava/lang/Object;"⟩ ∈ Ts) (hw4 : Cond.instanceMethod ⟨"java/lang/Object", "clone", "()Ljava/lang/Object;"⟩ ∈ Ts) (hw5 : Cond.selects "[I" ⟨"[I", "clone", "()Ljava/lang/Object;"⟩ ⟨"java/lang/Object", "clone", "()Ljava/lang/Object;"⟩ ∈ Ts) (hR : 1 ≤ rm.frames) (hR2 : (st.map fun v => v.category).sum + 14 ≤ rm.locals) (h1 : ce + 1 ≤ rm.cells) (h2 : sl + 8 ≤ rm.slots)
    (kk : ∀ ad2 : Nat → Nat, (∀ i, i < N → ad2 i = ad i) → V E g (N + 1) ad2 (ce + 1) (sl + 8) (va_up f N (.inl (g.2.1 0, 8, .inl (lstA [3, 2, 2, 4, 6, 20, 1, 2])))) (pc + 3) lo (.ref (ad2 N) :: st)) : V E g N ad ce sl f pc lo (.ref (g.2.2.2 2) :: st) := by
  intro H locs ls hP hD hS hl
  obtain ⟨c1, c2, c3, c4, c5, c6, c7, c8, c9, c10⟩ := hC
  obtain ⟨cell, hcell, hstt, hunk, hce⟩ := c8.2.2.2.2
  obtain ⟨cell0, k1, k2, k3, k4, k5, k6, k7⟩ := c8.2.2.1.2
  have hlt : g.2.2.2 2 < (eS E).heap.size := (Array.getElem?_eq_some_iff.mp k1).1
  have hcH : H[g.2.2.2 2]? = some cell := by rw [hS.2.1 _ hlt k7]; exact hcell
  have hcl0 : cell.cls = g.2.1 0 := by
    have w := congrArg Cell.cls hce
    exact w
  have hsl0 : cell.slots = (vp_cell (g.2.1 0) (8, .inl (lstA [3, 2, 2, 4, 6, 20, 1, 2]))).slots := by
    have w := congrArg Cell.slots hce
    exact w
  have hsz : cell.slots.size = 8 := by rw [hsl0]; exact arrV_size _ _ _
  have hnm : (eS E).vm.findClass "[I" = some (g.2.1 0) := (c6.2 0 _ rfl).2
  obtain ⟨c0, t0', f1, f2, f3⟩ := Cond.castable_spec (va_Nw.use (A := eA E) rfl c9.2.2.1)
  have f0 : c0 = g.2.1 0 := Option.some.inj (f1.symm.trans hnm)
  rw [f0] at f3
  intro T hT X
  have hcellT : T.heap[g.2.2.2 2]? = some cell := by rw [hT]; exact hcH
  obtain ⟨-, kA, hkA, comp, hkind⟩ := State.isArrayOf_alike X.warmed.alike ((c6.2 0 _ rfl).1 0 (fun _ => .null))
  obtain ⟨-, kS, hkS, compS, hkindS⟩ := (c6.2 0 _ rfl).1 0 (fun _ => .null)
  obtain ⟨vm', X', st2⟩ := X.cloneArray c1 c4 (c5 _ hw1) (c5 _ hw2) (c5 _ hw3) (c5 _ hw4) (c5 _ hw5) (a := g.2.2.2 2) (cell := cell) hcellT (fun k h => by rw [h] at hstt; cases hstt) hunk (by rw [hcl0]; exact hnm) f2 (by rw [hcl0]; exact f3)
    (fun i v hv => by
      rw [hcl0]
      have hk' : T.vm.classes[g.2.1 0]? = some kA := hkA
      have hfit : fits .int v = true := by
        rw [hsl0, vp_cell_i] at hv
        exact fits_arr hv
      simpa [State.fitsSlot, State.slotType?, hk', hkind] using hfit)
    (g := F0 (eM E) pc ls (.ref (g.2.2.2 2) :: st)) rfl (c3.trans hl.1.symm).symm rfl (by rw [c2]; exact hd) (by rw [c10]; exact hR) (by rw [c10]; show 2 * 0 + _ + 14 ≤ _; omega) (by rw [c10]; exact h1) (by rw [hsz, c10]; exact h2) (hloader := by rw [hcl0]; exact Vm.clonesLoader_of_array hkS hkindS)
  rw [hce, hsz] at X'
  generalize hH1 : H.push (vp_cell (g.2.1 0) (8, .inl (lstA [3, 2, 2, 4, 6, 20, 1, 2]))) = H1
  have z1 : H1.size = H.size + 1 := by rw [← hH1, Array.size_push]
  have e1 : H1[H.size]? = some (vp_cell (g.2.1 0) (8, .inl (lstA [3, 2, 2, 4, 6, 20, 1, 2]))) := by rw [← hH1, Array.getElem?_push_size]
  have o1 : ∀ q : Nat, q < H.size → H1[q]? = H[q]? := fun q hq => by rw [← hH1, Array.getElem?_push, if_neg (Nat.ne_of_lt hq)]
  have hk : ∀ (k : Nat) (y : Nat × va_E), (wl N ad f)[k]? = some y → H1[y.1]? = H[y.1]? := fun k y hy => o1 y.1 ((hP k y hy).lt)
  have hP3 : va_P g.1 vwCl (wl N ad f ++ [(H.size, .inl (g.2.1 0, 8, .inl (lstA [3, 2, 2, 4, 6, 20, 1, 2])))]) H1 := (hP.kept hk).app (fun k y hy => by
    have hz : k < 1 := (List.getElem?_eq_some_iff.mp hy).1
    rw [show k = 0 by omega] at hy
    cases hy
    exact e1)
  have hD3 : va_D (gA g) (wl N ad f ++ [(H.size, .inl (g.2.1 0, 8, .inl (lstA [3, 2, 2, 4, 6, 20, 1, 2])))]) := hD.push hP rfl (Nat.le_trans c7 hS.1)
  have hS3 : va_S (gA g) (eS E).heap H1 locs := ⟨Nat.le_trans hS.1 (by omega), fun y h1 h2 => (o1 y (Nat.lt_of_lt_of_le h1 hS.1)).trans (hS.2.1 y h1 h2), hS.2.2⟩
  rw [wl_push] at hP3 hD3
  have w := kk (va_up ad N H.size) (fun i hi => va_up_ne _ _ (by omega)) H1 locs ls hP3 hD3 hS3 hl
  rw [va_up_self] at w
  obtain ⟨t, b1, b2⟩ := w ((T.setVm vm').pushCell (vp_cell (g.2.1 0) (8, .inl (lstA [3, 2, 2, 4, 6, 20, 1, 2])))) (by rw [← hH1, ← hT]; rfl) X'
  refine ⟨t, st2 t ?_, b2⟩
  rw [hce, hT]
  exact b1
end
end
section
abbrev rmX1_init : Room := { frames := 1, cells := 0, slots := 0, locals := 12 }
set_option maxHeartbeats 4000000 in
set_option maxRecDepth 100000 in
theorem c_X1_init (g : GE) (lau : Launch) {ad : Nat → Nat} {N : Nat} {f : Nat → va_E} {i : Nat} : Ct g lau yX1_init wsX1_init rmX1_init N ad [.ref (ad i)] f (pC N ad (fun N2 ad2 u => N2 = N ∧ ad2 = ad ∧ u = f)) 0 0 := by
  refine Ct.of (maxL := 1) rfl (by decide +kernel) [some (.ref (ad i))] (Nat.le_of_ble_eq_true rfl) (by simp [lvo, lv_args, Value.category]) (fun E hnl hin0 hC hR => ?_)
  refine V_aload_n hC dX1_init_0 rfl rfl ?_
  refine V_objInit hC dX1_init_1 (by decide +kernel) (by decide +kernel) (by decide +kernel) (by decide) (Nat.le_of_ble_eq_true rfl) ?_
  refine V_vret hC hR dX1_init_4 ?_
  exact ⟨rfl, fun _ _ => rfl, rfl, rfl, rfl⟩
theorem inX3_X3_init : ∀ w ∈ wsX30, w ∈ wsX3_init := by decide +kernel
abbrev rmX3_init : Room := { frames := 1, cells := 1, slots := 60, locals := 20 }
set_option maxHeartbeats 4000000 in
set_option maxRecDepth 100000 in
theorem c_X3_init (g : GE) (lau : Launch) {ad : Nat → Nat} {f : Nat → va_E} {z : Nat} (hf : f z = .inr (3, [.null, .int 0])) : Ct g lau yX3_init wsX3_init rmX3_init (z + 1) ad [.ref (ad z)] f (pC (z + 1) ad (fun N2 ad2 u => N2 = z + 2 ∧ u = va_up (va_up f (z + 1) (.inl (g.2.1 1, 60, .inl (fun _ => 0)))) z (.inr (3, [.ref (ad2 (z + 1)), .int 0])))) 1 60 := by
  refine Ct.of (maxL := 1) rfl (by decide +kernel) [some (.ref (ad z))] (Nat.le_of_ble_eq_true rfl) (by simp [lvo, lv_args, Value.category]) (fun E hnl hin0 hC hR => ?_)
  refine V_aload_n hC dX3_init_0 rfl rfl ?_
  refine V_objInit hC dX3_init_1 (by decide +kernel) (by decide +kernel) (by decide +kernel) (by decide) (Nat.le_of_ble_eq_true rfl) ?_
  refine V_aload_n hC dX3_init_4 rfl rfl ?_
  refine V_bipush hC 60 dX3_init_5 (by decide) ?_
  refine V_newa (t0 := 1) (atype := .char) (ty := .char) (a0 := (60, .inl (fun _ => 0))) hC dX3_init_7 rfl (by decide +kernel) rfl (fun _ => rfl) (by decide) rfl (Nat.le_of_ble_eq_true rfl) (by decide) (by decide) (fun ad7 had7 => ?_)
  rw [← had7 (z) (by omega)]
  refine V_putF hC hin0 0 dX3_init_9 (by omega) ((va_up_ne _ _ (by omega)).trans hf) rfl (by decide) inX3_X3_init (by decide +kernel) tyX3_ok nmX3 rfl rfl rfl rfl rfl (by simp) ?_
  refine V_vret hC hR dX3_init_12 ?_
  exact ⟨rfl, had7, rfl, rfl⟩
def h0M : Nat → Int32 := upd (upd (upd (upd (upd (upd (upd (upd (upd (fun _ => 0) 0 3) 1 2) 2 2) 3 4) 4 6) 5 20) 6 1) 7 2) 18 20
/-- an empty belt at the start -/
def M0 : MT := (h0M, [], [], [])
def S0 : ST := (M0, [], fun _ => none, [])
end
section
def zXi (f : Nat → va_E) (c k : Nat) : Nat → va_E := fun q => if c + 8 ≤ q ∧ q < c + 8 + k then boxE (fun _ => 0) else f q
def bsI (k : Nat) (ad : Nat → Nat) (c : Nat) : Nat → Option Nat := fun j => if j < k then some (ad (c + 8 + j)) else none
theorem zXi_0 {f : Nat → va_E} {c : Nat} : zXi f c 0 = f := by
  funext q
  unfold zXi
  rw [if_neg (by omega)]
theorem zXi_s {f : Nat → va_E} {c k : Nat} : va_up (zXi f c k) (c + 8 + k) (boxE (fun _ => 0)) = zXi f c (k + 1) := by
  funext q
  unfold va_up zXi
  by_cases h : q = c + 8 + k
  · rw [if_pos h, if_pos (by omega)]
  · rw [if_neg h]
    by_cases h2 : c + 8 ≤ q ∧ q < c + 8 + k
    · rw [if_pos h2, if_pos (by omega)]
    · rw [if_neg h2, if_neg (by omega)]
theorem bsI_0 {ad : Nat → Nat} {c : Nat} : bsI 0 ad c = fun _ => none := by
  funext j
  unfold bsI
  rw [if_neg (by omega)]
theorem bsI_s {ad : Nat → Nat} {c k : Nat} : va_up (bsI k ad c) k (some (ad (c + 8 + k))) = bsI (k + 1) ad c := by
  funext j
  unfold va_up bsI
  by_cases h : j = k
  · subst h
    rw [if_pos rfl, if_pos (by omega)]
  · rw [if_neg h]
    by_cases h2 : j < k
    · rw [if_pos h2, if_pos (by omega)]
    · rw [if_neg h2, if_neg (by omega)]
theorem bsI_ad {ad ad2 : Nat → Nat} {c k : Nat} (h : ∀ j, j < k → ad2 (c + 8 + j) = ad (c + 8 + j)) : bsI k ad2 c = bsI k ad c := by
  funext j
  unfold bsI
  split
  · rename_i hj
    rw [h j hj]
  · rfl
theorem zB0_ad {g : GE} {ad ad2 : Nat → Nat} {f : Nat → va_E} {c : Nat} {s t : Nat → Int32} {bs : Nat → Option Nat} {bc : Int32} {co ex : Nat → Int32} {rc : Int32} {pl : Nat → Int32} {pn : Int32} {wy : Nat → Int32} (h : ∀ j, j < 8 → ad2 (c + j) = ad (c + j)) : zB0 g ad2 f c s t bs bc co ex rc pl pn wy = zB0 g ad f c s t bs bc co ex rc pl pn wy := by
  unfold zB0
  rw [h 1 (by decide), h 2 (by decide), h 3 (by decide), h 4 (by decide), h 5 (by decide), h 6 (by decide), h 7 (by decide)]
theorem zB0_3 {g : GE} {ad : Nat → Nat} {f : Nat → va_E} {c : Nat} {s t : Nat → Int32} {bs bs2 : Nat → Option Nat} {bc : Int32} {co ex : Nat → Int32} {rc : Int32} {pl : Nat → Int32} {pn : Int32} {wy : Nat → Int32} : va_up (zB0 g ad f c s t bs bc co ex rc pl pn wy) (c + 3) (.inl (g.2.1 4, 8, .inr (.inr (.inr (.inr bs2))))) = zB0 g ad f c s t bs2 bc co ex rc pl pn wy := by
  funext q
  unfold va_up zB0
  by_cases h : q = c + 3
  · subst h; simp
  · simp [h]
theorem arrV_ext {cA : ClassId} {n : Nat} {f h : Nat → Value} (e : ∀ j, j < n → f j = h j) : arrV cA n f = arrV cA n h := by
  unfold arrV
  congr 1
  apply Array.ext
  · simp
  · intro i h1 h2
    simp at h1 h2 ⊢
    exact e i (by omega)
theorem cell_q {cA : ClassId} {n : Nat} {a b : Nat → Option Nat} (e : ∀ j, j < n → a j = b j) : vp_cell cA (n, .inr (.inr (.inr (.inr a)))) = vp_cell cA (n, .inr (.inr (.inr (.inr b)))) := by
  rw [vp_cell_q, vp_cell_q]
  exact arrV_ext fun j hj => by rw [e j hj]
theorem rep0 : RepB (lstA [3, 2, 2, 4, 6, 20, 1, 2]) (upd (fun _ => 0) 10 20) (fun i => i % 8) 0 (fun _ => 0) (fun _ => 0) 0 (fun _ => 0) 0 (fun _ => 0) (fun _ _ => 0) M0 := by
  refine ⟨⟨fun i hi => ?_, fun i h1 h2 h3 h4 => ?_, fun k hk => ?_⟩, ⟨rfl, by decide, fun j h => Nat.mod_lt _ (by decide), fun i j h1 h2 h => (by simp only at h; omega), fun j x hj => by simp [M0] at hj⟩, ⟨rfl, by decide, fun j r hj => by simp [M0] at hj⟩, rfl, by decide, fun j q hj => by simp [M0] at hj⟩
  · rcases (show i = 0 ∨ i = 1 ∨ i = 2 ∨ i = 3 ∨ i = 4 ∨ i = 5 ∨ i = 6 ∨ i = 7 by omega) with rfl | rfl | rfl | rfl | rfl | rfl | rfl | rfl <;> rfl
  · rcases (show i = 0 ∨ i = 2 ∨ i = 3 ∨ i = 4 ∨ i = 5 ∨ i = 6 ∨ i = 7 ∨ i = 8 ∨ i = 9 ∨ i = 10 ∨ i = 13 by omega) with rfl | rfl | rfl | rfl | rfl | rfl | rfl | rfl | rfl | rfl | rfl <;> rfl
  · rcases (show k = 0 ∨ k = 1 ∨ k = 2 ∨ k = 3 ∨ k = 4 by omega) with rfl | rfl | rfl | rfl | rfl <;> rfl
/-- a belt at the start -/
def B0 (g : GE) (ad : Nat → Nat) (c : Nat) (u : Nat → va_E) : Prop := hasB g ad u c (lstA [3, 2, 2, 4, 6, 20, 1, 2]) (upd (fun _ => 0) 10 20) (fun i => i % 8) 0 (fun _ => 0) (fun _ => 0) 0 (fun _ => 0) 0 (fun _ => 0) (fun _ _ => 0)
theorem B0.at {g : GE} {ad : Nat → Nat} {c : Nat} {u : Nat → va_E} (h : B0 g ad c u) : BAt g ad c M0 u := ⟨_, _, _, _, _, _, _, _, _, _, _, h, rep0⟩
theorem B0.go {g : GE} {ad ad2 : Nat → Nat} {c : Nat} {u v : Nat → va_E} (h : B0 g ad c u) (he : ∀ q, c ≤ q → q < c + 16 → ad2 q = ad q) (hv : ∀ q, c ≤ q → q < c + 16 → v q = u q) : B0 g ad2 c v := by
  have h := hasB.keep h hv
  obtain ⟨h1, h2, h3, h4, h5, h6, h7, h8, h9⟩ := h
  refine ⟨?_, h2, h3, ?_, h5, h6, h7, h8, h9⟩
  · rw [h1, he (c + 1) (by omega) (by omega), he (c + 2) (by omega) (by omega), he (c + 3) (by omega) (by omega), he (c + 4) (by omega) (by omega), he (c + 5) (by omega) (by omega), he (c + 6) (by omega) (by omega), he (c + 7) (by omega) (by omega)]
  · rw [h4]
    have e : (fun i => some (ad2 (c + 8 + i % 8))) = (fun i => some (ad (c + 8 + i % 8))) := by
      funext i
      have := Nat.mod_lt i (show 0 < 8 by decide)
      rw [he _ (by omega) (by omega)]
    rw [e]
theorem inX0_X0_init : ∀ w ∈ wsX00, w ∈ wsX0_init := by decide +kernel
theorem inX1_X0_init : ∀ w ∈ wsX10, w ∈ wsX0_init := by decide +kernel
abbrev rmX0_init : Room := { frames := 2, cells := 15, slots := 187, locals := 60 }
set_option maxHeartbeats 4000000 in
set_option maxRecDepth 100000 in
theorem c_X0_init (g : GE) (lau : Launch) {ad : Nat → Nat} {f : Nat → va_E} {c : Nat} (hf : f c = .inr (0, [.null, .null, .null, .int 0, .null, .null, .int 0, .null, .int 0, .null])) : Ct g lau yX0_init wsX0_init rmX0_init (c + 1) ad [.ref (ad c)] f (pC (c + 1) ad (fun N2 ad2 u => N2 = c + 16 ∧ B0 g ad2 c u ∧ ∀ q, q < c ∨ c + 16 ≤ q → u q = f q)) 15 187 := by
  refine Ct.of (maxL := 2) rfl (by decide +kernel) [some (.ref (ad c)), none] (Nat.le_of_ble_eq_true rfl) (by simp [lvo, lv_args, Value.category]) (fun E hnl hin0 hC hR => ?_)
  have loop : ∀ (j k : Nat) (ad2 : Nat → Nat), k + j = 8 → (∀ i, i < c + 1 → ad2 i = ad i) → V E g (c + 8 + k) ad2 (7 + k) (131 + 7 * k) (zB0 g ad2 (zXi f c (k)) c (lstA [3, 2, 2, 4, 6, 20, 1, 2]) (fun _ => 0) (bsI (k) ad2 c) 0 (fun _ => 0) (fun _ => 0) 0 (fun _ => 0) 0 (fun _ => 0)) 67 [some (.ref (ad2 c)), some (.int (nI k))] [] := by
    intro j
    induction j with
    | zero =>
      intro k ad2 hk had
      have hk : k = 8 := by omega
      subst hk
      refine V_iload_n hC dX0_init_67 rfl rfl ?_
      refine V_bipush hC 8 dX0_init_68 (by decide) ?_
      refine V_icmp_ge_t hC 92 dX0_init_70 (by decide) (by decide) ?_
      refine V_aload_n hC dX0_init_92 rfl rfl ?_
      refine V_get hC 1 dX0_init_93 (by omega) zB0_0 rfl (by decide) inX0_X0_init (by decide +kernel) rfl ?_
      refine V_bipush hC 10 dX0_init_96 (by decide) ?_
      refine V_bipush hC 20 dX0_init_98 (by decide) ?_
      refine V_iast hC dX0_init_100 (by omega) zB0_a2 (ix_c (k := 10) (by decide)) ?_
      refine V_f zB0_u2 ?_
      refine V_arr (i := c + 3) (y := (8, .inr (.inr (.inr (.inr (fun i => some (ad2 (c + 8 + i % 8)))))))) (by omega) zB0_a3 (cell_q fun j hj => by unfold bsI; rw [if_pos hj, Nat.mod_eq_of_lt hj]) ?_
      refine V_f zB0_3 ?_
      refine V_vret hC hR dX0_init_101 ?_
      exact ⟨rfl, had, rfl, (hasB.of : hasB g ad2 (zB g ad2 f c (lstA [3, 2, 2, 4, 6, 20, 1, 2]) (upd (fun _ => 0) 10 20) (fun i => i % 8) 0 (fun _ => 0) (fun _ => 0) 0 (fun _ => 0) 0 (fun _ => 0) (fun _ _ => 0)) c (lstA [3, 2, 2, 4, 6, 20, 1, 2]) (upd (fun _ => 0) 10 20) (fun i => i % 8) 0 (fun _ => 0) (fun _ => 0) 0 (fun _ => 0) 0 (fun _ => 0) (fun _ _ => 0)), fun q hq => (zB_out (gx := fun _ _ => 0) (p := fun i => i % 8) hq)⟩
    | succ j ih =>
      intro k ad2 hk had
      have hk8 : k < 8 := by omega
      refine V_iload_n hC dX0_init_67 rfl rfl ?_
      refine V_bipush hC 8 dX0_init_68 (by decide) ?_
      refine V_icmp_ge_f (tgt := 92) hC dX0_init_70 (by decide) (nI_ge (b := 8) (by omega) (by decide)) ?_
      refine V_aload_n hC dX0_init_73 rfl rfl ?_
      refine V_get hC 2 dX0_init_74 (by omega) zB0_0 rfl (by decide) inX0_X0_init (by decide +kernel) rfl ?_
      refine V_iload_n hC dX0_init_77 rfl rfl ?_
      refine V_new (ci := 1) (fs := [.int 0, .int 0, .int 0, .int 0, .int 0, .int 0, .int 0]) hC tyX1 tyX1_ok dX0_init_78 inX1_X0_init (by decide +kernel) (by decide +kernel) (by decide +kernel) rfl (fun j hj => by rcases (show j = 0 ∨ j = 1 ∨ j = 2 ∨ j = 3 ∨ j = 4 ∨ j = 5 ∨ j = 6 by omega) with rfl | rfl | rfl | rfl | rfl | rfl | rfl <;> rfl) (by show 7 + k + 1 ≤ 15; omega) (by show 131 + 7 * k + 7 ≤ 187; omega) (fun ad78 had78 => ?_)
      refine V_f (f2 := zB0 g ad78 (va_up (zXi f c k) (c + 8 + k) (boxE (fun _ => 0))) c (lstA [3, 2, 2, 4, 6, 20, 1, 2]) (fun _ => 0) (bsI k ad78 c) 0 (fun _ => 0) (fun _ => 0) 0 (fun _ => 0) 0 (fun _ => 0)) ?_ ?_
      · rw [zB0_ad (ad := ad2) (ad2 := ad78) (fun j hj => had78 _ (by omega)), bsI_ad (ad := ad2) (ad2 := ad78) (fun j hj => had78 _ (by omega))]
        exact zB0_u (by omega)
      rw [← had78 c (by omega), ← had78 (c + 3) (by omega)]
      refine V_dup hC dX0_init_81 rfl ?_
      refine V_ciN (rest := [.ref (ad78 (c + 8 + k)), .int (nI k), .ref (ad78 (c + 3))]) hC (c_X1_init g (eL E) (N := c + 8 + k + 1) (i := c + 8 + k)) hC.2.2.2.2.2.2.2.2.1.1 dX0_init_82 gX0_init_X1_init_n44 (by decide +kernel) (by decide +kernel) rfl rfl rfl ⟨rfl, rfl⟩ (by decide +kernel) (by decide +kernel) (Nat.le_of_ble_eq_true rfl) ⟨by show 7 + k + 1 + 0 ≤ 15; omega, by show 131 + 7 * k + 7 + 0 ≤ 187; omega⟩ (fun N82 ad82 u82 had82 h82 => ?_)
      obtain ⟨rfl, rfl, rfl⟩ := h82
      refine V_aast (t0 := 4) (r := (RX1, TX1, 7)) hC dX0_init_85 (by omega) zB0_a3 rfl (by omega) ((zB0_out (by omega)).trans (va_up_self _ _ _)) rfl (ix_nI (j := k) hk8 (by decide)) ?_
      refine V_f zB0_3 ?_
      refine V_f (by rw [zXi_s, bsI_s]) ?_
      refine V_iinc1 hC (nI (k + 1)) dX0_init_86 (nI_1 k) (by rw [hnl]; decide) rfl ?_
      refine V_goto hC 67 dX0_init_89 (by decide) ?_
      exact V_widen (by omega) (by omega) (ih (k + 1) ad82 (by omega) fun i hi => (had78 i (by omega)).trans (had i hi))
  refine V_aload_n hC dX0_init_0 rfl rfl ?_
  refine V_objInit hC dX0_init_1 (by decide +kernel) (by decide +kernel) (by decide +kernel) (by decide) (Nat.le_of_ble_eq_true rfl) ?_
  refine V_aload_n hC dX0_init_4 rfl rfl ?_
  refine V_gets hC hC.2.2.2.2.2.2.2.1.2.2.1 dX0_init_5 (by decide +kernel) ?_
  refine V_clone hC dX0_init_8 (by decide +kernel) (by decide +kernel) (by decide +kernel) (by decide +kernel) (by decide +kernel) (by decide) (Nat.le_of_ble_eq_true rfl) (by decide) (Nat.le_of_ble_eq_true rfl) (fun ad8 had8 => ?_)
  rw [← had8 (c) (by omega)]
  refine V_castI hC dX0_init_11 (by decide +kernel) (by omega) (va_up_self _ _ _) ?_
  refine V_putF hC hin0 0 dX0_init_14 (by omega) ((va_up_ne _ _ (by omega)).trans hf) rfl (by decide) inX0_X0_init (by decide +kernel) tyX0_ok nmX0 rfl rfl rfl rfl rfl (by simp) ?_
  refine V_aload_n hC dX0_init_17 rfl rfl ?_
  refine V_bipush hC 14 dX0_init_18 (by decide) ?_
  refine V_newa (t0 := 0) (atype := .int) (ty := .int) (a0 := (14, .inl (fun _ => 0))) hC dX0_init_20 rfl (by decide +kernel) rfl (fun _ => rfl) (by decide) rfl (Nat.le_of_ble_eq_true rfl) (by decide) (Nat.le_of_ble_eq_true rfl) (fun ad20 had20 => ?_)
  rw [← had20 (c) (by omega), ← had20 (c + 1) (by omega)]
  refine V_putF hC hin0 1 dX0_init_22 (by omega) ((va_up_ne _ _ (by omega)).trans (va_up_self _ _ _)) rfl (by decide) inX0_X0_init (by decide +kernel) tyX0_ok nmX0 rfl rfl rfl rfl rfl (by simp) ?_
  refine V_aload_n hC dX0_init_25 rfl rfl ?_
  refine V_bipush hC 8 dX0_init_26 (by decide) ?_
  refine V_newq (t0 := 4) (n := 8) hC dX0_init_28 (by decide +kernel) rfl hC.2.2.2.2.2.2.2.2.1.2.2.2.2 (by decide) rfl (Nat.le_of_ble_eq_true rfl) (by decide) (Nat.le_of_ble_eq_true rfl) (fun ad28 had28 => ?_)
  rw [← had28 (c) (by omega), ← had28 (c + 1) (by omega), ← had28 (c + 1 + 1) (by omega)]
  refine V_putF hC hin0 2 dX0_init_31 (by omega) ((va_up_ne _ _ (by omega)).trans (va_up_self _ _ _)) rfl (by decide) inX0_X0_init (by decide +kernel) tyX0_ok nmX0 rfl rfl rfl rfl rfl (by simp) ?_
  refine V_aload_n hC dX0_init_34 rfl rfl ?_
  refine V_bipush hC 32 dX0_init_35 (by decide) ?_
  refine V_newa (t0 := 0) (atype := .int) (ty := .int) (a0 := (32, .inl (fun _ => 0))) hC dX0_init_37 rfl (by decide +kernel) rfl (fun _ => rfl) (by decide) rfl (Nat.le_of_ble_eq_true rfl) (by decide) (Nat.le_of_ble_eq_true rfl) (fun ad37 had37 => ?_)
  rw [← had37 (c) (by omega), ← had37 (c + 1) (by omega), ← had37 (c + 1 + 1) (by omega), ← had37 (c + 1 + 1 + 1) (by omega)]
  refine V_putF hC hin0 4 dX0_init_39 (by omega) ((va_up_ne _ _ (by omega)).trans (va_up_self _ _ _)) rfl (by decide) inX0_X0_init (by decide +kernel) tyX0_ok nmX0 rfl rfl rfl rfl rfl (by simp) ?_
  refine V_aload_n hC dX0_init_42 rfl rfl ?_
  refine V_bipush hC 32 dX0_init_43 (by decide) ?_
  refine V_newa (t0 := 0) (atype := .int) (ty := .int) (a0 := (32, .inl (fun _ => 0))) hC dX0_init_45 rfl (by decide +kernel) rfl (fun _ => rfl) (by decide) rfl (Nat.le_of_ble_eq_true rfl) (by decide) (Nat.le_of_ble_eq_true rfl) (fun ad45 had45 => ?_)
  rw [← had45 (c) (by omega), ← had45 (c + 1) (by omega), ← had45 (c + 1 + 1) (by omega), ← had45 (c + 1 + 1 + 1) (by omega), ← had45 (c + 1 + 1 + 1 + 1) (by omega)]
  refine V_putF hC hin0 5 dX0_init_47 (by omega) ((va_up_ne _ _ (by omega)).trans (va_up_self _ _ _)) rfl (by decide) inX0_X0_init (by decide +kernel) tyX0_ok nmX0 rfl rfl rfl rfl rfl (by simp) ?_
  refine V_aload_n hC dX0_init_50 rfl rfl ?_
  refine V_bipush hC 32 dX0_init_51 (by decide) ?_
  refine V_newa (t0 := 0) (atype := .int) (ty := .int) (a0 := (32, .inl (fun _ => 0))) hC dX0_init_53 rfl (by decide +kernel) rfl (fun _ => rfl) (by decide) rfl (Nat.le_of_ble_eq_true rfl) (by decide) (Nat.le_of_ble_eq_true rfl) (fun ad53 had53 => ?_)
  rw [← had53 (c) (by omega), ← had53 (c + 1) (by omega), ← had53 (c + 1 + 1) (by omega), ← had53 (c + 1 + 1 + 1) (by omega), ← had53 (c + 1 + 1 + 1 + 1) (by omega), ← had53 (c + 1 + 1 + 1 + 1 + 1) (by omega)]
  refine V_putF hC hin0 7 dX0_init_55 (by omega) ((va_up_ne _ _ (by omega)).trans (va_up_self _ _ _)) rfl (by decide) inX0_X0_init (by decide +kernel) tyX0_ok nmX0 rfl rfl rfl rfl rfl (by simp) ?_
  refine V_aload_n hC dX0_init_58 rfl rfl ?_
  refine V_iconst hC 5 dX0_init_59 (by decide) ?_
  refine V_newa (t0 := 0) (atype := .int) (ty := .int) (a0 := (5, .inl (fun _ => 0))) hC dX0_init_60 rfl (by decide +kernel) rfl (fun _ => rfl) (by decide) rfl (Nat.le_of_ble_eq_true rfl) (by decide) (Nat.le_of_ble_eq_true rfl) (fun ad60 had60 => ?_)
  rw [← had60 (c) (by omega), ← had60 (c + 1) (by omega), ← had60 (c + 1 + 1) (by omega), ← had60 (c + 1 + 1 + 1) (by omega), ← had60 (c + 1 + 1 + 1 + 1) (by omega), ← had60 (c + 1 + 1 + 1 + 1 + 1) (by omega), ← had60 (c + 1 + 1 + 1 + 1 + 1 + 1) (by omega)]
  refine V_putF hC hin0 9 dX0_init_62 (by omega) ((va_up_ne _ _ (by omega)).trans (va_up_self _ _ _)) rfl (by decide) inX0_X0_init (by decide +kernel) tyX0_ok nmX0 rfl rfl rfl rfl rfl (by simp) ?_
  refine V_iconst hC 0 dX0_init_65 (by decide) ?_
  refine V_istore_n1 hC dX0_init_66 rfl (by rw [hnl]; decide) rfl ?_
  refine V_f (f2 := zB0 g ad60 f c (lstA [3, 2, 2, 4, 6, 20, 1, 2]) (fun _ => 0) (fun _ => none) 0 (fun _ => 0) (fun _ => 0) 0 (fun _ => 0) 0 (fun _ => 0)) ?_ ?_
  · funext q
    by_cases hq : q < c ∨ c + 8 ≤ q
    · rw [zB0_out (by omega)]
      rw [va_up_ne _ _ (by omega)]
      rw [va_up_ne _ _ (by omega)]
      rw [va_up_ne _ _ (by omega)]
      rw [va_up_ne _ _ (by omega)]
      rw [va_up_ne _ _ (by omega)]
      rw [va_up_ne _ _ (by omega)]
      rw [va_up_ne _ _ (by omega)]
      rw [va_up_ne _ _ (by omega)]
      rw [va_up_ne _ _ (by omega)]
      rw [va_up_ne _ _ (by omega)]
      rw [va_up_ne _ _ (by omega)]
      rw [va_up_ne _ _ (by omega)]
      rw [va_up_ne _ _ (by omega)]
      rw [va_up_ne _ _ (by omega)]
    · rcases (show q = c ∨ q = c + 1 ∨ q = c + 2 ∨ q = c + 3 ∨ q = c + 4 ∨ q = c + 5 ∨ q = c + 6 ∨ q = c + 7 by omega) with rfl | rfl | rfl | rfl | rfl | rfl | rfl | rfl <;> simp [va_up, zB0]
  have q := loop 8 0 ad60 rfl (fun i hi => by rw [had60 i (by omega), had53 i (by omega), had45 i (by omega), had37 i (by omega), had28 i (by omega), had20 i (by omega), had8 i hi])
  rw [zXi_0, bsI_0] at q
  exact q
end
section
def bsS (k : Nat) (ad : Nat → Nat) (y : Nat) : Nat → Option Nat := fun j => if j < k then some (ad (y + 16 * j)) else none
theorem bsS_0 {ad : Nat → Nat} {y : Nat} : bsS 0 ad y = fun _ => none := by
  funext j
  unfold bsS
  rw [if_neg (by omega)]
theorem bsS_s {ad : Nat → Nat} {y k : Nat} : va_up (bsS k ad y) k (some (ad (y + 16 * k))) = bsS (k + 1) ad y := by
  funext j
  unfold va_up bsS
  by_cases h : j = k
  · subst h
    rw [if_pos rfl, if_pos (by omega)]
  · rw [if_neg h]
    by_cases h2 : j < k
    · rw [if_pos h2, if_pos (by omega)]
    · rw [if_neg h2, if_neg (by omega)]
theorem bsS_ad {ad ad2 : Nat → Nat} {y k : Nat} (h : ∀ j, j < k → ad2 (y + 16 * j) = ad (y + 16 * j)) : bsS k ad2 y = bsS k ad y := by
  funext j
  unfold bsS
  split
  · rename_i hj
    rw [h j hj]
  · rfl
/-- a history at the start -/
def Y0 (g : GE) (ad : Nat → Nat) (y : Nat) (u : Nat → va_E) : Prop := u y = .inr (2, [.ref (ad (y + 1)), .int 0, .int 0]) ∧ u (y + 1) = .inl (g.2.1 3, 7, .inr (.inr (.inr (.inr (bsS 7 ad (y + 2)))))) ∧ ∀ k, k < 7 → B0 g ad (y + 2 + 16 * k) u
theorem Y0.go {g : GE} {ad ad2 : Nat → Nat} {y : Nat} {u v : Nat → va_E} (h : Y0 g ad y u) (he : ∀ q, y ≤ q → q < y + 114 → ad2 q = ad q) (hv : ∀ q, y ≤ q → q < y + 114 → v q = u q) : Y0 g ad2 y v := by
  obtain ⟨h1, h2, h3⟩ := h
  refine ⟨?_, ?_, fun k hk => (h3 k hk).go (fun q a b => he q (by omega) (by omega)) (fun q a b => hv q (by omega) (by omega))⟩
  · rw [hv _ (by omega) (by omega), h1, he _ (by omega) (by omega)]
  · rw [hv _ (by omega) (by omega), h2, bsS_ad (ad := ad) (ad2 := ad2) (fun j hj => he _ (by omega) (by omega))]
theorem inX0_X2_init : ∀ w ∈ wsX00, w ∈ wsX2_init := by decide +kernel
theorem inX1_X2_init : ∀ w ∈ wsX10, w ∈ wsX2_init := by decide +kernel
theorem inX2_X2_init : ∀ w ∈ wsX20, w ∈ wsX2_init := by decide +kernel
abbrev rmX2_init : Room := { frames := 3, cells := 113, slots := 1386, locals := 100 }
set_option maxHeartbeats 4000000 in
set_option maxRecDepth 100000 in
theorem c_X2_init (g : GE) (lau : Launch) {ad : Nat → Nat} {f : Nat → va_E} {y : Nat} (hf : f y = .inr (2, [.null, .int 0, .int 0])) : Ct g lau yX2_init wsX2_init rmX2_init (y + 1) ad [.ref (ad y)] f (pC (y + 1) ad (fun N2 ad2 u => N2 = y + 114 ∧ Y0 g ad2 y u ∧ ∀ q, q < y → u q = f q)) 113 1386 := by
  refine Ct.of (maxL := 2) rfl (by decide +kernel) [some (.ref (ad y)), none] (Nat.le_of_ble_eq_true rfl) (by simp [lvo, lv_args, Value.category]) (fun E hnl hin0 hC hR => ?_)
  have loop : ∀ (j k : Nat) (ad2 : Nat → Nat) (f2 : Nat → va_E), k + j = 7 → (∀ i, i < y + 1 → ad2 i = ad i) → f2 y = .inr (2, [.ref (ad2 (y + 1)), .int 0, .int 0]) → f2 (y + 1) = .inl (g.2.1 3, 7, .inr (.inr (.inr (.inr (bsS k ad2 (y + 2)))))) → (∀ j, j < k → B0 g ad2 (y + 2 + 16 * j) f2) → (∀ q, q < y → f2 q = f q) → V E g (y + 2 + 16 * k) ad2 (1 + 16 * k) (7 + 197 * k) f2 15 [some (.ref (ad2 y)), some (.int (nI k))] [] := by
    intro j
    induction j with
    | zero =>
      intro k ad2 f2 hk had h1 h2 h3 h4
      have hk : k = 7 := by omega
      subst hk
      refine V_iload_n hC dX2_init_15 rfl rfl ?_
      refine V_bipush hC 7 dX2_init_16 (by decide) ?_
      refine V_icmp_ge_t hC 40 dX2_init_18 (by decide) (by decide) ?_
      refine V_vret hC hR dX2_init_40 ?_
      exact ⟨rfl, had, rfl, ⟨h1, h2, h3⟩, h4⟩
    | succ j ih =>
      intro k ad2 f2 hk had h1 h2 h3 h4
      have hk7 : k < 7 := by omega
      refine V_iload_n hC dX2_init_15 rfl rfl ?_
      refine V_bipush hC 7 dX2_init_16 (by decide) ?_
      refine V_icmp_ge_f (tgt := 40) hC dX2_init_18 (by decide) (nI_ge (b := 7) (by omega) (by decide)) ?_
      refine V_aload_n hC dX2_init_21 rfl rfl ?_
      refine V_get hC 0 dX2_init_22 (by omega) h1 rfl (by decide) inX2_X2_init (by decide +kernel) rfl ?_
      refine V_iload_n hC dX2_init_25 rfl rfl ?_
      refine V_new (ci := 0) (fs := [.null, .null, .null, .int 0, .null, .null, .int 0, .null, .int 0, .null]) hC tyX0 tyX0_ok dX2_init_26 inX0_X2_init (by decide +kernel) (by decide +kernel) (by decide +kernel) rfl (fun j hj => by rcases (show j = 0 ∨ j = 1 ∨ j = 2 ∨ j = 3 ∨ j = 4 ∨ j = 5 ∨ j = 6 ∨ j = 7 ∨ j = 8 ∨ j = 9 by omega) with rfl | rfl | rfl | rfl | rfl | rfl | rfl | rfl | rfl | rfl <;> rfl) (by show 1 + 16 * k + 1 ≤ 113; omega) (by show 7 + 197 * k + 10 ≤ 1386; omega) (fun ad26 had26 => ?_)
      rw [← had26 (y) (by omega), ← had26 (y + 1) (by omega)]
      refine V_dup hC dX2_init_29 rfl ?_
      refine V_ci (rest := [.ref (ad26 (y + 2 + 16 * k)), .int (nI k), .ref (ad26 (y + 1))]) hC (c_X0_init g (eL E) (ad := ad26) (f := va_up f2 (y + 2 + 16 * k) (.inr (0, [.null, .null, .null, .int 0, .null, .null, .int 0, .null, .int 0, .null]))) (c := y + 2 + 16 * k) (va_up_self _ _ _)) dX2_init_30 gX2_init_X0_init (by decide +kernel) (by decide +kernel) (by decide +kernel) rfl rfl rfl ⟨rfl, rfl⟩ (by decide +kernel) (by decide +kernel) (Nat.le_of_ble_eq_true rfl) ⟨by show 1 + 16 * k + 1 + 15 ≤ 113; omega, by show 7 + 197 * k + 10 + 187 ≤ 1386; omega⟩ (fun N30 ad30 u30 had30 h30 => ?_)
      obtain ⟨rfl, h30b, h30o⟩ := h30
      have ho : ∀ q, q < y + 2 + 16 * k → u30 q = f2 q := fun q hq => (h30o q (by omega)).trans (va_up_ne _ _ (by omega))
      have ha : ∀ q, q < y + 2 + 16 * k → ad30 q = ad2 q := fun q hq => (had30 q (by omega)).trans (had26 q (by omega))
      have h2b : u30 (y + 1) = .inl (g.2.1 3, 7, .inr (.inr (.inr (.inr (bsS k ad30 (y + 2)))))) := by
        rw [ho _ (by omega), h2, bsS_ad (ad := ad2) (ad2 := ad30) (fun j hj => ha _ (by omega))]
      rw [← had30 y (by omega), ← had30 (y + 1) (by omega), ← had30 (y + 2 + 16 * k) (by omega)]
      refine V_aast (t0 := 3) (r := (RX0, TX0, 10)) hC dX2_init_33 (by omega) h2b rfl (by omega) h30b.1 rfl (ix_nI (j := k) hk7 (by decide)) ?_
      refine V_f (by rw [bsS_s]) ?_
      refine V_iinc1 hC (nI (k + 1)) dX2_init_34 (nI_1 k) (by rw [hnl]; decide) rfl ?_
      refine V_goto hC 15 dX2_init_37 (by decide) ?_
      rw [show y + 2 + 16 * k + 16 = y + 2 + 16 * (k + 1) by omega]
      refine V_widen (by omega) (by omega) (ih (k + 1) ad30 _ (by omega) (fun i hi => (ha i (by omega)).trans (had i hi)) ?_ (va_up_self _ _ _) (fun j hj => ?_) (fun q hq => (va_up_ne _ _ (by omega)).trans ((ho q (by omega)).trans (h4 q hq))))
      · rw [va_up_ne _ _ (by omega), ho _ (by omega), h1, ha _ (by omega)]
      · by_cases hjk : j = k
        · subst hjk
          exact h30b.go (fun q a b => rfl) (fun q a b => va_up_ne _ _ (by omega))
        · exact (h3 j (by omega)).go (fun q a b => ha q (by omega)) (fun q a b => (va_up_ne _ _ (by omega)).trans (ho q (by omega)))
  refine V_aload_n hC dX2_init_0 rfl rfl ?_
  refine V_objInit hC dX2_init_1 (by decide +kernel) (by decide +kernel) (by decide +kernel) (by decide) (Nat.le_of_ble_eq_true rfl) ?_
  refine V_aload_n hC dX2_init_4 rfl rfl ?_
  refine V_bipush hC 7 dX2_init_5 (by decide) ?_
  refine V_newq (t0 := 3) (n := 7) hC dX2_init_7 (by decide +kernel) rfl hC.2.2.2.2.2.2.2.2.1.2.2.2.1 (by decide) rfl (Nat.le_of_ble_eq_true rfl) (by decide) (Nat.le_of_ble_eq_true rfl) (fun ad7 had7 => ?_)
  rw [← had7 (y) (by omega)]
  refine V_putF hC hin0 0 dX2_init_10 (by omega) ((va_up_ne _ _ (by omega)).trans hf) rfl (by decide) inX2_X2_init (by decide +kernel) tyX2_ok nmX2 rfl rfl rfl rfl rfl (by simp) ?_
  refine V_iconst hC 0 dX2_init_13 (by decide) ?_
  refine V_istore_n1 hC dX2_init_14 rfl (by rw [hnl]; decide) rfl ?_
  have q := loop 7 0 ad7 _ rfl had7 (va_up_self _ _ _) ((va_up_ne _ _ (by omega)).trans (by rw [bsS_0]; exact va_up_self _ _ _)) (fun j hj => absurd hj (by omega)) (fun q hq => (va_up_ne _ _ (by omega)).trans (va_up_ne _ _ (by omega)))
  exact q
end
section
theorem V_gen {E : EV} {g : GE} {N : Nat} {ad : Nat → Nat} {ce sl : Nat} {f : Nat → va_E} {pc : Nat} {lo : List (Option Value)} {st : List Value} (kk : ∀ v, v = f → V E g N ad ce sl v pc lo st) : V E g N ad ce sl f pc lo st := kk f rfl
/-- the class's object at the start, with all that it has -/
def C0 (g : GE) (ad : Nat → Nat) (o : Nat) (u : Nat → va_E) : Prop := u o = .inr (4, [.ref (ad (o + 1)), .ref (ad (o + 17)), .ref (ad (o + 33)), .ref (ad (o + 147)), .ref (ad (o + 180)), .ref (ad (o + 181))]) ∧ B0 g ad (o + 1) u ∧ B0 g ad (o + 17) u ∧ Y0 g ad (o + 33) u ∧ u (o + 147) = .inl (g.2.1 3, 2, .inr (.inr (.inr (.inr (bsS 2 ad (o + 148)))))) ∧ B0 g ad (o + 148) u ∧ B0 g ad (o + 164) u ∧ u (o + 180) = .inl (g.2.1 2, 2, .inl (fun _ => 0)) ∧ u (o + 181) = .inr (3, [.ref (ad (o + 182)), .int 0]) ∧ u (o + 182) = .inl (g.2.1 1, 60, .inl (fun _ => 0))
theorem inX0_X4_init : ∀ w ∈ wsX00, w ∈ wsX4_init := by decide +kernel
theorem inX1_X4_init : ∀ w ∈ wsX10, w ∈ wsX4_init := by decide +kernel
theorem inX2_X4_init : ∀ w ∈ wsX20, w ∈ wsX4_init := by decide +kernel
theorem inX3_X4_init : ∀ w ∈ wsX30, w ∈ wsX4_init := by decide +kernel
theorem inX4_X4_init : ∀ w ∈ wsX40, w ∈ wsX4_init := by decide +kernel
abbrev rmX4_init : Room := { frames := 4, cells := 182, slots := 2243, locals := 160 }
set_option maxHeartbeats 4000000 in
set_option maxRecDepth 100000 in
theorem c_X4_init (g : GE) (lau : Launch) {ad : Nat → Nat} {f : Nat → va_E} {o : Nat} (hf : f o = .inr (4, [.null, .null, .null, .null, .null, .null])) : Ct g lau yX4_init wsX4_init rmX4_init (o + 1) ad [.ref (ad o)] f (pC (o + 1) ad (fun N2 ad2 u => N2 = o + 183 ∧ C0 g ad2 o u ∧ ∀ q, q < o → u q = f q)) 182 2243 := by
  refine Ct.of (maxL := 1) rfl (by decide +kernel) [some (.ref (ad o))] (Nat.le_of_ble_eq_true rfl) (by simp [lvo, lv_args, Value.category]) (fun E hnl hin0 hC hR => ?_)
  refine V_aload_n hC dX4_init_0 rfl rfl ?_
  refine V_objInit hC dX4_init_1 (by decide +kernel) (by decide +kernel) (by decide +kernel) (by decide) (Nat.le_of_ble_eq_true rfl) ?_
  refine V_aload_n hC dX4_init_4 rfl rfl ?_
  refine V_new (ci := 0) (fs := [.null, .null, .null, .int 0, .null, .null, .int 0, .null, .int 0, .null]) hC tyX0 tyX0_ok dX4_init_5 inX0_X4_init (by decide +kernel) (by decide +kernel) (by decide +kernel) rfl (fun j hj => by rcases (show j = 0 ∨ j = 1 ∨ j = 2 ∨ j = 3 ∨ j = 4 ∨ j = 5 ∨ j = 6 ∨ j = 7 ∨ j = 8 ∨ j = 9 by omega) with rfl | rfl | rfl | rfl | rfl | rfl | rfl | rfl | rfl | rfl <;> rfl) (Nat.le_of_ble_eq_true rfl) (Nat.le_of_ble_eq_true rfl) (fun ad5 had5 => ?_)
  rw [← had5 (o) (by omega)]
  refine V_dup hC dX4_init_8 rfl ?_
  refine V_ci (rest := [.ref (ad5 (o + 1)), .ref (ad5 (o))]) hC (c_X0_init g (eL E) (ad := ad5) (c := o + 1) (va_up_self _ _ _)) dX4_init_9 gX4_init_X0_init (by decide +kernel) (by decide +kernel) (by decide +kernel) rfl rfl rfl ⟨rfl, rfl⟩ (by decide +kernel) (by decide +kernel) (Nat.le_of_ble_eq_true rfl) ⟨Nat.le_of_ble_eq_true rfl, Nat.le_of_ble_eq_true rfl⟩ (fun N9 ad9 u9 had9 h9 => ?_)
  obtain ⟨rfl, b9, w9⟩ := h9
  have hO9 := (w9 o (by omega)).trans ((va_up_ne _ _ (by omega)).trans hf)
  rw [← had9 (o) (by omega), ← had9 (o + 1) (by omega)]
  refine V_putF hC hin0 0 dX4_init_12 (by omega) hO9 rfl (by decide) inX4_X4_init (by decide +kernel) tyX4_ok nmX4 rfl rfl rfl rfl rfl (by simp) ?_
  refine V_aload_n hC dX4_init_15 rfl rfl ?_
  refine V_new (ci := 0) (fs := [.null, .null, .null, .int 0, .null, .null, .int 0, .null, .int 0, .null]) hC tyX0 tyX0_ok dX4_init_16 inX0_X4_init (by decide +kernel) (by decide +kernel) (by decide +kernel) rfl (fun j hj => by rcases (show j = 0 ∨ j = 1 ∨ j = 2 ∨ j = 3 ∨ j = 4 ∨ j = 5 ∨ j = 6 ∨ j = 7 ∨ j = 8 ∨ j = 9 by omega) with rfl | rfl | rfl | rfl | rfl | rfl | rfl | rfl | rfl | rfl <;> rfl) (Nat.le_of_ble_eq_true rfl) (Nat.le_of_ble_eq_true rfl) (fun ad16 had16 => ?_)
  rw [← had16 (o) (by omega), ← had16 (o + 1) (by omega)]
  refine V_dup hC dX4_init_19 rfl ?_
  refine V_ci (rest := [.ref (ad16 (o + 1 + 16)), .ref (ad16 (o))]) hC (c_X0_init g (eL E) (ad := ad16) (c := o + 1 + 16) (va_up_self _ _ _)) dX4_init_20 gX4_init_X0_init (by decide +kernel) (by decide +kernel) (by decide +kernel) rfl rfl rfl ⟨rfl, rfl⟩ (by decide +kernel) (by decide +kernel) (Nat.le_of_ble_eq_true rfl) ⟨Nat.le_of_ble_eq_true rfl, Nat.le_of_ble_eq_true rfl⟩ (fun N20 ad20 u20 had20 h20 => ?_)
  obtain ⟨rfl, b20, w20⟩ := h20
  have hO20 : u20 o = .inr (4, [.ref (ad20 (o + 1)), .null, .null, .null, .null, .null]) := by
    rw [w20 o (by omega), va_up_ne _ _ (by omega), va_up_self, had20 (o + 1) (by omega)]
    rfl
  rw [← had20 (o) (by omega), ← had20 (o + 1 + 16) (by omega)]
  refine V_putF hC hin0 1 dX4_init_23 (by omega) hO20 rfl (by decide) inX4_X4_init (by decide +kernel) tyX4_ok nmX4 rfl rfl rfl rfl rfl (by simp) ?_
  refine V_aload_n hC dX4_init_26 rfl rfl ?_
  refine V_new (ci := 2) (fs := [.null, .int 0, .int 0]) hC tyX2 tyX2_ok dX4_init_27 inX2_X4_init (by decide +kernel) (by decide +kernel) (by decide +kernel) rfl (fun j hj => by rcases (show j = 0 ∨ j = 1 ∨ j = 2 by omega) with rfl | rfl | rfl <;> rfl) (Nat.le_of_ble_eq_true rfl) (Nat.le_of_ble_eq_true rfl) (fun ad27 had27 => ?_)
  rw [← had27 (o) (by omega), ← had27 (o + 1) (by omega), ← had27 (o + 1 + 16) (by omega)]
  refine V_dup hC dX4_init_30 rfl ?_
  refine V_ci (rest := [.ref (ad27 (o + 1 + 16 + 16)), .ref (ad27 (o))]) hC (c_X2_init g (eL E) (ad := ad27) (y := o + 1 + 16 + 16) (va_up_self _ _ _)) dX4_init_31 gX4_init_X2_init (by decide +kernel) (by decide +kernel) (by decide +kernel) rfl rfl rfl ⟨rfl, rfl⟩ (by decide +kernel) (by decide +kernel) (Nat.le_of_ble_eq_true rfl) ⟨Nat.le_of_ble_eq_true rfl, Nat.le_of_ble_eq_true rfl⟩ (fun N31 ad31 u31 had31 h31 => ?_)
  obtain ⟨rfl, b31, w31⟩ := h31
  have hO31 : u31 o = .inr (4, [.ref (ad31 (o + 1)), .ref (ad31 (o + 1 + 16)), .null, .null, .null, .null]) := by
    rw [w31 o (by omega), va_up_ne _ _ (by omega), va_up_self, had31 (o + 1) (by omega), had31 (o + 1 + 16) (by omega)]
    rfl
  rw [← had31 (o) (by omega), ← had31 (o + 1 + 16 + 16) (by omega)]
  refine V_putF hC hin0 2 dX4_init_34 (by omega) hO31 rfl (by decide) inX4_X4_init (by decide +kernel) tyX4_ok nmX4 rfl rfl rfl rfl rfl (by simp) ?_
  refine V_aload_n hC dX4_init_37 rfl rfl ?_
  refine V_iconst hC 2 dX4_init_38 (by decide) ?_
  refine V_newq (t0 := 3) (n := 2) hC dX4_init_39 (by decide +kernel) rfl hC.2.2.2.2.2.2.2.2.1.2.2.2.1 (by decide) rfl (Nat.le_of_ble_eq_true rfl) (Nat.le_of_ble_eq_true rfl) (Nat.le_of_ble_eq_true rfl) (fun ad39 had39 => ?_)
  rw [← had39 (o) (by omega), ← had39 (o + 1) (by omega), ← had39 (o + 1 + 16) (by omega), ← had39 (o + 1 + 16 + 16) (by omega)]
  refine V_dup hC dX4_init_42 rfl ?_
  refine V_iconst hC 0 dX4_init_43 (by decide) ?_
  refine V_new (ci := 0) (fs := [.null, .null, .null, .int 0, .null, .null, .int 0, .null, .int 0, .null]) hC tyX0 tyX0_ok dX4_init_44 inX0_X4_init (by decide +kernel) (by decide +kernel) (by decide +kernel) rfl (fun j hj => by rcases (show j = 0 ∨ j = 1 ∨ j = 2 ∨ j = 3 ∨ j = 4 ∨ j = 5 ∨ j = 6 ∨ j = 7 ∨ j = 8 ∨ j = 9 by omega) with rfl | rfl | rfl | rfl | rfl | rfl | rfl | rfl | rfl | rfl <;> rfl) (Nat.le_of_ble_eq_true rfl) (Nat.le_of_ble_eq_true rfl) (fun ad44 had44 => ?_)
  rw [← had44 (o) (by omega), ← had44 (o + 1) (by omega), ← had44 (o + 1 + 16) (by omega), ← had44 (o + 1 + 16 + 16) (by omega), ← had44 (o + 1 + 16 + 16 + 114) (by omega)]
  refine V_dup hC dX4_init_47 rfl ?_
  refine V_ci (rest := [.ref (ad44 (o + 1 + 16 + 16 + 114 + 1)), .int 0, .ref (ad44 (o + 1 + 16 + 16 + 114)), .ref (ad44 (o + 1 + 16 + 16 + 114)), .ref (ad44 (o))]) hC (c_X0_init g (eL E) (ad := ad44) (c := o + 1 + 16 + 16 + 114 + 1) (va_up_self _ _ _)) dX4_init_48 gX4_init_X0_init (by decide +kernel) (by decide +kernel) (by decide +kernel) rfl rfl rfl ⟨rfl, rfl⟩ (by decide +kernel) (by decide +kernel) (Nat.le_of_ble_eq_true rfl) ⟨Nat.le_of_ble_eq_true rfl, Nat.le_of_ble_eq_true rfl⟩ (fun N48 ad48 u48 had48 h48 => ?_)
  obtain ⟨rfl, b48, w48⟩ := h48
  have hO48 : u48 o = .inr (4, [.ref (ad48 (o + 1)), .ref (ad48 (o + 1 + 16)), .ref (ad48 (o + 1 + 16 + 16)), .null, .null, .null]) := by
    rw [w48 o (by omega), va_up_ne _ _ (by omega), va_up_ne _ _ (by omega), va_up_self, had48 (o + 1) (by omega), had48 (o + 1 + 16) (by omega), had48 (o + 1 + 16 + 16) (by omega)]
    rfl
  have hS48 : u48 (o + 1 + 16 + 16 + 114) = .inl (g.2.1 3, 2, .inr (.inr (.inr (.inr (fun _ => none))))) := by rw [w48 _ (by omega), va_up_ne _ _ (by omega), va_up_self]
  rw [← had48 (o) (by omega), ← had48 (o + 1 + 16 + 16 + 114) (by omega), ← had48 (o + 1 + 16 + 16 + 114 + 1) (by omega)]
  refine V_aast (t0 := 3) (r := (RX0, TX0, 10)) hC dX4_init_51 (by omega) hS48 rfl (by omega) b48.1 rfl (ix_c (k := 0) (by decide)) ?_
  refine V_dup hC dX4_init_52 rfl ?_
  refine V_iconst hC 1 dX4_init_53 (by decide) ?_
  refine V_new (ci := 0) (fs := [.null, .null, .null, .int 0, .null, .null, .int 0, .null, .int 0, .null]) hC tyX0 tyX0_ok dX4_init_54 inX0_X4_init (by decide +kernel) (by decide +kernel) (by decide +kernel) rfl (fun j hj => by rcases (show j = 0 ∨ j = 1 ∨ j = 2 ∨ j = 3 ∨ j = 4 ∨ j = 5 ∨ j = 6 ∨ j = 7 ∨ j = 8 ∨ j = 9 by omega) with rfl | rfl | rfl | rfl | rfl | rfl | rfl | rfl | rfl | rfl <;> rfl) (Nat.le_of_ble_eq_true rfl) (Nat.le_of_ble_eq_true rfl) (fun ad54 had54 => ?_)
  rw [← had54 (o) (by omega), ← had54 (o + 1 + 16 + 16 + 114) (by omega), ← had54 (o + 1 + 16 + 16 + 114 + 1) (by omega)]
  refine V_dup hC dX4_init_57 rfl ?_
  refine V_ci (rest := [.ref (ad54 (o + 1 + 16 + 16 + 114 + 1 + 16)), .int 1, .ref (ad54 (o + 1 + 16 + 16 + 114)), .ref (ad54 (o + 1 + 16 + 16 + 114)), .ref (ad54 (o))]) hC (c_X0_init g (eL E) (ad := ad54) (c := o + 1 + 16 + 16 + 114 + 1 + 16) (va_up_self _ _ _)) dX4_init_58 gX4_init_X0_init (by decide +kernel) (by decide +kernel) (by decide +kernel) rfl rfl rfl ⟨rfl, rfl⟩ (by decide +kernel) (by decide +kernel) (Nat.le_of_ble_eq_true rfl) ⟨Nat.le_of_ble_eq_true rfl, Nat.le_of_ble_eq_true rfl⟩ (fun N58 ad58 u58 had58 h58 => ?_)
  obtain ⟨rfl, b58, w58⟩ := h58
  have hO58 : u58 o = .inr (4, [.ref (ad58 (o + 1)), .ref (ad58 (o + 1 + 16)), .ref (ad58 (o + 1 + 16 + 16)), .null, .null, .null]) := by rw [w58 o (by omega), va_up_ne _ _ (by omega), va_up_ne _ _ (by omega), hO48, had58 (o + 1) (by omega), had54 (o + 1) (by omega), had58 (o + 1 + 16) (by omega), had54 (o + 1 + 16) (by omega), had58 (o + 1 + 16 + 16) (by omega), had54 (o + 1 + 16 + 16) (by omega)]
  have hS58 : u58 (o + 1 + 16 + 16 + 114) = .inl (g.2.1 3, 2, .inr (.inr (.inr (.inr (va_up (fun _ => none) 0 (some (ad58 (o + 1 + 16 + 16 + 114 + 1)))))))) := by rw [w58 _ (by omega), va_up_ne _ _ (by omega), va_up_self, had58 (o + 1 + 16 + 16 + 114 + 1) (by omega)]
  rw [← had58 (o) (by omega), ← had58 (o + 1 + 16 + 16 + 114) (by omega), ← had58 (o + 1 + 16 + 16 + 114 + 1 + 16) (by omega)]
  refine V_aast (t0 := 3) (r := (RX0, TX0, 10)) hC dX4_init_61 (by omega) hS58 rfl (by omega) b58.1 rfl (ix_c (k := 1) (by decide)) ?_
  refine V_putF hC hin0 3 dX4_init_62 (by omega) ((va_up_ne _ _ (by omega)).trans hO58) rfl (by decide) inX4_X4_init (by decide +kernel) tyX4_ok nmX4 rfl rfl rfl rfl rfl (by simp) ?_
  refine V_aload_n hC dX4_init_65 rfl rfl ?_
  refine V_aload_n hC dX4_init_66 rfl rfl ?_
  refine V_get hC 3 dX4_init_67 (by omega) (va_up_self _ _ _) rfl (by decide) inX4_X4_init (by decide +kernel) rfl ?_
  refine V_alen (t0 := 3) (ty := .object RX0) hC 2 dX4_init_70 (by omega) ((va_up_ne _ _ (by omega)).trans (va_up_self _ _ _)) rfl rfl ?_
  refine V_newa (t0 := 2) (atype := .boolean) (ty := .boolean) (a0 := (2, .inl (fun _ => 0))) hC dX4_init_71 rfl (by decide +kernel) rfl (fun _ => rfl) (by decide) rfl (Nat.le_of_ble_eq_true rfl) (Nat.le_of_ble_eq_true rfl) (Nat.le_of_ble_eq_true rfl) (fun ad71 had71 => ?_)
  rw [← had71 (o) (by omega), ← had71 (o + 1) (by omega), ← had71 (o + 1 + 16) (by omega), ← had71 (o + 1 + 16 + 16) (by omega), ← had71 (o + 1 + 16 + 16 + 114) (by omega), ← had71 (o + 1 + 16 + 16 + 114 + 1) (by omega), ← had71 (o + 1 + 16 + 16 + 114 + 1 + 16) (by omega)]
  refine V_putF hC hin0 4 dX4_init_73 (by omega) ((va_up_ne _ _ (by omega)).trans (va_up_self _ _ _)) rfl (by decide) inX4_X4_init (by decide +kernel) tyX4_ok nmX4 rfl rfl rfl rfl rfl (by simp) ?_
  refine V_aload_n hC dX4_init_76 rfl rfl ?_
  refine V_new (ci := 3) (fs := [.null, .int 0]) hC tyX3 tyX3_ok dX4_init_77 inX3_X4_init (by decide +kernel) (by decide +kernel) (by decide +kernel) rfl (fun j hj => by rcases (show j = 0 ∨ j = 1 by omega) with rfl | rfl <;> rfl) (Nat.le_of_ble_eq_true rfl) (Nat.le_of_ble_eq_true rfl) (fun ad77 had77 => ?_)
  rw [← had77 (o) (by omega), ← had77 (o + 1) (by omega), ← had77 (o + 1 + 16) (by omega), ← had77 (o + 1 + 16 + 16) (by omega), ← had77 (o + 1 + 16 + 16 + 114) (by omega), ← had77 (o + 1 + 16 + 16 + 114 + 1) (by omega), ← had77 (o + 1 + 16 + 16 + 114 + 1 + 16) (by omega), ← had77 (o + 1 + 16 + 16 + 114 + 1 + 16 + 16) (by omega)]
  refine V_dup hC dX4_init_80 rfl ?_
  refine V_ciN (rest := [.ref (ad77 (o + 1 + 16 + 16 + 114 + 1 + 16 + 16 + 1)), .ref (ad77 (o))]) hC (c_X3_init g (eL E) (ad := ad77) (z := o + 1 + 16 + 16 + 114 + 1 + 16 + 16 + 1) (va_up_self _ _ _)) hC.2.2.2.2.2.2.2.2.1.2.1 dX4_init_81 gX4_init_X3_init_n36 (by decide +kernel) (by decide +kernel) rfl rfl rfl ⟨rfl, rfl⟩ (by decide +kernel) (by decide +kernel) (Nat.le_of_ble_eq_true rfl) ⟨Nat.le_of_ble_eq_true rfl, Nat.le_of_ble_eq_true rfl⟩ (fun N81 ad81 u81 had81 h81 => ?_)
  obtain ⟨rfl, rfl⟩ := h81
  rw [← had81 (o) (by omega), ← had81 (o + 1) (by omega), ← had81 (o + 1 + 16) (by omega), ← had81 (o + 1 + 16 + 16) (by omega), ← had81 (o + 1 + 16 + 16 + 114) (by omega), ← had81 (o + 1 + 16 + 16 + 114 + 1) (by omega), ← had81 (o + 1 + 16 + 16 + 114 + 1 + 16) (by omega), ← had81 (o + 1 + 16 + 16 + 114 + 1 + 16 + 16) (by omega), ← had81 (o + 1 + 16 + 16 + 114 + 1 + 16 + 16 + 1) (by omega)]
  refine V_putF hC hin0 5 dX4_init_84 (by omega) ((va_up_ne _ _ (by omega)).trans ((va_up_ne _ _ (by omega)).trans ((va_up_ne _ _ (by omega)).trans (va_up_self _ _ _)))) rfl (by decide) inX4_X4_init (by decide +kernel) tyX4_ok nmX4 rfl rfl rfl rfl rfl (by simp) ?_
  refine V_gen (fun W hW => ?_)
  refine V_vret hC hR dX4_init_87 ?_
  have e58 : ∀ q, q ≠ o → q ≠ o + 1 + 16 + 16 + 114 → q < o + 1 + 16 + 16 + 114 + 1 + 16 + 16 → W q = u58 q := fun q k1 k2 k3 => by rw [hW, va_up_ne _ _ (by omega), va_up_ne _ _ (by omega), va_up_ne _ _ (by omega), va_up_ne _ _ (by omega), va_up_ne _ _ (by omega), va_up_ne _ _ (by omega), va_up_ne _ _ (by omega), va_up_ne _ _ (by omega)]
  have e48 : ∀ q, q ≠ o → q ≠ o + 1 + 16 + 16 + 114 → q < o + 1 + 16 + 16 + 114 + 1 + 16 → W q = u48 q := fun q k1 k2 k3 => (e58 q k1 k2 (by omega)).trans ((w58 q (by omega)).trans ((va_up_ne _ _ (by omega)).trans (va_up_ne _ _ (by omega))))
  have e31 : ∀ q, q ≠ o → q < o + 1 + 16 + 16 + 114 → W q = u31 q := fun q k1 k3 => (e48 q k1 (by omega) (by omega)).trans ((w48 q (by omega)).trans ((va_up_ne _ _ (by omega)).trans ((va_up_ne _ _ (by omega)).trans (va_up_ne _ _ (by omega)))))
  have e20 : ∀ q, q ≠ o → q < o + 1 + 16 + 16 → W q = u20 q := fun q k1 k3 => (e31 q k1 (by omega)).trans ((w31 q (by omega)).trans ((va_up_ne _ _ (by omega)).trans (va_up_ne _ _ (by omega))))
  have e9 : ∀ q, q ≠ o → q < o + 1 + 16 → W q = u9 q := fun q k1 k3 => (e20 q k1 (by omega)).trans ((w20 q (by omega)).trans ((va_up_ne _ _ (by omega)).trans (va_up_ne _ _ (by omega))))
  refine ⟨rfl, fun q a => ?_, rfl, ⟨by rw [hW, va_up_self]; rfl, b9.go (fun q a b => (had81 q (by omega)).trans ((had77 q (by omega)).trans ((had71 q (by omega)).trans ((had58 q (by omega)).trans ((had54 q (by omega)).trans ((had48 q (by omega)).trans ((had44 q (by omega)).trans ((had39 q (by omega)).trans ((had31 q (by omega)).trans ((had27 q (by omega)).trans ((had20 q (by omega)).trans (had16 q (by omega))))))))))))) (fun q a b => e9 q (by omega) (by omega)), b20.go (fun q a b => (had81 q (by omega)).trans ((had77 q (by omega)).trans ((had71 q (by omega)).trans ((had58 q (by omega)).trans ((had54 q (by omega)).trans ((had48 q (by omega)).trans ((had44 q (by omega)).trans ((had39 q (by omega)).trans ((had31 q (by omega)).trans (had27 q (by omega))))))))))) (fun q a b => e20 q (by omega) (by omega)), b31.go (fun q a b => (had81 q (by omega)).trans ((had77 q (by omega)).trans ((had71 q (by omega)).trans ((had58 q (by omega)).trans ((had54 q (by omega)).trans ((had48 q (by omega)).trans ((had44 q (by omega)).trans (had39 q (by omega))))))))) (fun q a b => e31 q (by omega) (by omega)), ?_, b48.go (fun q a b => (had81 q (by omega)).trans ((had77 q (by omega)).trans ((had71 q (by omega)).trans ((had58 q (by omega)).trans (had54 q (by omega)))))) (fun q a b => e48 q (by omega) (by omega) (by omega)), b58.go (fun q a b => (had81 q (by omega)).trans ((had77 q (by omega)).trans (had71 q (by omega)))) (fun q a b => e58 q (by omega) (by omega) (by omega)), ?_, ?_, ?_⟩, fun q hq => ?_⟩
  · exact (had81 q (by omega)).trans ((had77 q (by omega)).trans ((had71 q (by omega)).trans ((had58 q (by omega)).trans ((had54 q (by omega)).trans ((had48 q (by omega)).trans ((had44 q (by omega)).trans ((had39 q (by omega)).trans ((had31 q (by omega)).trans ((had27 q (by omega)).trans ((had20 q (by omega)).trans ((had16 q (by omega)).trans ((had9 q (by omega)).trans (had5 q a)))))))))))))
  · have eb : bsS 2 ad81 (o + 148) = va_up (va_up (fun _ => none) 0 (some (ad81 (o + 148 + 16 * 0)))) 1 (some (ad81 (o + 148 + 16 * 1))) := by rw [← bsS_s (k := 1), ← bsS_s (k := 0), bsS_0]
    rw [eb, hW, va_up_ne _ _ (by omega), va_up_ne _ _ (by omega), va_up_ne _ _ (by omega), va_up_ne _ _ (by omega), va_up_ne _ _ (by omega), va_up_ne _ _ (by omega), va_up_ne _ _ (by omega), va_up_self]
    try rfl
  · rw [hW, va_up_ne _ _ (by omega), va_up_ne _ _ (by omega), va_up_ne _ _ (by omega), va_up_ne _ _ (by omega), va_up_ne _ _ (by omega), va_up_self]
  · rw [hW, va_up_ne _ _ (by omega), va_up_self]
  · rw [hW, va_up_ne _ _ (by omega), va_up_ne _ _ (by omega), va_up_self]
  · have k1 : q ≠ o := by omega
    have k2 : W q = u9 q := e9 q k1 (by omega)
    exact k2.trans ((w9 q (by omega)).trans (va_up_ne _ _ (by omega)))
end
section
/-! the class at the start -/
theorem V_C0 {E : EV} {g : GE} {N : Nat} {ad : Nat → Nat} {ce sl : Nat} {f : Nat → va_E} {pc : Nat} {lo : List (Option Value)} {st : List Value} {o : Nat} (hN : o + 183 ≤ N) (h : C0 g ad o f) (kk : ∀ v, CAt g ad o S0 v → (∀ q, q < o ∨ o + 183 ≤ q → v q = f q) → V E g N ad ce sl v pc lo st) : V E g N ad ce sl f pc lo st := by
  obtain ⟨h1, h2, h3, ⟨y1, y2, y3⟩, h5, h6, h7, h8, h9, h10⟩ := h
  refine V_arr (i := o + 33 + 1) (y := (7, .inr (.inr (.inr (.inr (fun k => some (ad (o + 33 + 2 + 16 * k)))))))) (by omega) y2 (cell_q fun j hj => by unfold bsS; rw [if_pos hj]) ?_
  refine V_arr (i := o + 147) (y := (2, .inr (.inr (.inr (.inr (fun k => some (ad (o + 148 + 16 * k)))))))) (by omega) ((va_up_ne _ _ (by omega)).trans h5) (cell_q fun j hj => by unfold bsS; rw [if_pos hj]) ?_
  refine V_gen (fun W hW => ?_)
  have e : ∀ q, q ≠ o + 34 → q ≠ o + 147 → W q = f q := fun q a b => by rw [hW, va_up_ne _ _ b, va_up_ne _ _ a]
  have hb : ∀ c, B0 g ad c f → (∀ q, c ≤ q → q < c + 16 → q ≠ o + 34 ∧ q ≠ o + 147) → BAt g ad c M0 W := fun c q k => (q.go (fun q a b => rfl) (fun q a b => e q (k q a b).1 (k q a b).2)).at
  refine kk W ⟨⟨(e o (by omega) (by omega)).trans h1, ⟨M0, hb _ h3 fun q a b => by omega⟩, by rw [hW, va_up_self], ⟨fun _ => 0, (e _ (by omega) (by omega)).trans h8, fun k hk => ⟨M0, ?_, Or.inl ⟨rfl, rfl⟩⟩⟩, fun _ => 0, (e _ (by omega) (by omega)).trans h9, (e _ (by omega) (by omega)).trans h10, rfl, by decide, fun j x hj => by simp [S0] at hj⟩, hb _ h2 fun q a b => by omega, ⟨0, by decide, by decide, ⟨(e _ (by omega) (by omega)).trans y1, by rw [hW, va_up_ne _ _ (by omega), va_up_self]⟩, fun k hk => ⟨M0, hb _ (y3 k hk) fun q a b => by omega⟩, fun j m hj => by simp [S0] at hj⟩⟩ (fun q hq => e q (by omega) (by omega))
  rcases (show k = 0 ∨ k = 1 by omega) with rfl | rfl
  · exact hb _ h6 fun q a b => by omega
  · exact hb _ h7 fun q a b => by omega
end
section
/-! more slack never starves more: two runs that differ in slack and marks only -/
def keyX (x : Nat → Int32) : Int32 × Int32 × Int32 := (x 0, x 1, x 2)
/-- two belts that differ in what was counted from 11 to 18 and in marks only -/
def CO (m n : MT) : Prop := (∀ i, ¬ (11 ≤ i ∧ i ≤ 18) → m.1 i = n.1 i) ∧ m.2.1.map keyX = n.2.1.map keyX ∧ m.2.2 = n.2.2
theorem key_map {f : (Nat → Int32) → (Nat → Int32)} {F : Int32 × Int32 × Int32 → Int32 × Int32 × Int32} (hf : ∀ x, keyX (f x) = F (keyX x)) (bs : List (Nat → Int32)) : (bs.map f).map keyX = (bs.map keyX).map F := by
  rw [List.map_map, List.map_map]
  exact List.map_congr_left fun x _ => hf x
theorem key_filter {p : (Nat → Int32) → Bool} {P : Int32 × Int32 × Int32 → Bool} (hp : ∀ x, p x = P (keyX x)) (bs : List (Nat → Int32)) : (bs.filter p).map keyX = (bs.map keyX).filter P := by
  rw [List.filter_map]
  congr 1
  exact List.filter_congr fun x _ => hp x
theorem CO.move {m n : MT} (h : CO m n) : CO (mMove m) (mMove n) := by
  have h0 := h.1 0 (by omega)
  refine ⟨fun i hi => ?_, ?_, h.2.2⟩
  · show hMove m.1 i = hMove n.1 i
    unfold hMove
    split
    · exact h0
    · split
      · exact h.1 _ (by omega)
      · split
        · rw [h.1 21 (by omega), h0]
        · exact h.1 i hi
  · show (m.2.1.map _).map keyX = (n.2.1.map _).map keyX
    rw [key_map (F := fun k => (k.1 + m.1 0, k.2)) (fun x => rfl), key_map (F := fun k => (k.1 + n.1 0, k.2)) (fun x => rfl), h.2.1, h0]
def unsK (k : Int32 × Int32 × Int32) : Bool := decide (k.2.2 = 0) && decide (20 ≤ k.1)
def seeK (k : Int32 × Int32 × Int32) : Int32 × Int32 × Int32 := if unsK k then (k.1, k.2.1, 1) else k
def outK (k : Int32 × Int32 × Int32) : Bool := !decide (100 ≤ k.1 - k.2.1)
theorem unseen_key (x : Nat → Int32) : unseen x = unsK (keyX x) := rfl
theorem CO.see {m n : MT} (h : CO m n) : CO (mSee m) (mSee n) := by
  have h8 := h.1 8 (by omega)
  have h1 := h.1 1 (by omega)
  refine ⟨h.1, ?_, ?_⟩
  · show (m.2.1.map _).map keyX = (n.2.1.map _).map keyX
    have e : ∀ x, keyX (xSee x) = seeK (keyX x) := by
      intro x
      unfold xSee seeK
      rw [unseen_key]
      split <;> rfl
    rw [key_map (F := seeK) e, key_map (F := seeK) e, h.2.1]
  · show (m.2.2.1 ++ (m.2.1.filter unseen).map (mkRep m.1), m.2.2.2) = (n.2.2.1 ++ (n.2.1.filter unseen).map (mkRep n.1), n.2.2.2)
    have e : ∀ q : MT, q.1 8 = n.1 8 → q.1 1 = n.1 1 → (q.2.1.filter unseen).map (mkRep q.1) = ((q.2.1.filter unseen).map keyX).map (fun k => (n.1 8 + n.1 1, k.1 - 20)) := by
      intro q a b
      rw [List.map_map]
      refine List.map_congr_left fun x _ => ?_
      show (q.1 8 + q.1 1, x 0 - 20) = _
      rw [a, b]
      rfl
    rw [e m h8 h1, e n rfl rfl, key_filter (P := unsK) unseen_key, key_filter (P := unsK) unseen_key, h.2.1, h.2.2]
theorem CO.count {m n : MT} (h : CO m n) : CO (mCount m) (mCount n) := by
  refine ⟨h.1, h.2.1, ?_⟩
  show (m.2.2.1, m.2.2.2.map _) = (n.2.2.1, n.2.2.2.map _)
  rw [h.2.2, h.1 0 (by omega)]
theorem gwN_co {h k : Nat → Int32} (e : ∀ i, 22 ≤ i → h i = k i) : ∀ n, gwN h n = gwN k n := by
  intro n
  induction n with
  | zero => rfl
  | succ n ih =>
    unfold gwN
    rw [ih, e _ (by omega)]
theorem CO.take {m n : MT} (h : CO m n) : CO (mTake m) (mTake n) := by
  refine ⟨h.1, h.2.1, ?_⟩
  have e1 : isDue m.1 = isDue n.1 := by
    funext r
    unfold isDue
    rw [h.1 8 (by omega)]
  have e2 : mkPlan m.1 = mkPlan n.1 := by
    funext r
    unfold mkPlan gw
    rw [h.1 3 (by omega), h.1 2 (by omega), gwN_co (fun i hi => h.1 i (by omega))]
  show (m.2.2.1.filter _, m.2.2.2 ++ _) = (n.2.2.1.filter _, n.2.2.2 ++ _)
  rw [e1, e2, h.2.2]
theorem under_key (x : Nat → Int32) : isUnder x = (fun k : Int32 × Int32 × Int32 => decide (60 ≤ k.1) && decide (k.1 - k.2.1 < 60)) (keyX x) := rfl
theorem mark_key (x : Nat → Int32) : keyX (xMark x) = keyX x := by
  unfold xMark
  split <;> rfl
theorem bMark_key (bs : List (Nat → Int32)) : (bMark bs).map keyX = bs.map keyX := by
  induction bs with
  | nil => rfl
  | cons x r ih =>
    unfold bMark
    split
    · simp only [List.map_cons, mark_key]
    · simp only [List.map_cons, ih]
theorem mMark_key (q : (Nat → Int32) × List (Nat → Int32)) : (mMark q).2.map keyX = q.2.map keyX := by
  unfold mMark
  split
  · rfl
  · split
    · rfl
    · exact bMark_key _
theorem mMark_h (q : (Nat → Int32) × List (Nat → Int32)) : (∀ i, ¬ (11 ≤ i ∧ i ≤ 18) → (mMark q).1 i = q.1 i) ∧ (mMark q).1 18 = (if q.1 18 < q.1 4 then q.1 18 else q.1 18 - q.1 4) ∧ (mMark q).1 17 = (if q.1 18 < q.1 4 then q.1 17 + 1 else q.1 17) := by
  unfold mMark
  split
  · refine ⟨fun i hi => ?_, rfl, rfl⟩
    exact pk_un (by omega)
  · split
    · refine ⟨fun i hi => ?_, rfl, rfl⟩
      show upd (upd q.1 18 _) 15 _ i = _
      rw [pk_un (by omega), pk_un (by omega)]
    · refine ⟨fun i hi => ?_, ?_, ?_⟩
      · show hMarked (upd q.1 18 _) _ i = _
        unfold hMarked
        split
        · rw [pk_un (by omega), pk_un (by omega)]
        · rw [pk_un (by omega), pk_un (by omega), pk_un (by omega)]
      · show hMarked (upd q.1 18 _) _ 18 = _
        unfold hMarked
        split <;> rfl
      · show hMarked (upd q.1 18 _) _ 17 = _
        unfold hMarked
        split <;> rfl
/-- slack and starvings through one label -/
def markS (L : Int32) (z : Int32 × Int32) : Int32 × Int32 := if z.1 < L then (z.1, z.2 + 1) else (z.1 - L, z.2)
def marksS (L : Int32) : List Int32 → Int32 × Int32 → Int32 × Int32
  | [], z => z
  | p :: t, z => marksS L t (if p ≤ 0 then markS L z else z)
theorem do_fold (ps : List Int32) : ∀ q : (Nat → Int32) × List (Nat → Int32), (∀ i, ¬ (11 ≤ i ∧ i ≤ 18) → (ps.foldl doOne q).1 i = q.1 i) ∧ (ps.foldl doOne q).2.map keyX = q.2.map keyX ∧ ((ps.foldl doOne q).1 18, (ps.foldl doOne q).1 17) = marksS (q.1 4) ps (q.1 18, q.1 17) := by
  induction ps with
  | nil => exact fun q => ⟨fun _ _ => rfl, rfl, rfl⟩
  | cons p t ih =>
    intro q
    rw [List.foldl_cons]
    obtain ⟨a, b, d⟩ := ih (doOne q p)
    unfold marksS
    by_cases hp : p ≤ 0
    · have e : doOne q p = mMark q := by unfold doOne; rw [if_pos hp]
      rw [e] at a b d ⊢
      obtain ⟨g1, g2, g3⟩ := mMark_h q
      refine ⟨fun i hi => (a i hi).trans (g1 i hi), b.trans (mMark_key q), ?_⟩
      rw [d, g1 4 (by omega), g2, g3, if_pos hp]
      congr 1
      unfold markS
      split <;> rfl
    · have e : doOne q p = q := by unfold doOne; rw [if_neg hp]
      rw [e] at a b d ⊢
      exact ⟨a, b, by rw [d, if_neg hp]⟩
theorem CO.do {m n : MT} (h : CO m n) : CO (mDo m) (mDo n) := by
  obtain ⟨a1, b1, -⟩ := do_fold m.2.2.2 (m.1, m.2.1)
  obtain ⟨a2, b2, -⟩ := do_fold n.2.2.2 (n.1, n.2.1)
  refine ⟨fun i hi => (a1 i hi).trans ((h.1 i hi).trans (a2 i hi).symm), b1.trans (h.2.1.trans b2.symm), ?_⟩
  show (m.2.2.1, m.2.2.2.filter _) = (n.2.2.1, n.2.2.2.filter _)
  rw [h.2.2]
theorem CO.feed {m n : MT} (h : CO m n) : CO (mFeed m) (mFeed n) := by
  refine ⟨fun i hi => ?_, h.2.1, h.2.2⟩
  show upd m.1 18 _ i = upd n.1 18 _ i
  rw [pk_un (by omega), pk_un (by omega)]
  exact h.1 i hi
theorem out_key (x : Nat → Int32) : (!isOut x) = outK (keyX x) := rfl
theorem out_h (bs : List (Nat → Int32)) : ∀ (h : Nat → Int32) (i : Nat), ¬ (11 ≤ i ∧ i ≤ 13) → bs.foldl outOne h i = h i := by
  induction bs with
  | nil => exact fun _ _ _ => rfl
  | cons x r ih =>
    intro h i hi
    rw [List.foldl_cons, ih _ i hi]
    unfold outOne
    split
    · rcases fate_lt h x with e | e | e <;> rw [e] <;> exact pk_un (by omega)
    · rfl
theorem CO.leave {m n : MT} (h : CO m n) : CO (mLeave m) (mLeave n) := by
  refine ⟨fun i hi => ?_, ?_, h.2.2⟩
  · show m.2.1.foldl outOne m.1 i = n.2.1.foldl outOne n.1 i
    rw [out_h _ _ _ (by omega), out_h _ _ _ (by omega)]
    exact h.1 i hi
  · show (m.2.1.filter _).map keyX = (n.2.1.filter _).map keyX
    rw [key_filter (P := outK) out_key, key_filter (P := outK) out_key, h.2.1]
theorem CO.clock {m n : MT} (h : CO m n) : CO (mClock m) (mClock n) := by
  refine ⟨fun i hi => ?_, h.2.1, h.2.2⟩
  show upd m.1 8 _ i = upd n.1 8 _ i
  rw [h.1 8 (by omega)]
  unfold upd
  split
  · rfl
  · exact h.1 i hi
theorem CO.tick {m n : MT} (h : CO m n) : CO (mTick m) (mTick n) := h.move.see.count.take.do.feed.leave.clock
theorem hFeed_18 (h : Nat → Int32) : hFeed h 18 = if h 5 < h 18 + h 6 then h 5 else h 18 + h 6 := pk_us ..
theorem hFeed_17 (h : Nat → Int32) : hFeed h 17 = h 17 := pk_un (by decide)
/-- slack and starvings through a tick -/
def feedS (cap fd : Int32) (z : Int32 × Int32) : Int32 × Int32 := ((if cap < z.1 + fd then cap else z.1 + fd), z.2)
theorem tick_s (m : MT) : ((mTick m).1 18, (mTick m).1 17) = feedS (m.1 5) (m.1 6) (marksS (m.1 4) (mTake (mCount (mSee (mMove m)))).2.2.2 (m.1 18, m.1 17)) := by
  obtain ⟨a, b, d⟩ := do_fold (mTake (mCount (mSee (mMove m)))).2.2.2 ((mTake (mCount (mSee (mMove m)))).1, (mTake (mCount (mSee (mMove m)))).2.1)
  have hm : ∀ i, i ≤ 18 → (mTake (mCount (mSee (mMove m)))).1 i = m.1 i := by
    intro i hi
    show hMove m.1 i = m.1 i
    unfold hMove
    rw [if_neg (by omega), if_neg (by omega), if_neg (by omega)]
  simp only at a d
  rw [hm 4 (by omega), hm 18 (by omega), hm 17 (by omega)] at d
  have e : ∀ i, 14 ≤ i → i ≤ 18 → (mTick m).1 i = (mFeed (mDo (mTake (mCount (mSee (mMove m)))))).1 i := by
    intro i h1 h2
    show upd ((mFeed (mDo (mTake (mCount (mSee (mMove m)))))).2.1.foldl outOne _) 8 _ i = _
    rw [pk_un (by omega), out_h _ _ _ (by omega)]
  rw [e 18 (by omega) (by omega), e 17 (by omega) (by omega)]
  rw [← d]
  have a5 := (a 5 (by omega)).trans (hm 5 (by omega))
  have a6 := (a 6 (by omega)).trans (hm 6 (by omega))
  show (hFeed ((mTake (mCount (mSee (mMove m)))).2.2.2.foldl doOne ((mTake (mCount (mSee (mMove m)))).1, (mTake (mCount (mSee (mMove m)))).2.1)).1 18, hFeed ((mTake (mCount (mSee (mMove m)))).2.2.2.foldl doOne ((mTake (mCount (mSee (mMove m)))).1, (mTake (mCount (mSee (mMove m)))).2.1)).1 17) = _
  rw [hFeed_18, hFeed_17, a5, a6]
  rfl
end
section
/-! the needed slack: more slack never starves more -/
def rng (z : Int32 × Int32) (b : Int) : Prop := (0 ≤ z.1.toInt ∧ z.1.toInt ≤ 60) ∧ 0 ≤ z.2.toInt ∧ z.2.toInt ≤ b
def relS (L : Int) (y z : Int32 × Int32) : Prop := ∃ d : Nat, y.2.toInt = z.2.toInt + d ∧ y.1.toInt ≤ z.1.toInt + L * d
theorem markS_i {L : Int32} {z : Int32 × Int32} {b : Int} (hL : 1 ≤ L.toInt ∧ L.toInt ≤ 20) (hz : rng z b) (hb : b ≤ 1000000000) : (markS L z).1.toInt = (if z.1.toInt < L.toInt then z.1.toInt else z.1.toInt - L.toInt) ∧ (markS L z).2.toInt = (if z.1.toInt < L.toInt then z.2.toInt + 1 else z.2.toInt) := by
  obtain ⟨⟨a1, a2⟩, a3, a4⟩ := hz
  have e1 : (1 : Int32).toInt = 1 := rfl
  unfold markS
  by_cases h : z.1 < L
  · have h2 := Int32.lt_iff_toInt_lt.mp h
    rw [if_pos h, if_pos h2, if_pos h2]
    exact ⟨rfl, by rw [i_add (by omega) (by omega), e1]⟩
  · have h2 : ¬ z.1.toInt < L.toInt := fun q => h (Int32.lt_iff_toInt_lt.mpr q)
    rw [if_neg h, if_neg h2, if_neg h2]
    exact ⟨by rw [i_sub (by omega) (by omega)], rfl⟩
theorem markS_rng {L : Int32} {z : Int32 × Int32} {b : Int} (hL : 1 ≤ L.toInt ∧ L.toInt ≤ 20) (hz : rng z b) (hb : b ≤ 1000000000) : rng (markS L z) (b + 1) ∧ z.2.toInt ≤ (markS L z).2.toInt := by
  obtain ⟨e1, e2⟩ := markS_i hL hz hb
  obtain ⟨⟨a1, a2⟩, a3, a4⟩ := hz
  unfold rng
  rw [e1, e2]
  split <;> omega
theorem markS_rel {L : Int32} {y z : Int32 × Int32} {b : Int} (hL : 1 ≤ L.toInt ∧ L.toInt ≤ 20) (hy : rng y b) (hz : rng z b) (hb : b ≤ 1000000000) (h : relS L.toInt y z) : relS L.toInt (markS L y) (markS L z) := by
  obtain ⟨d, h1, h2⟩ := h
  obtain ⟨e1, e2⟩ := markS_i hL hy hb
  obtain ⟨e3, e4⟩ := markS_i hL hz hb
  unfold relS
  rw [e1, e2, e3, e4]
  by_cases c1 : y.1.toInt < L.toInt
  · by_cases c2 : z.1.toInt < L.toInt
    · simp only [c1, c2, if_true]
      exact ⟨d, by omega, h2⟩
    · simp only [c1, c2, if_true, if_false]
      refine ⟨d + 1, by omega, ?_⟩
      have : L.toInt * ((d + 1 : Nat) : Int) = L.toInt * d + L.toInt := by rw [Int.natCast_add, Int.mul_add]; simp
      omega
  · by_cases c2 : z.1.toInt < L.toInt
    · simp only [c1, c2, if_true, if_false]
      cases d with
      | zero => simp at h2; omega
      | succ d =>
        refine ⟨d, by omega, ?_⟩
        have : L.toInt * ((d + 1 : Nat) : Int) = L.toInt * d + L.toInt := by rw [Int.natCast_add, Int.mul_add]; simp
        omega
    · simp only [c1, c2, if_false]
      exact ⟨d, h1, by omega⟩
theorem marks_all {L : Int32} (hL : 1 ≤ L.toInt ∧ L.toInt ≤ 20) (ps : List Int32) : ∀ {y z : Int32 × Int32} {b : Int}, rng y b → rng z b → b + ps.length ≤ 1000000000 → relS L.toInt y z → rng (marksS L ps y) (b + ps.length) ∧ rng (marksS L ps z) (b + ps.length) ∧ relS L.toInt (marksS L ps y) (marksS L ps z) ∧ y.2.toInt ≤ (marksS L ps y).2.toInt := by
  induction ps with
  | nil =>
    intro y z b hy hz hb h
    have e : b + (([] : List Int32).length : Int) = b := by simp
    rw [e]
    exact ⟨hy, hz, h, Int.le_refl _⟩
  | cons p t ih =>
    intro y z b hy hz hb h
    have e : b + ((p :: t).length : Int) = b + 1 + (t.length : Int) := by simp; omega
    rw [e] at hb ⊢
    have ht : 0 ≤ (t.length : Int) := Int.natCast_nonneg _
    unfold marksS
    by_cases hp : p ≤ 0
    · rw [if_pos hp, if_pos hp]
      obtain ⟨g1, g2⟩ := markS_rng hL hy (by omega)
      obtain ⟨g3, -⟩ := markS_rng hL hz (by omega)
      obtain ⟨k1, k2, k3, k4⟩ := ih g1 g3 (by omega) (markS_rel hL hy hz (by omega) h)
      exact ⟨k1, k2, k3, Int.le_trans g2 k4⟩
    · rw [if_neg hp, if_neg hp]
      exact ih ⟨hy.1, hy.2.1, by have := hy.2.2; omega⟩ ⟨hz.1, hz.2.1, by have := hz.2.2; omega⟩ (by omega) h
theorem feedS_i {cap fd : Int32} {z : Int32 × Int32} {b : Int} (hc : 1 ≤ cap.toInt ∧ cap.toInt ≤ 60) (hf : 0 ≤ fd.toInt ∧ fd.toInt ≤ 9) (hz : rng z b) : (feedS cap fd z).1.toInt = (if cap.toInt < z.1.toInt + fd.toInt then cap.toInt else z.1.toInt + fd.toInt) := by
  obtain ⟨⟨a1, a2⟩, a3, a4⟩ := hz
  have e : (z.1 + fd).toInt = z.1.toInt + fd.toInt := i_add (by omega) (by omega)
  unfold feedS
  by_cases h : cap < z.1 + fd
  · have h2 := Int32.lt_iff_toInt_lt.mp h
    rw [e] at h2
    simp only [h, h2, if_true]
  · have h2 : ¬ cap.toInt < z.1.toInt + fd.toInt := fun q => h (Int32.lt_iff_toInt_lt.mpr (by rw [e]; exact q))
    simp only [h, h2, if_false]
    exact e
theorem feed_all {L : Int} {cap fd : Int32} {y z : Int32 × Int32} {b : Int} (hL : 1 ≤ L) (hc : 1 ≤ cap.toInt ∧ cap.toInt ≤ 60) (hf : 0 ≤ fd.toInt ∧ fd.toInt ≤ 9) (hy : rng y b) (hz : rng z b) (h : relS L y z) : rng (feedS cap fd y) b ∧ rng (feedS cap fd z) b ∧ relS L (feedS cap fd y) (feedS cap fd z) := by
  have e1 := feedS_i hc hf hy
  have e2 := feedS_i hc hf hz
  obtain ⟨d, h1, h2⟩ := h
  have hd : 0 ≤ L * (d : Int) := Int.mul_nonneg (by omega) (Int.natCast_nonneg _)
  refine ⟨⟨?_, hy.2⟩, ⟨?_, hz.2⟩, d, h1, ?_⟩
  · rw [e1]; have := hy.1; split <;> omega
  · rw [e2]; have := hz.1; split <;> omega
  · rw [e1, e2]
    generalize L * (d : Int) = P at *
    split <;> split <;> omega
/-- the settings that slack depends on -/
def setS (m : MT) : Prop := (1 ≤ (m.1 4).toInt ∧ (m.1 4).toInt ≤ 20) ∧ (1 ≤ (m.1 5).toInt ∧ (m.1 5).toInt ≤ 60) ∧ 0 ≤ (m.1 6).toInt ∧ (m.1 6).toInt ≤ 9
theorem tick_set (m : MT) {i : Nat} (hi : i < 8) : (mTick m).1 i = m.1 i := by
  obtain ⟨a, -, -⟩ := do_fold (mTake (mCount (mSee (mMove m)))).2.2.2 ((mTake (mCount (mSee (mMove m)))).1, (mTake (mCount (mSee (mMove m)))).2.1)
  show upd ((mFeed (mDo (mTake (mCount (mSee (mMove m)))))).2.1.foldl outOne _) 8 _ i = _
  rw [pk_un (by omega), out_h _ _ _ (by omega)]
  show hFeed _ i = _
  unfold hFeed
  rw [pk_un (by omega)]
  refine (a i (by omega)).trans ?_
  show hMove m.1 i = m.1 i
  unfold hMove
  rw [if_neg (by omega), if_neg (by omega), if_neg (by omega)]
theorem take_len {m : MT} (h : TickOK m) : (mTake (mCount (mSee (mMove m)))).2.2.2.length ≤ 28 := by
  have h1 : m.2.2.1.length + ((mMove m).2.1.filter unseen).length + m.2.2.2.length ≤ 28 := h.1
  show (List.map _ m.2.2.2 ++ List.map _ (List.filter _ (m.2.2.1 ++ List.map _ _))).length ≤ 28
  rw [List.length_append, List.length_map, List.length_map]
  have h2 := List.length_filter_le (isDue (mMove m).1) (m.2.2.1 ++ ((mMove m).2.1.filter unseen).map (mkRep (mMove m).1))
  rw [List.length_append, List.length_map] at h2
  exact Nat.le_trans (Nat.add_le_add_left h2 _) (by omega)
theorem take_co {m n : MT} (h : CO m n) : (mTake (mCount (mSee (mMove m)))).2.2.2 = (mTake (mCount (mSee (mMove n)))).2.2.2 := congrArg Prod.snd h.move.see.count.take.2.2
theorem two_runs : ∀ (n : Nat) {m k : MT} {b : Int}, CO m k → setS m → TicksOK n m → rng (m.1 18, m.1 17) b → rng (k.1 18, k.1 17) b → b + 28 * n ≤ 1000000000 → relS (m.1 4).toInt (m.1 18, m.1 17) (k.1 18, k.1 17) → ((mTicks n k).1 17).toInt ≤ ((mTicks n m).1 17).toInt ∧ (m.1 17).toInt ≤ ((mTicks n m).1 17).toInt := by
  intro n
  induction n with
  | zero =>
    intro m k b hco hs hok hm hk hb h
    obtain ⟨d, h1, -⟩ := h
    simp only at h1
    exact ⟨by show (k.1 17).toInt ≤ (m.1 17).toInt; omega, Int.le_refl _⟩
  | succ n ih =>
    intro m k b hco hs hok hm hk hb h
    have t1 := tick_s m
    have t2 := tick_s k
    rw [← take_co hco, ← hco.1 4 (by omega), ← hco.1 5 (by omega), ← hco.1 6 (by omega)] at t2
    have hl := take_len (hok 0 (by omega))
    have hl : (mTake (mCount (mSee (mMove m)))).2.2.2.length ≤ 28 := hl
    obtain ⟨k1, k2, k3, k4⟩ := marks_all hs.1 (mTake (mCount (mSee (mMove m)))).2.2.2 hm hk (by omega) h
    have k1b := k1.2.2
    obtain ⟨f1, f2, f3⟩ := feed_all hs.1.1 hs.2.1 hs.2.2 k1 k2 k3
    rw [← t1] at f1 f3
    rw [← t2] at f2 f3
    have e17 : (m.1 17).toInt ≤ ((mTick m).1 17).toInt := by
      have := congrArg (fun z : Int32 × Int32 => z.2.toInt) t1
      simp only at this
      rw [this]
      exact k4
    have w := ih (m := mTick m) (k := mTick k) (b := b + 28) hco.tick (by unfold setS; rw [tick_set m (by decide), tick_set m (by decide), tick_set m (by decide)]; exact hs) (fun i hi => hok (i + 1) (by omega)) ⟨f1.1, f1.2.1, by have := f1.2.2; omega⟩ ⟨f2.1, f2.2.1, by have := f2.2.2; omega⟩ (by omega) (by rw [tick_set m (by decide)]; exact f3)
    exact ⟨w.1, Int.le_trans e17 w.2⟩
theorem sub0 {a b : Int32} : a - b = 0 ↔ a = b := by
  constructor
  · intro h
    have : a = a - b + b := (Int32.sub_add_cancel a b).symm
    rw [this, h, Int32.zero_add]
  · rintro rfl
    exact Int32.sub_self _
theorem relS_0 {L : Int} {y z : Int32 × Int32} (h1 : y.2 = z.2) (h2 : y.1.toInt ≤ z.1.toInt) : relS L y z := ⟨0, by rw [h1]; simp, by simpa using h2⟩
theorem withH_co (m : MT) (a b : Int32) : CO (withH m 18 a) (withH m 18 b) := by
  refine ⟨fun i hi => ?_, rfl, rfl⟩
  show upd m.1 18 a i = upd m.1 18 b i
  rw [pk_un (by omega), pk_un (by omega)]
theorem need_ok {m : MT} (hs : setS m) (h17 : 0 ≤ (m.1 17).toInt ∧ (m.1 17).toInt ≤ 900000000) (hok : AllOK m) : NeedOK m := by
  intro n hn
  have hS : ∀ k, setS (withH m 18 (nI k)) := fun k => hs
  have hR : ∀ k : Nat, k ≤ 60 → rng ((withH m 18 (nI k)).1 18, (withH m 18 (nI k)).1 17) 900000000 := fun k hk => ⟨by
    show 0 ≤ (upd m.1 18 (nI k) 18).toInt ∧ (upd m.1 18 (nI k) 18).toInt ≤ 60
    rw [pk_us, nI_toInt (by omega)]
    omega, by
    show 0 ≤ (upd m.1 18 (nI k) 17).toInt ∧ (upd m.1 18 (nI k) 17).toInt ≤ 900000000
    rw [pk_un (by decide)]
    exact h17⟩
  have e17 : ∀ k : Nat, (withH m 18 (nI k)).1 17 = m.1 17 := fun k => (by show upd m.1 18 (nI k) 17 = m.1 17; exact pk_un (by decide))
  have e18 : ∀ k : Nat, (withH m 18 (nI k)).1 18 = nI k := fun k => (by show upd m.1 18 (nI k) 18 = nI k; exact pk_us ..)
  have key : ∀ k l : Nat, k ≤ l → l ≤ 60 → ((mTicks n (withH m 18 (nI l))).1 17).toInt ≤ ((mTicks n (withH m 18 (nI k))).1 17).toInt ∧ (m.1 17).toInt ≤ ((mTicks n (withH m 18 (nI k))).1 17).toInt := by
    intro k l hkl hl
    have w := two_runs n (withH_co m (nI k) (nI l)) (hS k) ((hok n hn).2.2 k (by omega)) (hR k (by omega)) (hR l hl) (by omega) (relS_0 (by simp only; rw [e17, e17]) (by simp only; rw [e18, e18, nI_toInt (by omega), nI_toInt (by omega)]; omega))
    rw [e17] at w
    exact w
  refine ⟨fun k hk => ?_, fun k l hkl hl h => ?_⟩
  · have w := (key k k (Nat.le_refl _) hk).2
    unfold starves brg
    rw [e17, sub0, Int32.lt_iff_toInt_lt]
    constructor
    · intro h q
      rw [q] at h
      omega
    · intro h
      have : (m.1 17).toInt ≠ ((mTicks n (withH m 18 (nI k))).1 17).toInt := fun q => h (Int32.toInt_inj.mp q).symm
      omega
  · have w := (key k l hkl hl).1
    unfold starves at h ⊢
    rw [Int32.lt_iff_toInt_lt] at h ⊢
    omega
end
section
/-! how many reports and plans there can be: the ages of what is pending -/
/-- how many of the ages are at most t -/
def nAge (A : List Int) (t : Int) : Nat := A.countP (fun a => decide (a ≤ t))
/-- the ages A, where the last seen box lies at D (twice its middle) -/
def PB (A : List Int) (D : Int) : Prop := (∀ a ∈ A, 0 ≤ a) ∧ ∀ t : Int, nAge A t ≠ 0 → 10 * ((nAge A t : Int) - 1) ≤ 42 + 2 * t ∧ 10 * ((nAge A t : Int) - 1) ≤ 52 + 2 * t - D
theorem PB.nil (D : Int) : PB [] D := ⟨fun a h => by simp at h, fun t h => by simp [nAge] at h⟩
theorem PB.low {A : List Int} {D D2 : Int} (h : PB A D) (hd : D2 ≤ D) : PB A D2 := ⟨h.1, fun t ht => ⟨(h.2 t ht).1, by have := (h.2 t ht).2; omega⟩⟩
theorem nAge_nil (t : Int) : nAge [] t = 0 := rfl
theorem nAge_cons (a : Int) (A : List Int) (t : Int) : nAge (a :: A) t = nAge A t + if a ≤ t then 1 else 0 := by
  unfold nAge
  rw [List.countP_cons]
  simp
theorem nAge_app (A B : List Int) (t : Int) : nAge (A ++ B) t = nAge A t + nAge B t := by
  unfold nAge
  exact List.countP_append
theorem nAge_neg {A : List Int} (h : ∀ a ∈ A, 0 ≤ a) {t : Int} (ht : t < 0) : nAge A t = 0 := by
  unfold nAge
  rw [List.countP_eq_zero]
  intro a ha
  have := h a ha
  simp
  omega
/-- what is pending becomes fewer and older, all by v at least -/
theorem PB.older {A B : List Int} {D v : Int} (h : PB A D) (hB : ∀ b ∈ B, 0 ≤ b) (hv : 0 ≤ v) (hc : ∀ t, nAge B t ≤ nAge A (t - v)) : PB B (D + 2 * v) := by
  refine ⟨hB, fun t ht => ?_⟩
  have h0 := hc t
  have h1 : nAge A (t - v) ≠ 0 := by omega
  have h2 := h.2 (t - v) h1
  omega
/-- fewer -/
theorem PB.sub {A B : List Int} {D : Int} (h : PB A D) (hB : ∀ b ∈ B, 0 ≤ b) (hc : ∀ t, nAge B t ≤ nAge A t) : PB B D := by
  refine ⟨hB, fun t ht => ?_⟩
  have h0 := hc t
  have h2 := h.2 t (by omega)
  omega
/-- one more, of a box that is seen at c -/
theorem PB.new {A : List Int} {D c a : Int} (h : PB A D) (ha : 0 ≤ a) (hc : 10 ≤ c) (hc2 : c ≤ 52) (hd : c + 10 ≤ D) : PB (a :: A) c := by
  refine ⟨fun b hb => ?_, fun t ht => ?_⟩
  · rcases List.mem_cons.mp hb with k | k
    · rw [k]; exact ha
    · exact h.1 b k
  · rw [nAge_cons] at ht ⊢
    have h2 := h.2 t
    by_cases hat : a ≤ t
    · rw [if_pos hat]
      by_cases hz : nAge A t = 0
      · rw [hz]
        omega
      · have := h2 hz
        omega
    · rw [if_neg hat] at ht ⊢
      have := h2 (by omega)
      omega
theorem nAge_len {A : List Int} {t : Int} (h : ∀ a ∈ A, a ≤ t) : nAge A t = A.length := by
  unfold nAge
  rw [List.countP_eq_length]
  intro a ha
  simpa using h a ha
theorem PB.len {A : List Int} {D : Int} (h : PB A D) (hA : ∀ a ∈ A, a ≤ 113) : A.length ≤ 27 := by
  have h1 := h.2 113
  rw [nAge_len hA] at h1
  rcases Nat.eq_zero_or_pos A.length with q | q
  · omega
  · have := h1 (by omega)
    omega
theorem nAge_map_le {α : Type} {f g : α → Int} {v : Int} (h : ∀ x, f x + v ≤ g x) (l : List α) (t : Int) : nAge (l.map g) t ≤ nAge (l.map f) (t - v) := by
  induction l with
  | nil => exact Nat.le_refl _
  | cons x r ih =>
    rw [List.map_cons, List.map_cons, nAge_cons, nAge_cons]
    have := h x
    by_cases h1 : g x ≤ t
    · rw [if_pos h1, if_pos (by omega)]
      omega
    · rw [if_neg h1]
      omega
theorem nAge_map_mem {α : Type} {f g : α → Int} {v : Int} (l : List α) (h : ∀ x ∈ l, f x + v ≤ g x) (t : Int) : nAge (l.map g) t ≤ nAge (l.map f) (t - v) := by
  induction l with
  | nil => exact Nat.le_refl _
  | cons x r ih =>
    rw [List.map_cons, List.map_cons, nAge_cons, nAge_cons]
    have := h x List.mem_cons_self
    have w := ih fun y hy => h y (List.mem_cons_of_mem _ hy)
    by_cases h1 : g x ≤ t
    · rw [if_pos h1, if_pos (by omega)]
      omega
    · rw [if_neg h1]
      omega
theorem nAge_filter {α : Type} {f : α → Int} (p : α → Bool) (l : List α) (t : Int) : nAge ((l.filter p).map f) t ≤ nAge (l.map f) t := by
  induction l with
  | nil => exact Nat.le_refl _
  | cons x r ih =>
    rw [List.map_cons, nAge_cons]
    rw [List.filter_cons]
    split
    · rw [List.map_cons, nAge_cons]
      omega
    · omega
/-- a list split by p, each part with its own ages -/
theorem nAge_split {α : Type} {f : α → Int} (p : α → Bool) (l : List α) (t : Int) : nAge ((l.filter (fun x => !p x)).map f) t + nAge ((l.filter p).map f) t = nAge (l.map f) t := by
  induction l with
  | nil => rfl
  | cons x r ih =>
    rw [List.map_cons, nAge_cons, List.filter_cons, List.filter_cons]
    cases p x with
    | true =>
      simp only [Bool.not_true, Bool.false_eq_true, if_false, if_true, List.map_cons, nAge_cons]
      omega
    | false =>
      simp only [Bool.not_false, Bool.false_eq_true, if_false, if_true, List.map_cons, nAge_cons]
      omega
end
section
/-! the ages through a tick -/
def chainC (D : Int) : List Int → Prop
  | [] => True
  | c :: t => 10 ≤ c ∧ c ≤ 52 ∧ c + 10 ≤ D ∧ chainC c t
def lastC (D : Int) : List Int → Int
  | [] => D
  | c :: t => lastC c t
theorem PB.news {a : Int} (ha : 0 ≤ a) : ∀ (cs : List Int) {A : List Int} {D : Int}, PB A D → chainC D cs → PB (List.replicate cs.length a ++ A) (lastC D cs) := by
  intro cs
  induction cs with
  | nil => exact fun h _ => h
  | cons c t ih =>
    intro A D h hc
    obtain ⟨h1, h2, h3, h4⟩ := hc
    have w := ih (h.new ha h1 h2 h3) h4
    refine w.sub (fun b hb => w.1 b ?_) (fun x => ?_)
    · rw [List.length_cons, List.replicate_succ', List.append_assoc] at hb
      exact hb
    · rw [List.length_cons, List.replicate_succ', List.append_assoc]
      exact Nat.le_refl _
theorem gwN_rng {h : Nat → Int32} (hw : ∀ k, k < 5 → 0 ≤ (h (22 + k)).toInt ∧ (h (22 + k)).toInt ≤ 9) : ∀ n : Nat, n ≤ 5 → 0 ≤ (gwN h n).toInt ∧ (gwN h n).toInt ≤ 9 * n := by
  intro n
  induction n with
  | zero =>
    intro _
    have e : (gwN h 0).toInt = 0 := rfl
    rw [e]
    exact ⟨by decide, by decide⟩
  | succ n ih =>
    intro hn
    have w := ih (by omega)
    have k := hw n (by omega)
    show 0 ≤ (gwN h n + h (22 + n)).toInt ∧ (gwN h n + h (22 + n)).toInt ≤ 9 * ((n + 1 : Nat) : Int)
    rw [i_add (by omega) (by omega)]
    omega
theorem gw_rng {h : Nat → Int32} (hw : ∀ k, k < 5 → 0 ≤ (h (22 + k)).toInt ∧ (h (22 + k)).toInt ≤ 9) {G : Nat} (hG : G ≤ 5) (hg : h 2 = nI G) : 0 ≤ (gw h).toInt ∧ (gw h).toInt ≤ 45 := by
  have w := gwN_rng hw G hG
  unfold gw
  rw [hg, nI_clamp (by omega)]
  omega
theorem mkPlan_i {h : Nat → Int32} {r : Int32 × Int32} (hw : ∀ k, k < 5 → 0 ≤ (h (22 + k)).toInt ∧ (h (22 + k)).toInt ≤ 9) {G : Nat} (hG : G ≤ 5) (hg : h 2 = nI G) (h3 : 0 ≤ (h 3).toInt ∧ (h 3).toInt ≤ 20) (he : 0 ≤ r.2.toInt ∧ r.2.toInt ≤ 40) : (mkPlan h r).toInt ≤ 60 ∧ -50 ≤ (mkPlan h r).toInt := by
  have g := gw_rng hw hG hg
  have e40 : (40 : Int32).toInt = 40 := rfl
  unfold mkPlan
  have e1 : (40 + h 3).toInt = 40 + (h 3).toInt := by rw [i_add (by omega) (by omega), e40]
  have e2 : (40 + h 3 - r.2).toInt = 40 + (h 3).toInt - r.2.toInt := by rw [i_sub (by omega) (by omega), e1]
  rw [i_sub (by omega) (by omega), e2]
  omega
def ageR (s : Int) (r : Int32 × Int32) : Int := 9 * (4 - r.1.toInt + s)
def ageP (p : Int32) : Int := 105 - p.toInt
def ages (s : Int) (rs : List (Int32 × Int32)) (ps : List Int32) : List Int := rs.map (ageR s) ++ ps.map ageP
/-- reports and plans are as they can be at the clock s -/
def pendOK (s : Int) (rs : List (Int32 × Int32)) (ps : List Int32) : Prop := (∀ r ∈ rs, s ≤ r.1.toInt ∧ r.1.toInt ≤ s + 4 ∧ 0 ≤ r.2.toInt ∧ r.2.toInt ≤ 40) ∧ ∀ p ∈ ps, 1 ≤ p.toInt ∧ p.toInt ≤ 60
/-- the old ones, counted down -/
theorem ages_old {s v : Int} {v32 : Int32} {rs : List (Int32 × Int32)} {ps : List Int32} {D : Int} (hv : 0 ≤ v ∧ v ≤ 9) (e : v32.toInt = v) (hp : pendOK s rs ps) (h : PB (ages s rs ps) D) : PB (ages (s + 1) rs (ps.map (fun p => p - v32))) (D + 2 * v) := by
  have ep : ∀ p ∈ ps, (p - v32).toInt = p.toInt - v := fun p hp2 => by
    have := hp.2 p hp2
    rw [i_sub (by omega) (by omega), e]
  refine h.older (fun b hb => ?_) hv.1 (fun t => ?_)
  · rcases List.mem_append.mp hb with k | k
    · obtain ⟨r, hr, rfl⟩ := List.mem_map.mp k
      have := hp.1 r hr
      unfold ageR
      omega
    · rw [List.map_map] at k
      obtain ⟨p, hp2, rfl⟩ := List.mem_map.mp k
      have := hp.2 p hp2
      show 0 ≤ 105 - (p - v32).toInt
      rw [ep p hp2]
      omega
  · unfold ages
    rw [nAge_app, nAge_app, List.map_map]
    refine Nat.add_le_add (nAge_map_mem rs (fun r _ => ?_) t) (nAge_map_mem ps (fun p hp2 => ?_) t)
    · unfold ageR
      omega
    · show 105 - p.toInt + v ≤ 105 - (p - v32).toInt
      rw [ep p hp2]
      omega
/-- the ages behind what comes due: the plans made of reports are no younger -/
theorem ages_take {s : Int} {h : Nat → Int32} {rs : List (Int32 × Int32)} {ps : List Int32} {D : Int} (hs : (h 8).toInt = s) (hk : ∀ r ∈ rs, s ≤ r.1.toInt ∧ r.1.toInt ≤ s + 5) (hm : ∀ r ∈ rs, (mkPlan h r).toInt ≤ 60) (hp : ∀ p ∈ ps, p.toInt ≤ 60) (h0 : PB (ages (s + 1) rs ps) D) : PB (ages (s + 1) (rs.filter (fun r => !isDue h r)) (ps ++ (rs.filter (isDue h)).map (mkPlan h))) D := by
  have hd : ∀ r, isDue h r = true → r.1.toInt ≤ s := fun r k => by
    have := of_decide_eq_true k
    rw [Int32.le_iff_toInt_le, hs] at this
    exact this
  refine h0.sub (fun b hb => ?_) (fun t => ?_)
  · rcases List.mem_append.mp hb with k | k
    · obtain ⟨r, hr, rfl⟩ := List.mem_map.mp k
      have := hk r (List.mem_filter.mp hr).1
      unfold ageR
      omega
    · obtain ⟨p, hp2, rfl⟩ := List.mem_map.mp k
      rcases List.mem_append.mp hp2 with w | w
      · have := hp p w
        unfold ageP
        omega
      · obtain ⟨r, hr, rfl⟩ := List.mem_map.mp w
        have := hm r (List.mem_filter.mp hr).1
        unfold ageP
        omega
  · unfold ages
    rw [nAge_app, nAge_app, List.map_append, nAge_app]
    have e := nAge_split (f := ageR (s + 1)) (isDue h) rs t
    have k : nAge (((rs.filter (isDue h)).map (mkPlan h)).map ageP) t ≤ nAge ((rs.filter (isDue h)).map (ageR (s + 1))) (t - 0) := by
      rw [List.map_map]
      refine nAge_map_mem _ (fun r hr => ?_) t
      have h1 := hk r (List.mem_filter.mp hr).1
      have h2 := hd r (List.mem_filter.mp hr).2
      have h3 := hm r (List.mem_filter.mp hr).1
      show 9 * (4 - r.1.toInt + (s + 1)) + 0 ≤ 105 - (mkPlan h r).toInt
      omega
    rw [Int.sub_zero] at k
    omega
/-- the ages behind the plans that are done -/
theorem ages_do {s : Int} {rs : List (Int32 × Int32)} {ps : List Int32} {D : Int} (h0 : PB (ages s rs ps) D) : PB (ages s rs (ps.filter (fun p => !decide (p ≤ 0)))) D := by
  refine h0.sub (fun b hb => h0.1 b ?_) (fun t => ?_)
  · rcases List.mem_append.mp hb with k | k
    · exact List.mem_append_left _ k
    · obtain ⟨p, hp, rfl⟩ := List.mem_map.mp k
      exact List.mem_append_right _ (List.mem_map_of_mem (List.mem_filter.mp hp).1)
  · unfold ages
    rw [nAge_app, nAge_app]
    exact Nat.add_le_add_left (nAge_filter _ _ _) _
end
section
/-! boxes as whole numbers -/
def frX (x : Nat → Int32) : Int := (x 0).toInt
def lnX (x : Nat → Int32) : Int := (x 1).toInt
/-- twice the middle -/
def ctX (x : Nat → Int32) : Int := 2 * frX x - lnX x
/-- a box is as it can be; K bounds how far turns have set it back -/
def bOK (K : Int) (x : Nat → Int32) : Prop := (4 ≤ lnX x ∧ lnX x ≤ 30) ∧ (x 2 = 0 ∨ x 2 = 1) ∧ -K ≤ ctX x ∧ frX x ≤ 150 ∧ (x 2 = 0 → ctX x ≤ 34)
def apart (x y : Nat → Int32) : Prop := frX y + 1 ≤ frX x - lnX x
theorem bk_i {K : Int} {x : Nat → Int32} (hK : K ≤ 100000000) (h : bOK K x) : (x 0 - x 1).toInt = frX x - lnX x := by
  obtain ⟨h1, -, h3, h4, -⟩ := h
  unfold ctX at h3
  unfold frX lnX at *
  exact i_sub (by omega) (by omega)
theorem under_i {K : Int} {x : Nat → Int32} (hK : K ≤ 100000000) (h : bOK K x) : isUnder x = true ↔ 60 ≤ frX x ∧ frX x - lnX x < 60 := by
  have e := bk_i hK h
  have e60 : (60 : Int32).toInt = 60 := rfl
  unfold isUnder
  simp only [Bool.and_eq_true, decide_eq_true_eq]
  rw [Int32.le_iff_toInt_le, Int32.lt_iff_toInt_lt, e, e60]
  rfl
theorem out_i {K : Int} {x : Nat → Int32} (hK : K ≤ 100000000) (h : bOK K x) : isOut x = true ↔ 100 ≤ frX x - lnX x := by
  have e := bk_i hK h
  have e100 : (100 : Int32).toInt = 100 := rfl
  unfold isOut
  simp only [decide_eq_true_eq]
  rw [Int32.le_iff_toInt_le, e, e100]
theorem unseen_i {x : Nat → Int32} : unseen x = true ↔ x 2 = 0 ∧ 20 ≤ frX x := by
  have e20 : (20 : Int32).toInt = 20 := rfl
  unfold unseen
  simp only [Bool.and_eq_true, decide_eq_true_eq]
  rw [Int32.le_iff_toInt_le, e20]
  rfl
theorem oneU_of {K : Int} {bs : List (Nat → Int32)} (hK : K ≤ 100000000) (h : ∀ x ∈ bs, bOK K x) (hp : bs.Pairwise apart) : oneU bs := by
  unfold oneU
  rw [List.pairwise_map]
  refine List.Pairwise.imp_of_mem (fun {x y} hx hy hxy hu => ?_) hp
  rw [under_i hK (h x hx)] at hu
  rw [← Bool.not_eq_true, under_i hK (h y hy)]
  unfold apart at hxy
  omega
theorem ct_apart {K : Int} {x y : Nat → Int32} (hx : bOK K x) (hy : bOK K y) (h : apart x y) : ctX y + 10 ≤ ctX x := by
  obtain ⟨h1, -⟩ := hx
  obtain ⟨h2, -⟩ := hy
  unfold apart at h
  unfold ctX
  omega
/-- behind a seen box none is seen that lies ahead unseen -/
def seenP (bs : List (Nat → Int32)) : Prop := bs.Pairwise (fun x y => y 2 = 1 → x 2 = 1)
/-- where the last seen box lies -/
def dOf (bs : List (Nat → Int32)) : Int := match (bs.filter (fun x => decide (x 2 = 1))).getLast? with
  | none => 62
  | some x => ctX x
/-- the belt's part of the invariant -/
def beltOK (K : Int) (m : MT) : Prop := (∀ x ∈ m.2.1, bOK K x) ∧ m.2.1.Pairwise apart ∧ seenP m.2.1
theorem fr_move {K v : Int} {x : Nat → Int32} {v32 : Int32} (hK : K ≤ 100000000) (hv : v32.toInt = v) (h0 : 0 ≤ v ∧ v ≤ 9) (h : bOK K x) : frX (xMove v32 x) = frX x + v ∧ lnX (xMove v32 x) = lnX x := by
  obtain ⟨h1, -, h3, h4, -⟩ := h
  unfold ctX at h3
  constructor
  · show (x 0 + v32).toInt = (x 0).toInt + v
    unfold frX lnX at *
    rw [i_add (by omega) (by omega), hv]
  · rfl
end
section
/-! the boxes that are seen in a tick -/
def ctLt (x y : Nat → Int32) : Prop := ctX y + 10 ≤ ctX x
theorem chain_of : ∀ (xs : List (Nat → Int32)) (D : Int), (∀ x ∈ xs, unseen x = true → 10 ≤ ctX x ∧ ctX x ≤ 52) → xs.Pairwise ctLt → (∀ x ∈ xs, unseen x = true → ctX x + 10 ≤ D) → chainC D ((xs.filter unseen).map ctX) := by
  intro xs
  induction xs with
  | nil => exact fun _ _ _ _ => trivial
  | cons x r ih =>
    intro D h1 h2 h3
    obtain ⟨p1, p2⟩ := List.pairwise_cons.mp h2
    rw [List.filter_cons]
    by_cases hu : unseen x = true
    · rw [if_pos hu, List.map_cons]
      obtain ⟨a, b⟩ := h1 x List.mem_cons_self hu
      exact ⟨a, b, h3 x List.mem_cons_self hu, ih (ctX x) (fun y hy => h1 y (List.mem_cons_of_mem _ hy)) p2 fun y hy _ => p1 y hy⟩
    · rw [if_neg hu]
      exact ih D (fun y hy => h1 y (List.mem_cons_of_mem _ hy)) p2 fun y hy => h3 y (List.mem_cons_of_mem _ hy)
theorem seen_ahead : ∀ {xs : List (Nat → Int32)}, seenP xs → xs.Pairwise ctLt → ∀ x ∈ xs, ∀ y ∈ xs, ¬ x 2 = 1 → y 2 = 1 → ctX x + 10 ≤ ctX y := by
  intro xs
  induction xs with
  | nil => exact fun _ _ x hx => by simp at hx
  | cons z r ih =>
    intro hs hp x hx y hy h1 h2
    obtain ⟨s1, s2⟩ := List.pairwise_cons.mp hs
    obtain ⟨p1, p2⟩ := List.pairwise_cons.mp hp
    rcases List.mem_cons.mp hx with rfl | hx2
    · rcases List.mem_cons.mp hy with rfl | hy2
      · exact absurd h2 h1
      · exact absurd (s1 y hy2 h2) h1
    · rcases List.mem_cons.mp hy with rfl | hy2
      · exact p1 x hx2
      · exact ih s2 p2 x hx2 y hy2 h1 h2
/-- the last seen box, or what stands for it -/
def dOr (d : Int) (bs : List (Nat → Int32)) : Int := match (bs.filter (fun x => decide (x 2 = 1))).getLast? with
  | none => d
  | some x => ctX x
theorem dOr_some {d : Int} {bs : List (Nat → Int32)} {x : Nat → Int32} (h : (bs.filter (fun x => decide (x 2 = 1))).getLast? = some x) : dOr d bs = ctX x ∧ x ∈ bs ∧ x 2 = 1 := by
  have hm := List.mem_of_getLast? h
  rw [List.mem_filter] at hm
  refine ⟨?_, hm.1, of_decide_eq_true hm.2⟩
  unfold dOr
  rw [h]
theorem unseen_dOr {xs : List (Nat → Int32)} {d : Int} (hs : seenP xs) (hp : xs.Pairwise ctLt) (hd : ∀ x ∈ xs, unseen x = true → ctX x + 10 ≤ d) : ∀ x ∈ xs, unseen x = true → ctX x + 10 ≤ dOr d xs := by
  intro x hx hu
  have h0 : ¬ x 2 = 1 := by
    rw [(unseen_i.mp hu).1]
    decide
  cases hl : (xs.filter (fun x => decide (x 2 = 1))).getLast? with
  | none =>
    unfold dOr
    rw [hl]
    exact hd x hx hu
  | some y =>
    obtain ⟨e, h1, h2⟩ := dOr_some (d := d) hl
    rw [e]
    exact seen_ahead hs hp x hx y h1 h0 h2
theorem ctLt_of {K : Int} {bs : List (Nat → Int32)} (h : ∀ x ∈ bs, bOK K x) (hp : bs.Pairwise apart) : bs.Pairwise ctLt := List.Pairwise.imp_of_mem (fun {_ _} hx hy hxy => ct_apart (h _ hx) (h _ hy) hxy) hp
/-- where the last seen box lies when those that come into sight are seen -/
theorem dOr_see : ∀ (xs : List (Nat → Int32)) (d : Int), seenP xs → (∀ x ∈ xs, x 2 = 0 ∨ x 2 = 1) → xs.Pairwise (fun x y => unseen y = true → 20 ≤ frX x) → dOr d (xs.map xSee) = lastC (dOr d xs) ((xs.filter unseen).map ctX) := by
  intro xs
  induction xs with
  | nil => exact fun _ _ _ _ => rfl
  | cons x r ih =>
    intro d hs h01 hf
    obtain ⟨s1, s2⟩ := List.pairwise_cons.mp hs
    obtain ⟨f1, f2⟩ := List.pairwise_cons.mp hf
    have key : ∀ (z : Nat → Int32) (l : List (Nat → Int32)), z 2 = 1 → dOr d (z :: l) = dOr (ctX z) l := by
      intro z l hz
      unfold dOr
      rw [List.filter_cons, if_pos (by simpa using hz)]
      cases hl : l.filter (fun x => decide (x 2 = 1)) with
      | nil => rfl
      | cons a b => rw [List.getLast?_cons_cons, List.getLast?_cons]
    have key0 : ∀ (z : Nat → Int32) (l : List (Nat → Int32)), ¬ z 2 = 1 → dOr d (z :: l) = dOr d l := by
      intro z l hz
      unfold dOr
      rw [List.filter_cons, if_neg (by simpa using hz)]
    have w := fun d => ih d s2 (fun y hy => h01 y (List.mem_cons_of_mem _ hy)) f2
    rw [List.map_cons, List.filter_cons]
    rcases h01 x List.mem_cons_self with hx | hx
    · have hr : ∀ y ∈ r, ¬ y 2 = 1 := fun y hy q => by have := s1 y hy q; rw [hx] at this; exact absurd this (by decide)
      have hn : ∀ d, dOr d r = d := by
        intro d
        unfold dOr
        rw [show r.filter (fun x => decide (x 2 = 1)) = [] by rw [List.filter_eq_nil_iff]; intro y hy; simpa using hr y hy]
        rfl
      rw [key0 x r (by rw [hx]; decide), hn]
      by_cases hu : unseen x = true
      · rw [if_pos hu, List.map_cons, key _ _ (by rw [xSee_yes hu]; rfl), w, hn]
        show lastC (ctX (xSee x)) _ = lastC (ctX x) _
        rw [xSee_yes hu]
        rfl
      · rw [if_neg hu, xSee_no (by simpa using hu), key0 _ _ (by rw [hx]; decide), w, hn]
    · have hu : ¬ unseen x = true := fun q => by rw [(unseen_i.mp q).1] at hx; exact absurd hx (by decide)
      rw [if_neg hu, xSee_no (by simpa using hu), key _ _ hx, key _ _ hx, w]
end
section
/-! the boxes moved on -/
theorem ct_move {K v : Int} {x : Nat → Int32} {v32 : Int32} (hK : K ≤ 100000000) (hv : v32.toInt = v) (h0 : 0 ≤ v ∧ v ≤ 9) (h : bOK K x) : ctX (xMove v32 x) = ctX x + 2 * v := by
  obtain ⟨a, b⟩ := fr_move hK hv h0 h
  unfold ctX
  omega
theorem apart_move {K v : Int} {v32 : Int32} {bs : List (Nat → Int32)} (hK : K ≤ 100000000) (hv : v32.toInt = v) (h0 : 0 ≤ v ∧ v ≤ 9) (h : ∀ x ∈ bs, bOK K x) (hp : bs.Pairwise apart) : (bs.map (xMove v32)).Pairwise apart := by
  rw [List.pairwise_map]
  refine List.Pairwise.imp_of_mem (fun {x y} hx hy hxy => ?_) hp
  obtain ⟨a, b⟩ := fr_move hK hv h0 (h x hx)
  obtain ⟨a2, b2⟩ := fr_move hK hv h0 (h y hy)
  unfold apart at hxy ⊢
  omega
theorem seenP_move {v32 : Int32} {bs : List (Nat → Int32)} (h : seenP bs) : seenP (bs.map (xMove v32)) := by
  unfold seenP at h ⊢
  rw [List.pairwise_map]
  exact h
theorem ctLt_move {K v : Int} {v32 : Int32} {bs : List (Nat → Int32)} (hK : K ≤ 100000000) (hv : v32.toInt = v) (h0 : 0 ≤ v ∧ v ≤ 9) (h : ∀ x ∈ bs, bOK K x) (hp : bs.Pairwise apart) : (bs.map (xMove v32)).Pairwise ctLt := by
  rw [List.pairwise_map]
  refine List.Pairwise.imp_of_mem (fun {x y} hx hy hxy => ?_) (ctLt_of h hp)
  unfold ctLt at hxy ⊢
  rw [ct_move hK hv h0 (h x hx), ct_move hK hv h0 (h y hy)]
  omega
theorem dOr_move {K v d : Int} {v32 : Int32} {bs : List (Nat → Int32)} (hK : K ≤ 100000000) (hv : v32.toInt = v) (h0 : 0 ≤ v ∧ v ≤ 9) (h : ∀ x ∈ bs, bOK K x) : dOr (d + 2 * v) (bs.map (xMove v32)) = dOr d bs + 2 * v := by
  unfold dOr
  have e : (bs.map (xMove v32)).filter (fun x => decide (x 2 = 1)) = (bs.filter (fun x => decide (x 2 = 1))).map (xMove v32) := by
    rw [List.filter_map]
    rfl
  rw [e, List.getLast?_map]
  cases hl : (bs.filter (fun x => decide (x 2 = 1))).getLast? with
  | none => rfl
  | some x =>
    obtain ⟨-, hm, -⟩ := dOr_some (d := d) hl
    exact ct_move hK hv h0 (h x hm)
theorem unseen_ct {K v : Int} {v32 : Int32} {bs : List (Nat → Int32)} (hK : K ≤ 100000000) (hv : v32.toInt = v) (h0 : 0 ≤ v ∧ v ≤ 9) (h : ∀ x ∈ bs, bOK K x) : ∀ x ∈ bs.map (xMove v32), unseen x = true → (10 ≤ ctX x ∧ ctX x ≤ 52) ∧ ctX x + 10 ≤ 62 + 2 * v := by
  intro y hy hu
  obtain ⟨x, hx, rfl⟩ := List.mem_map.mp hy
  obtain ⟨u1, u2⟩ := unseen_i.mp hu
  have hb := h x hx
  have e := ct_move hK hv h0 hb
  obtain ⟨h1, -, -, -, h5⟩ := hb
  have k := h5 u1
  have hl : lnX (xMove v32 x) = lnX x := rfl
  have hc : ctX (xMove v32 x) = 2 * frX (xMove v32 x) - lnX (xMove v32 x) := rfl
  omega
/-- the ages when the boxes have moved, those in sight are seen, and the plans are counted down -/
theorem chain_move {K v : Int} {v32 : Int32} {bs : List (Nat → Int32)} (hK : K ≤ 100000000) (hv : v32.toInt = v) (h0 : 0 ≤ v ∧ v ≤ 9) (h : ∀ x ∈ bs, bOK K x) (hp : bs.Pairwise apart) (hs : seenP bs) : chainC (dOr 62 bs + 2 * v) (((bs.map (xMove v32)).filter unseen).map ctX) := by
  rw [← dOr_move hK hv h0 h]
  have hu := unseen_ct hK hv h0 h
  exact chain_of _ _ (fun x hx hx2 => (hu x hx hx2).1) (ctLt_move hK hv h0 h hp) (unseen_dOr (seenP_move hs) (ctLt_move hK hv h0 h hp) fun x hx hx2 => (hu x hx hx2).2)
end
section
/-! the ages when the boxes have moved and those in sight are seen -/
theorem dOr_le {d e : Int} (h : d ≤ e) (bs : List (Nat → Int32)) : dOr d bs ≤ dOr e bs := by
  unfold dOr
  split
  · exact h
  · exact Int.le_refl _
theorem see_PB {K v s late : Int} {v32 t8 : Int32} {bs : List (Nat → Int32)} {rs : List (Int32 × Int32)} {ps : List Int32} (hK : K ≤ 100000000) (hv : v32.toInt = v) (h0 : 0 ≤ v ∧ v ≤ 9) (h : ∀ x ∈ bs, bOK K x) (hp : bs.Pairwise apart) (hs : seenP bs) (hl : 0 ≤ late ∧ late ≤ 5) (h8 : t8.toInt = s + late) (hpe : pendOK s rs ps) (hPB : PB (ages s rs ps) (dOr 62 bs)) :
    PB (ages (s + 1) (rs ++ ((bs.map (xMove v32)).filter unseen).map (fun x => (t8, x 0 - 20))) (ps.map (fun p => p - v32))) (dOr 62 ((bs.map (xMove v32)).map xSee)) := by
  have w1 := ages_old h0 hv hpe hPB
  have w2 := w1.news (a := 9 * (5 - late)) (by omega) _ (chain_move hK hv h0 h hp hs)
  have hm : ∀ x ∈ bs.map (xMove v32), x 2 = 0 ∨ x 2 = 1 := by
    intro y hy
    obtain ⟨x, hx, rfl⟩ := List.mem_map.mp hy
    exact (h x hx).2.1
  have hlen : ∀ x ∈ bs.map (xMove v32), 4 ≤ lnX x := by
    intro y hy
    obtain ⟨x, hx, rfl⟩ := List.mem_map.mp hy
    exact (h x hx).1.1
  have hf : (bs.map (xMove v32)).Pairwise (fun x y => unseen y = true → 20 ≤ frX x) := List.Pairwise.imp_of_mem (fun {x y} hx hy hxy hu => by
    have := (unseen_i.mp hu).2
    have := hlen x hx
    unfold apart at hxy
    omega) (apart_move hK hv h0 h hp)
  have e1 := dOr_see (bs.map (xMove v32)) (62 + 2 * v) (seenP_move hs) hm hf
  rw [dOr_move hK hv h0 h] at e1
  rw [← e1] at w2
  have er : (((bs.map (xMove v32)).filter unseen).map (fun x => (t8, x 0 - 20))).map (ageR (s + 1)) = List.replicate (((bs.map (xMove v32)).filter unseen).map ctX).length (9 * (5 - late)) := by
    rw [List.eq_replicate_iff]
    refine ⟨by simp only [List.length_map], fun b hb => ?_⟩
    rw [List.map_map] at hb
    obtain ⟨x, -, rfl⟩ := List.mem_map.mp hb
    show 9 * (4 - t8.toInt + (s + 1)) = 9 * (5 - late)
    omega
  refine (w2.low (dOr_le (by omega) _)).sub (fun b hb => w2.1 b ?_) (fun t => ?_)
  · unfold ages at hb
    rw [List.map_append, er] at hb
    rcases List.mem_append.mp hb with k | k
    · rcases List.mem_append.mp k with k | k
      · exact List.mem_append_right _ (List.mem_append_left _ k)
      · exact List.mem_append_left _ k
    · exact List.mem_append_right _ (List.mem_append_right _ k)
  · unfold ages
    rw [List.map_append, er]
    simp only [nAge_app]
    omega
/-- never more than 27 at once -/
theorem see_len {v s late : Int} {v32 t8 : Int32} {D : Int} {xs : List (Nat → Int32)} {rs : List (Int32 × Int32)} {ps : List Int32} (hv : v32.toInt = v) (h0 : 0 ≤ v ∧ v ≤ 9) (hl : 0 ≤ late ∧ late ≤ 5) (h8 : t8.toInt = s + late) (hpe : pendOK s rs ps) (w : PB (ages (s + 1) (rs ++ xs.map (fun x => (t8, x 0 - 20))) (ps.map (fun p => p - v32))) D) : rs.length + xs.length + ps.length ≤ 27 := by
  have k := w.len (fun a ha => ?_)
  · unfold ages at k
    simp only [List.length_append, List.length_map] at k
    exact k
  · rcases List.mem_append.mp ha with k | k
    · obtain ⟨r, hr, rfl⟩ := List.mem_map.mp k
      unfold ageR
      rcases List.mem_append.mp hr with q | q
      · have := hpe.1 r q
        omega
      · obtain ⟨x, -, rfl⟩ := List.mem_map.mp q
        show 9 * (4 - t8.toInt + (s + 1)) ≤ 113
        omega
    · rw [List.map_map] at k
      obtain ⟨p, hp, rfl⟩ := List.mem_map.mp k
      have := hpe.2 p hp
      show 105 - (p - v32).toInt ≤ 113
      rw [i_sub (by omega) (by omega), hv]
      omega
end
section
/-! a tick can be made -/
theorem oneU_rng {bs : List (Nat → Int32)} (h : ∀ x ∈ bs, (4 ≤ lnX x ∧ lnX x ≤ 30) ∧ -100000000 ≤ frX x ∧ frX x ≤ 1000) (hp : bs.Pairwise apart) : oneU bs := by
  unfold oneU
  rw [List.pairwise_map]
  refine List.Pairwise.imp_of_mem (fun {x y} hx hy hxy hu => ?_) hp
  have e60 : (60 : Int32).toInt = 60 := rfl
  have hb : (x 0 - x 1).toInt = frX x - lnX x := by
    have := h x hx
    unfold frX lnX at *
    exact i_sub (by omega) (by omega)
  unfold isUnder at hu
  simp only [Bool.and_eq_true, decide_eq_true_eq] at hu
  have h2 := Int32.lt_iff_toInt_lt.mp hu.2
  rw [hb, e60] at h2
  unfold apart at hxy
  unfold isUnder
  rw [Bool.and_eq_false_iff]
  refine Or.inl (decide_eq_false (fun q => ?_))
  have q2 := Int32.le_iff_toInt_le.mp q
  rw [e60] at q2
  unfold frX at *
  omega
theorem fr_lo {K : Int} {x : Nat → Int32} (hK : K ≤ 100000000) (h : bOK K x) : -60000000 ≤ frX x := by
  obtain ⟨h1, -, h3, -, -⟩ := h
  unfold ctX at h3
  omega
/-- the settings, the ways and the clock are as they can be -/
def setOK (m : MT) : Prop := (0 ≤ (m.1 0).toInt ∧ (m.1 0).toInt ≤ 9) ∧ (0 ≤ (m.1 1).toInt ∧ (m.1 1).toInt ≤ 5) ∧ (∃ G : Nat, G ≤ 5 ∧ m.1 2 = nI G) ∧ setS m ∧ (∀ k, k < 5 → 0 ≤ (m.1 (22 + k)).toInt ∧ (m.1 (22 + k)).toInt ≤ 9) ∧ 0 ≤ (m.1 8).toInt ∧ (m.1 8).toInt ≤ 30000
def pendM (m : MT) : Prop := pendOK (m.1 8).toInt m.2.2.1 m.2.2.2 ∧ PB (ages (m.1 8).toInt m.2.2.1 m.2.2.2) (dOr 62 m.2.1)
theorem see_M {K : Int} {m : MT} (hK : K ≤ 100000000) (hs : setOK m) (hb : beltOK K m) (hp : pendM m) : PB (ages ((m.1 8).toInt + 1) (mSee (mMove m)).2.2.1 (mCount (mSee (mMove m))).2.2.2) (dOr 62 (mSee (mMove m)).2.1) ∧ (mSee (mMove m)).2.2.1.length + m.2.2.2.length ≤ 27 := by
  obtain ⟨s0, s1, -, -, -, s8⟩ := hs
  have e8 : (m.1 8 + m.1 1).toInt = (m.1 8).toInt + (m.1 1).toInt := i_add (by omega) (by omega)
  have w := see_PB (K := K) (v32 := m.1 0) (t8 := m.1 8 + m.1 1) hK rfl s0 hb.1 hb.2.1 hb.2.2 s1 e8 hp.1 hp.2
  have k := see_len (v32 := m.1 0) (t8 := m.1 8 + m.1 1) rfl s0 s1 e8 hp.1 w
  refine ⟨w, ?_⟩
  show (m.2.2.1 ++ List.map _ _).length + _ ≤ 27
  rw [List.length_append, List.length_map]
  exact k
theorem tickOK_of {K : Int} {m : MT} (hK : K ≤ 100000000) (hs : setOK m) (hb : beltOK K m) (hp : pendM m) : TickOK m := by
  have k := (see_M hK hs hb hp).2
  refine ⟨?_, hs.2.2.1, oneU_rng (fun y hy => ?_) (apart_move hK rfl hs.1 hb.1 hb.2.1)⟩
  · have e : (mSee (mMove m)).2.2.1.length = m.2.2.1.length + ((mMove m).2.1.filter unseen).length := by
      show (m.2.2.1 ++ List.map _ _).length = _
      rw [List.length_append, List.length_map]
    omega
  · obtain ⟨x, hx, rfl⟩ := List.mem_map.mp hy
    have h1 := hb.1 x hx
    obtain ⟨a, b⟩ := fr_move hK rfl hs.1 h1
    have h2 := fr_lo hK h1
    obtain ⟨c1, -, -, c4, -⟩ := h1
    have := hs.1
    rw [a, b]
    omega
end
section
/-! what a tick keeps: settings, ways, clock -/
theorem tick_8 (m : MT) : (mTick m).1 8 = m.1 8 + 1 := by
  obtain ⟨a, -, -⟩ := do_fold (mTake (mCount (mSee (mMove m)))).2.2.2 ((mTake (mCount (mSee (mMove m)))).1, (mTake (mCount (mSee (mMove m)))).2.1)
  show upd ((mFeed (mDo (mTake (mCount (mSee (mMove m)))))).2.1.foldl outOne (hFeed (mDo (mTake (mCount (mSee (mMove m))))).1)) 8 (((mFeed (mDo (mTake (mCount (mSee (mMove m)))))).2.1.foldl outOne (hFeed (mDo (mTake (mCount (mSee (mMove m))))).1)) 8 + 1) 8 = _
  rw [pk_us, out_h _ _ _ (by omega)]
  congr 1
  unfold hFeed
  rw [pk_un (by decide)]
  exact a 8 (by omega)
theorem tick_way (m : MT) {k : Nat} (hk : k < 5) : (mTick m).1 (22 + k) = if k = 0 then m.1 0 else m.1 (22 + (k - 1)) := by
  obtain ⟨a, -, -⟩ := do_fold (mTake (mCount (mSee (mMove m)))).2.2.2 ((mTake (mCount (mSee (mMove m)))).1, (mTake (mCount (mSee (mMove m)))).2.1)
  show upd ((mFeed (mDo (mTake (mCount (mSee (mMove m)))))).2.1.foldl outOne (hFeed (mDo (mTake (mCount (mSee (mMove m))))).1)) 8 _ (22 + k) = _
  rw [pk_un (by omega), out_h _ _ _ (by omega)]
  unfold hFeed
  rw [pk_un (by omega)]
  refine (a (22 + k) (by omega)).trans ?_
  show hMove m.1 (22 + k) = _
  unfold hMove
  by_cases h0 : k = 0
  · subst h0
    rfl
  · rw [if_neg (by omega), if_pos (by omega), if_neg h0, show 22 + k - 1 = 22 + (k - 1) by omega]
theorem setOK_tick {m : MT} (h : setOK m) (h8 : (m.1 8).toInt ≤ 29999) : setOK (mTick m) := by
  obtain ⟨s0, s1, s2, s4, sw, s8⟩ := h
  refine ⟨by rw [tick_set m (by decide)]; exact s0, by rw [tick_set m (by decide)]; exact s1, by rw [tick_set m (by decide)]; exact s2, ?_, fun k hk => ?_, ?_⟩
  · unfold setS at s4 ⊢
    rw [tick_set m (by decide), tick_set m (by decide), tick_set m (by decide)]
    exact s4
  · rw [tick_way m hk]
    split
    · exact s0
    · exact sw _ (by omega)
  · rw [tick_8]
    have e1 : (1 : Int32).toInt = 1 := rfl
    rw [i_add (by omega) (by omega), e1]
    omega
end
section
/-! reports and plans through a tick -/
theorem pend_tick {K : Int} {m : MT} (hK : K ≤ 100000000) (hs : setOK m) (h3 : 0 ≤ (m.1 3).toInt ∧ (m.1 3).toInt ≤ 20) (hb : beltOK K m) (hp : pendM m) : pendOK ((m.1 8).toInt + 1) (mTick m).2.2.1 (mTick m).2.2.2 ∧ PB (ages ((m.1 8).toInt + 1) (mTick m).2.2.1 (mTick m).2.2.2) (dOr 62 (mSee (mMove m)).2.1) := by
  obtain ⟨w, -⟩ := see_M hK hs hb hp
  obtain ⟨s0, s1, ⟨G, hG, hg⟩, s4, sw, s8⟩ := hs
  have e8 : (m.1 8 + m.1 1).toInt = (m.1 8).toInt + (m.1 1).toInt := i_add (by omega) (by omega)
  have e20 : (20 : Int32).toInt = 20 := rfl
  have hw : ∀ k, k < 5 → 0 ≤ (hMove m.1 (22 + k)).toInt ∧ (hMove m.1 (22 + k)).toInt ≤ 9 := by
    intro k hk
    unfold hMove
    by_cases h0 : k = 0
    · subst h0
      exact s0
    · rw [if_neg (by omega), if_pos (by omega), show 22 + k - 1 = 22 + (k - 1) by omega]
      exact sw _ (by omega)
  have hr : ∀ r ∈ (mSee (mMove m)).2.2.1, ((m.1 8).toInt ≤ r.1.toInt ∧ r.1.toInt ≤ (m.1 8).toInt + 5) ∧ 0 ≤ r.2.toInt ∧ r.2.toInt ≤ 40 := by
    intro r hr
    rcases List.mem_append.mp hr with q | q
    · have := hp.1.1 r q
      omega
    · obtain ⟨x, hx, rfl⟩ := List.mem_map.mp q
      obtain ⟨hx1, hx2⟩ := List.mem_filter.mp hx
      have c := unseen_ct hK rfl s0 hb.1 x hx1 hx2
      have u := (unseen_i.mp hx2).2
      obtain ⟨y, hy, rfl⟩ := List.mem_map.mp hx1
      have l := (hb.1 y hy).1
      have hc : ctX (xMove (m.1 0) y) = 2 * frX (xMove (m.1 0) y) - lnX y := rfl
      have ef : ((xMove (m.1 0) y) 0 - 20).toInt = frX (xMove (m.1 0) y) - 20 := by
        unfold frX at *
        rw [i_sub (by omega) (by omega), e20]
      show ((m.1 8).toInt ≤ (m.1 8 + m.1 1).toInt ∧ (m.1 8 + m.1 1).toInt ≤ _) ∧ 0 ≤ ((xMove (m.1 0) y) 0 - 20).toInt ∧ ((xMove (m.1 0) y) 0 - 20).toInt ≤ 40
      rw [e8, ef]
      omega
  have hmp : ∀ r ∈ (mSee (mMove m)).2.2.1, (mkPlan (hMove m.1) r).toInt ≤ 60 := fun r q => (mkPlan_i (h := hMove m.1) hw hG hg h3 (hr r q).2).1
  have hps : ∀ p ∈ (mCount (mSee (mMove m))).2.2.2, p.toInt ≤ 60 := by
    intro p q
    obtain ⟨z, hz, rfl⟩ := List.mem_map.mp q
    have := hp.1.2 z hz
    show (z - m.1 0).toInt ≤ 60
    rw [i_sub (by omega) (by omega)]
    omega
  have w2 := ages_do (ages_take (h := hMove m.1) (s := (m.1 8).toInt) rfl (fun r q => (hr r q).1) hmp hps w)
  refine ⟨⟨fun r q => ?_, fun p q => ?_⟩, w2⟩
  · obtain ⟨q1, q2⟩ := List.mem_filter.mp q
    have k := hr r q1
    have : ¬ r.1.toInt ≤ (m.1 8).toInt := by
      intro z
      have : isDue (hMove m.1) r = true := decide_eq_true (Int32.le_iff_toInt_le.mpr z)
      simp [mCount, mSee, mMove, this] at q2
    omega
  · obtain ⟨q1, q2⟩ := List.mem_filter.mp q
    have hpos : ¬ p ≤ 0 := by simpa using q2
    have h1 : ¬ p.toInt ≤ 0 := fun z => hpos (Int32.le_iff_toInt_le.mpr z)
    have h2 : p.toInt ≤ 60 := by
      rcases List.mem_append.mp q1 with k | k
      · exact hps p k
      · obtain ⟨r, hr2, rfl⟩ := List.mem_map.mp k
        exact hmp r (List.mem_filter.mp hr2).1
    omega
end
section
/-! where the last seen box lies when boxes leave -/
theorem dOr_1 {d : Int} {z : Nat → Int32} {l : List (Nat → Int32)} (hz : z 2 = 1) : dOr d (z :: l) = dOr (ctX z) l := by
  unfold dOr
  rw [List.filter_cons, if_pos (by simpa using hz)]
  cases hl : l.filter (fun x => decide (x 2 = 1)) with
  | nil => rfl
  | cons a b => rw [List.getLast?_cons_cons, List.getLast?_cons]
theorem dOr_0 {d : Int} {z : Nat → Int32} {l : List (Nat → Int32)} (hz : ¬ z 2 = 1) : dOr d (z :: l) = dOr d l := by
  unfold dOr
  rw [List.filter_cons, if_neg (by simpa using hz)]
theorem dOr_leave : ∀ (r : List (Nat → Int32)) (d e : Int), d ≤ e → r.Pairwise (fun x y => isOut y = true → isOut x = true) → (∀ y ∈ r, isOut y = true → d ≤ ctX y) → dOr d (r.filter (fun x => !isOut x)) ≤ dOr e r := by
  intro r
  induction r with
  | nil => exact fun d e h _ _ => h
  | cons x r ih =>
    intro d e h hp hd
    obtain ⟨p1, p2⟩ := List.pairwise_cons.mp hp
    have hd2 : ∀ y ∈ r, isOut y = true → d ≤ ctX y := fun y hy => hd y (List.mem_cons_of_mem _ hy)
    by_cases ho : isOut x = true
    · rw [List.filter_cons, if_neg (by simp [ho])]
      by_cases hx : x 2 = 1
      · rw [dOr_1 hx]
        exact ih d (ctX x) (hd x List.mem_cons_self ho) p2 hd2
      · rw [dOr_0 hx]
        exact ih d e h p2 hd2
    · rw [List.filter_cons, if_pos (by simp [ho])]
      by_cases hx : x 2 = 1
      · rw [dOr_1 hx, dOr_1 hx]
        exact ih (ctX x) (ctX x) (Int.le_refl _) p2 fun y hy q => absurd (p1 y hy q) ho
      · rw [dOr_0 hx, dOr_0 hx]
        exact ih d e h p2 hd2
end
section
/-! what depends on front, length and seen only -/
theorem key_ct {x y : Nat → Int32} (h : keyX x = keyX y) : ctX x = ctX y ∧ x 2 = y 2 ∧ frX x = frX y ∧ lnX x = lnX y ∧ isOut x = isOut y := by
  have h0 : x 0 = y 0 := congrArg (fun k : Int32 × Int32 × Int32 => k.1) h
  have h1 : x 1 = y 1 := congrArg (fun k : Int32 × Int32 × Int32 => k.2.1) h
  have h2 : x 2 = y 2 := congrArg (fun k : Int32 × Int32 × Int32 => k.2.2) h
  unfold ctX frX lnX isOut
  rw [h0, h1]
  exact ⟨rfl, h2, rfl, rfl, rfl⟩
theorem dOr_key : ∀ (bs cs : List (Nat → Int32)) (d : Int), bs.map keyX = cs.map keyX → dOr d bs = dOr d cs := by
  intro bs
  induction bs with
  | nil =>
    intro cs d h
    cases cs with
    | nil => rfl
    | cons y r => cases h
  | cons x r ih =>
    intro cs d h
    cases cs with
    | nil => cases h
    | cons y t =>
      rw [List.map_cons, List.map_cons] at h
      have h1 := (List.cons.inj h).1
      have h2 := (List.cons.inj h).2
      obtain ⟨a, b, -⟩ := key_ct h1
      by_cases hx : x 2 = 1
      · rw [dOr_1 hx, dOr_1 (b ▸ hx), a]
        exact ih t _ h2
      · rw [dOr_0 hx, dOr_0 (fun q => hx (b.trans q))]
        exact ih t _ h2
end
section
/-! the boxes through a tick -/
theorem tick_key (m : MT) : (mTick m).2.1.map keyX = ((mSee (mMove m)).2.1.filter (fun x => !isOut x)).map keyX := by
  obtain ⟨-, b, -⟩ := do_fold (mTake (mCount (mSee (mMove m)))).2.2.2 ((mTake (mCount (mSee (mMove m)))).1, (mTake (mCount (mSee (mMove m)))).2.1)
  show (((mTake (mCount (mSee (mMove m)))).2.2.2.foldl doOne ((mTake (mCount (mSee (mMove m)))).1, (mTake (mCount (mSee (mMove m)))).2.1)).2.filter (fun x => !isOut x)).map keyX = _
  rw [key_filter (P := outK) out_key, key_filter (P := outK) out_key]
  exact congrArg (List.filter outK) b
theorem key_mem {bs cs : List (Nat → Int32)} (h : bs.map keyX = cs.map keyX) {y : Nat → Int32} (hy : y ∈ cs) : ∃ x ∈ bs, keyX x = keyX y := by
  have k : keyX y ∈ bs.map keyX := by
    rw [h]
    exact List.mem_map_of_mem hy
  obtain ⟨x, hx, e⟩ := List.mem_map.mp k
  exact ⟨x, hx, e⟩
theorem key_pw {R : (Nat → Int32) → (Nat → Int32) → Prop} (hR : ∀ x y z w, keyX x = keyX z → keyX y = keyX w → R x y → R z w) : ∀ (bs cs : List (Nat → Int32)), bs.map keyX = cs.map keyX → bs.Pairwise R → cs.Pairwise R := by
  intro bs
  induction bs with
  | nil =>
    intro cs h _
    cases cs with
    | nil => exact List.Pairwise.nil
    | cons y r => cases h
  | cons x r ih =>
    intro cs h hp
    cases cs with
    | nil => cases h
    | cons y t =>
      rw [List.map_cons, List.map_cons] at h
      have h1 := (List.cons.inj h).1
      have h2 := (List.cons.inj h).2
      obtain ⟨p1, p2⟩ := List.pairwise_cons.mp hp
      refine List.pairwise_cons.mpr ⟨fun z hz => ?_, ih t h2 p2⟩
      obtain ⟨w, hw, e⟩ := key_mem h2 hz
      exact hR x w y z h1 e (p1 w hw)
theorem bOK_key {K : Int} {x y : Nat → Int32} (h : keyX x = keyX y) (q : bOK K x) : bOK K y := by
  obtain ⟨e1, e2, e3, e4, -⟩ := key_ct h
  unfold bOK at q ⊢
  rw [← e1, ← e2, ← e3, ← e4]
  exact q
theorem xSee_1 (z : Nat → Int32) : frX (xSee z) = frX z ∧ lnX (xSee z) = lnX z ∧ ctX (xSee z) = ctX z ∧ ((unseen z = true ∧ (xSee z) 2 = 1) ∨ (unseen z = false ∧ (xSee z) 2 = z 2)) := by
  cases hu : unseen z with
  | true =>
    rw [xSee_yes hu]
    exact ⟨rfl, rfl, rfl, Or.inl ⟨rfl, rfl⟩⟩
  | false =>
    rw [xSee_no hu]
    exact ⟨rfl, rfl, rfl, Or.inr ⟨rfl, rfl⟩⟩
theorem out_r {x : Nat → Int32} (h1 : 4 ≤ lnX x ∧ lnX x ≤ 30) (h2 : -100000000 ≤ frX x ∧ frX x ≤ 1000) : isOut x = true ↔ 100 ≤ frX x - lnX x := by
  have e : (x 0 - x 1).toInt = frX x - lnX x := by
    unfold frX lnX at *
    exact i_sub (by omega) (by omega)
  have e100 : (100 : Int32).toInt = 100 := rfl
  unfold isOut
  simp only [decide_eq_true_eq]
  rw [Int32.le_iff_toInt_le, e, e100]
/-- a box that moved on and that may be seen now -/
theorem moved_see {K : Int} {m : MT} (hK : K ≤ 100000000) (hs : setOK m) (hb : beltOK K m) : ∀ y ∈ (mSee (mMove m)).2.1, (4 ≤ lnX y ∧ lnX y ≤ 30) ∧ (-100000000 ≤ frX y ∧ frX y ≤ 159) ∧ (y 2 = 0 ∨ y 2 = 1) ∧ -K ≤ ctX y ∧ (y 2 = 0 → ctX y ≤ 34) := by
  intro y hy
  obtain ⟨z, hz, rfl⟩ := List.mem_map.mp hy
  obtain ⟨x, hx, rfl⟩ := List.mem_map.mp hz
  have h1 := hb.1 x hx
  obtain ⟨a, b⟩ := fr_move hK rfl hs.1 h1
  have hlo := fr_lo hK h1
  have hv := hs.1
  obtain ⟨h1, h2, h3, h4, h5⟩ := h1
  have e2 : (xMove (m.1 0) x) 2 = x 2 := rfl
  obtain ⟨c1, c2, c3, c4⟩ := xSee_1 (xMove (m.1 0) x)
  have hz2 : ctX (xMove (m.1 0) x) = 2 * frX (xMove (m.1 0) x) - lnX (xMove (m.1 0) x) := rfl
  have hx2 : ctX x = 2 * frX x - lnX x := rfl
  rw [c1, c2, c3]
  refine ⟨by omega, by omega, ?_, by omega, fun q => ?_⟩
  · rcases c4 with ⟨-, k⟩ | ⟨-, k⟩
    · exact Or.inr k
    · rw [k, e2]
      exact h2
  · rcases c4 with ⟨-, k⟩ | ⟨k1, k⟩
    · rw [k] at q
      exact absurd q (by decide)
    · rw [k] at q
      have k2 : ¬ (20 ≤ frX (xMove (m.1 0) x)) := fun w => by
        have := unseen_i.mpr ⟨q, w⟩
        rw [this] at k1
        cases k1
      omega
theorem apart_see {bs : List (Nat → Int32)} (h : bs.Pairwise apart) : (bs.map xSee).Pairwise apart := by
  rw [List.pairwise_map]
  refine h.imp (fun {x y} hxy => ?_)
  unfold apart at hxy ⊢
  rw [(xSee_1 x).1, (xSee_1 x).2.1, (xSee_1 y).1]
  exact hxy
theorem seenP_see {bs : List (Nat → Int32)} (h01 : ∀ x ∈ bs, x 2 = 0 ∨ x 2 = 1) (hl : ∀ x ∈ bs, 4 ≤ lnX x) (ha : bs.Pairwise apart) (h : seenP bs) : seenP (bs.map xSee) := by
  unfold seenP
  rw [List.pairwise_map]
  refine List.Pairwise.imp_of_mem (fun {x y} hx hy hxy q => ?_) (List.pairwise_and_iff.mpr ⟨ha, h⟩)
  obtain ⟨p1, p2⟩ := hxy
  rcases (xSee_1 x).2.2.2 with ⟨-, k⟩ | ⟨kx, k⟩
  · exact k
  · rw [k]
    rcases h01 x hx with z | z
    · exfalso
      have nx : ¬ 20 ≤ frX x := fun w => by
        have := unseen_i.mpr ⟨z, w⟩
        rw [this] at kx
        cases kx
      rcases (xSee_1 y).2.2.2 with ⟨ky, -⟩ | ⟨-, ky⟩
      · have := (unseen_i.mp ky).2
        have := hl x hx
        unfold apart at p1
        omega
      · rw [ky] at q
        have := p2 q
        rw [z] at this
        exact absurd this (by decide)
    · exact z
theorem beltOK_tick {K : Int} {m : MT} (hK : K ≤ 100000000) (hs : setOK m) (hb : beltOK K m) : beltOK K (mTick m) ∧ ∀ x ∈ (mTick m).2.1, ctX x ≤ 228 := by
  have h0 := moved_see hK hs hb
  have hk := (tick_key m).symm
  have h1 : ∀ x ∈ (mSee (mMove m)).2.1.filter (fun x => !isOut x), bOK K x ∧ ctX x ≤ 228 := by
    intro x hx
    obtain ⟨x1, x2⟩ := List.mem_filter.mp hx
    obtain ⟨a, b, d, e, i⟩ := h0 x x1
    have no : ¬ 100 ≤ frX x - lnX x := fun w => by
      have := (out_r a ⟨b.1, by omega⟩).mpr w
      rw [this] at x2
      cases x2
    have hc : ctX x = 2 * frX x - lnX x := rfl
    exact ⟨⟨a, d, e, by omega, i⟩, by omega⟩
  have m01 : ∀ x ∈ (mMove m).2.1, x 2 = 0 ∨ x 2 = 1 := by
    intro y hy
    obtain ⟨x, hx, rfl⟩ := List.mem_map.mp hy
    exact (hb.1 x hx).2.1
  have mln : ∀ x ∈ (mMove m).2.1, 4 ≤ lnX x := by
    intro y hy
    obtain ⟨x, hx, rfl⟩ := List.mem_map.mp hy
    exact (hb.1 x hx).1.1
  have ma : (mMove m).2.1.Pairwise apart := apart_move hK rfl hs.1 hb.1 hb.2.1
  have sa : (mSee (mMove m)).2.1.Pairwise apart := apart_see ma
  have ss : seenP (mSee (mMove m)).2.1 := seenP_see m01 mln ma (seenP_move hb.2.2)
  refine ⟨⟨fun y hy => ?_, ?_, ?_⟩, fun y hy => ?_⟩
  · obtain ⟨x, hx, e⟩ := key_mem hk hy
    exact bOK_key e (h1 x hx).1
  · refine key_pw (fun x y z w e1 e2 hxy => ?_) _ _ hk (sa.filter _)
    obtain ⟨-, -, a3, a4, -⟩ := key_ct e1
    obtain ⟨-, -, b3, -, -⟩ := key_ct e2
    unfold apart at hxy ⊢
    omega
  · refine key_pw (R := fun x y => y 2 = 1 → x 2 = 1) (fun x y z w e1 e2 hxy q => ?_) _ _ hk (ss.filter _)
    obtain ⟨-, a2, -⟩ := key_ct e1
    obtain ⟨-, b2, -⟩ := key_ct e2
    rw [← a2]
    exact hxy (b2.trans q)
  · obtain ⟨x, hx, e⟩ := key_mem hk hy
    rw [← (key_ct e).1]
    exact (h1 x hx).2
theorem pendM_tick {K : Int} {m : MT} (hK : K ≤ 100000000) (hs : setOK m) (h3 : 0 ≤ (m.1 3).toInt ∧ (m.1 3).toInt ≤ 20) (hb : beltOK K m) (hp : pendM m) : pendM (mTick m) := by
  obtain ⟨w1, w2⟩ := pend_tick hK hs h3 hb hp
  have h0 := moved_see hK hs hb
  have s8 := hs.2.2.2.2.2
  have e1 : (1 : Int32).toInt = 1 := rfl
  have e8 : ((mTick m).1 8).toInt = (m.1 8).toInt + 1 := by
    rw [tick_8, i_add (by omega) (by omega), e1]
  have ma : (mMove m).2.1.Pairwise apart := apart_move hK rfl hs.1 hb.1 hb.2.1
  have sa : (mSee (mMove m)).2.1.Pairwise apart := apart_see ma
  unfold pendM
  rw [e8]
  refine ⟨w1, w2.low ?_⟩
  rw [← dOr_key _ _ 62 (tick_key m).symm]
  refine dOr_leave _ 62 62 (Int.le_refl _) (List.Pairwise.imp_of_mem (fun {x y} hx hy hxy q => ?_) sa) (fun y hy q => ?_)
  · obtain ⟨a1, a2, -⟩ := h0 x hx
    obtain ⟨b1, b2, -⟩ := h0 y hy
    have := (out_r b1 ⟨b2.1, by omega⟩).mp q
    unfold apart at hxy
    exact (out_r a1 ⟨a2.1, by omega⟩).mpr (by omega)
  · obtain ⟨b1, b2, -⟩ := h0 y hy
    have := (out_r b1 ⟨b2.1, by omega⟩).mp q
    have hc : ctX y = 2 * frX y - lnX y := rfl
    omega
end
section
/-! a belt as it can be: it stays so through ticks, also those that are tried -/
def goodM (K : Int) (m : MT) : Prop := setOK m ∧ beltOK K m ∧ pendM m ∧ MarkOK m ∧ (∀ x ∈ m.2.1, ctX x ≤ 228) ∧ rng (m.1 18, m.1 17) (28 * (m.1 8).toInt)
theorem goodM.tick {K : Int} {m : MT} (hK : K ≤ 100000000) (h : goodM K m) (h8 : (m.1 8).toInt ≤ 29999) : goodM K (mTick m) ∧ ((mTick m).1 8).toInt = (m.1 8).toInt + 1 := by
  obtain ⟨hs, hb, hp, hm, hc, hr⟩ := h
  have s8 := hs.2.2.2.2.2
  have e1 : (1 : Int32).toInt = 1 := rfl
  have e8 : ((mTick m).1 8).toInt = (m.1 8).toInt + 1 := by
    rw [tick_8, i_add (by omega) (by omega), e1]
  obtain ⟨b1, b2⟩ := beltOK_tick hK hs hb
  have hl := take_len (tickOK_of hK hs hb hp)
  have t1 := tick_s m
  have hS := hs.2.2.2.1
  obtain ⟨k1, -, k3, -⟩ := marks_all hS.1 (mTake (mCount (mSee (mMove m)))).2.2.2 hr hr (by omega) (relS_0 rfl (Int.le_refl _))
  obtain ⟨f1, -, -⟩ := feed_all hS.1.1 hS.2.1 hS.2.2 k1 k1 (relS_0 rfl (Int.le_refl _))
  rw [← t1] at f1
  refine ⟨⟨setOK_tick hs h8, b1, pendM_tick hK hs hm.1 hb hp, hm.tick, b2, ?_⟩, e8⟩
  rw [e8]
  obtain ⟨g1, g2, g3⟩ := f1
  exact ⟨g1, g2, by omega⟩
theorem goodM.ticks {K : Int} (hK : K ≤ 100000000) : ∀ (n : Nat) {m : MT}, goodM K m → (m.1 8).toInt + n ≤ 30000 → goodM K (mTicks n m) ∧ ((mTicks n m).1 8).toInt = (m.1 8).toInt + n := by
  intro n
  induction n with
  | zero =>
    intro m h _
    exact ⟨h, by show (m.1 8).toInt = (m.1 8).toInt + ((0 : Nat) : Int); omega⟩
  | succ n ih =>
    intro m h h8
    obtain ⟨a, b⟩ := h.tick hK (by omega)
    obtain ⟨c, d⟩ := ih a (by omega)
    exact ⟨c, by show ((mTicks n (mTick m)).1 8).toInt = _; omega⟩
theorem goodM.ok {K : Int} {m : MT} (hK : K ≤ 100000000) (h : goodM K m) (n : Nat) (h8 : (m.1 8).toInt + n ≤ 30000) : TicksOK n m := by
  intro k hk
  obtain ⟨⟨a, b, c, -⟩, -⟩ := h.ticks hK k (by omega)
  exact tickOK_of hK a b c
theorem upd_P {h : Nat → Int32} {i j : Nat} {v : Int32} (P : Int32 → Prop) (a : P (h j)) (b : j = i → P v) : P (upd h i v j) := by
  unfold upd
  split
  · rename_i e
    exact b e
  · exact a
theorem goodM.put {K : Int} {m : MT} (h : goodM K m) {i : Nat} {v : Int32} (hi : i < 22) (n8 : i ≠ 8) (n17 : i ≠ 17)
    (c0 : i = 0 → 0 ≤ v.toInt ∧ v.toInt ≤ 9) (c1 : i = 1 → 0 ≤ v.toInt ∧ v.toInt ≤ 5) (c2 : i = 2 → ∃ G : Nat, G ≤ 5 ∧ v = nI G) (c3 : i = 3 → 0 ≤ v.toInt ∧ v.toInt ≤ 20)
    (c4 : i = 4 → 1 ≤ v.toInt ∧ v.toInt ≤ 20) (c5 : i = 5 → 1 ≤ v.toInt ∧ v.toInt ≤ 60) (c6 : i = 6 → 0 ≤ v.toInt ∧ v.toInt ≤ 9) (c7 : i = 7 → 0 ≤ v.toInt ∧ v.toInt ≤ 9) (c18 : i = 18 → 0 ≤ v.toInt ∧ v.toInt ≤ 60) : goodM K (upd m.1 i v, m.2) := by
  obtain ⟨⟨s0, s1, s2, ⟨s4, s5, s6⟩, sw, s8⟩, hb, hp, ⟨m3, m7, mx⟩, hc, ⟨r18, r17⟩⟩ := h
  have e8 : upd m.1 i v 8 = m.1 8 := pk_un (fun q => n8 q.symm)
  have e17 : upd m.1 i v 17 = m.1 17 := pk_un (fun q => n17 q.symm)
  refine ⟨⟨upd_P (fun z => 0 ≤ z.toInt ∧ z.toInt ≤ 9) s0 fun q => c0 q.symm, upd_P (fun z => 0 ≤ z.toInt ∧ z.toInt ≤ 5) s1 fun q => c1 q.symm, upd_P (fun z => ∃ G : Nat, G ≤ 5 ∧ z = nI G) s2 fun q => c2 q.symm,
    ⟨upd_P (fun z => 1 ≤ z.toInt ∧ z.toInt ≤ 20) s4 fun q => c4 q.symm, upd_P (fun z => 1 ≤ z.toInt ∧ z.toInt ≤ 60) s5 fun q => c5 q.symm, upd_P (fun z => 0 ≤ z.toInt ∧ z.toInt ≤ 9) s6 fun q => c6 q.symm⟩, fun k hk => ?_, ?_⟩, hb, ?_,
    ⟨upd_P (fun z => 0 ≤ z.toInt ∧ z.toInt ≤ 20) m3 fun q => c3 q.symm, upd_P (fun z => 0 ≤ z.toInt ∧ z.toInt ≤ 9) m7 fun q => c7 q.symm, mx⟩, hc, ?_⟩
  · show 0 ≤ (upd m.1 i v (22 + k)).toInt ∧ (upd m.1 i v (22 + k)).toInt ≤ 9
    rw [pk_un (by omega)]
    exact sw k hk
  · show 0 ≤ (upd m.1 i v 8).toInt ∧ (upd m.1 i v 8).toInt ≤ 30000
    rw [e8]
    exact s8
  · show pendOK (upd m.1 i v 8).toInt _ _ ∧ PB (ages (upd m.1 i v 8).toInt _ _) _
    rw [e8]
    exact hp
  · show rng (upd m.1 i v 18, upd m.1 i v 17) (28 * (upd m.1 i v 8).toInt)
    rw [e8, e17]
    exact ⟨upd_P (fun z => 0 ≤ z.toInt ∧ z.toInt ≤ 60) r18 fun q => c18 q.symm, r17⟩
theorem goodM.all {K : Int} {m : MT} (hK : K ≤ 100000000) (h : goodM K m) (h8 : (m.1 8).toInt ≤ 29000) : AllOK m := by
  intro t ht
  refine ⟨h.ok hK t (by omega), fun k hk => ?_, fun k hk => ?_⟩
  · have g : goodM K (withH m 2 (nI k)) := h.put (by omega) (by omega) (by omega) (fun q => by omega) (fun q => by omega) (fun _ => ⟨k, hk, rfl⟩) (fun q => by omega) (fun q => by omega) (fun q => by omega) (fun q => by omega) (fun q => by omega) (fun q => by omega)
    refine g.ok hK t ?_
    show (upd m.1 2 (nI k) 8).toInt + _ ≤ _
    rw [pk_un (by omega)]
    omega
  · have g : goodM K (withH m 18 (nI k)) := h.put (by omega) (by omega) (by omega) (fun q => by omega) (fun q => by omega) (fun q => by omega) (fun q => by omega) (fun q => by omega) (fun q => by omega) (fun q => by omega) (fun q => by omega) (fun _ => by rw [nI_toInt (by omega)]; omega)
    refine g.ok hK t ?_
    show (upd m.1 18 (nI k) 8).toInt + _ ≤ _
    rw [pk_un (by omega)]
    omega
theorem goodM.need {K : Int} {m : MT} (hK : K ≤ 100000000) (h : goodM K m) (h8 : (m.1 8).toInt ≤ 29000) : NeedOK m := by
  refine need_ok h.1.2.2.2.1 ?_ (h.all hK h8)
  have := h.2.2.2.2.2.2
  simp only at this
  omega
theorem goodM.len {K : Int} {m : MT} (h : goodM K m) : ∀ x ∈ m.2.1, okLen (x 1) = true := by
  intro x hx
  have k := (h.2.1.1 x hx).1
  unfold lnX at k
  unfold okLen
  have e4 : (4 : Int32).toInt = 4 := rfl
  have e30 : (30 : Int32).toInt = 30 := rfl
  simp only [Bool.and_eq_true, decide_eq_true_eq, Int32.le_iff_toInt_le, e4, e30]
  exact k
end
section
/-! a belt as it can be, through the changes: the clock is at most 20000 behind each call -/
def goodT (K : Int) (m : MT) : Prop := goodM K m ∧ (m.1 8).toInt ≤ 20000
theorem bOK.mono {K L : Int} {x : Nat → Int32} (hKL : K ≤ L) (h : bOK K x) : bOK L x := by
  obtain ⟨a, b, c, d, e⟩ := h
  exact ⟨a, b, by omega, d, e⟩
theorem goodM.mono {K L : Int} {m : MT} (hKL : K ≤ L) (h : goodM K m) : goodM L m := ⟨h.1, ⟨fun x hx => (h.2.1.1 x hx).mono hKL, h.2.1.2⟩, h.2.2⟩
theorem goodT.mono {K L : Int} {m : MT} (hKL : K ≤ L) (h : goodT K m) : goodT L m := ⟨h.1.mono hKL, h.2⟩
/-- a setting -/
theorem goodT.set {K : Int} {m : MT} (h : goodT K m) (k v : Int32) : goodT K (mSet k v m).2 := by
  unfold mSet
  by_cases ho : okS k v = true
  · rw [if_pos ho]
    unfold okS at ho
    simp only [Bool.and_eq_true, decide_eq_true_eq] at ho
    obtain ⟨⟨⟨k1, k2⟩, v1⟩, v2⟩ := ho
    have e0 : (0 : Int32).toInt = 0 := rfl
    have e8 : (8 : Int32).toInt = 8 := rfl
    rw [Int32.le_iff_toInt_le, e0] at k1
    rw [Int32.lt_iff_toInt_lt, e8] at k2
    have hi : k.toNatClampNeg < 8 := by
      unfold Int32.toNatClampNeg
      omega
    generalize k.toNatClampNeg = i at *
    rw [Int32.le_iff_toInt_le] at v1 v2
    have c : ∀ j : Nat, j < 8 → i = j → (lowS j).toInt ≤ v.toInt ∧ v.toInt ≤ (highS j).toInt := fun j _ e => by subst e; exact ⟨v1, v2⟩
    refine ⟨h.1.put (by omega) (by omega) (by omega) (fun e => c 0 (by omega) e) (fun e => c 1 (by omega) e) (fun e => ?_) (fun e => c 3 (by omega) e) (fun e => c 4 (by omega) e) (fun e => c 5 (by omega) e) (fun e => c 6 (by omega) e) (fun e => c 7 (by omega) e) (fun e => by omega), ?_⟩
    · have q : 0 ≤ v.toInt ∧ v.toInt ≤ 5 := c 2 (by omega) e
      exact ⟨v.toInt.toNat, by omega, nI_of_int (by omega) (by omega)⟩
    · show (upd m.1 i v 8).toInt ≤ 20000
      rw [pk_un (by omega)]
      exact h.2
  · rw [if_neg ho]
    exact h
/-- ticks -/
theorem goodT.pass {K : Int} {m : MT} (hK : K ≤ 100000000) (h : goodT K m) (t : Int32) : goodT K (mPass t m).2 := by
  unfold mPass
  by_cases ho : okT t = true
  · rw [if_pos ho]
    unfold okT at ho
    simp only [Bool.and_eq_true, decide_eq_true_eq] at ho
    obtain ⟨t1, t2⟩ := ho
    have e1 : (1 : Int32).toInt = 1 := rfl
    have e99 : (99 : Int32).toInt = 99 := rfl
    have e20 : (20000 : Int32).toInt = 20000 := rfl
    rw [Int32.le_iff_toInt_le] at t1 t2
    rw [e1] at t1
    rw [e99] at t2
    have s8 := h.1.1.2.2.2.2.2
    have h8 := h.2
    by_cases hc : 20000 < m.1 8 + t
    · rw [if_pos hc]
      exact h
    · rw [if_neg hc]
      rw [Int32.lt_iff_toInt_lt, i_add (by omega) (by omega), e20] at hc
      have hn : (t.toNatClampNeg : Int) = t.toInt := by
        unfold Int32.toNatClampNeg
        omega
      obtain ⟨a, b⟩ := h.1.ticks hK t.toNatClampNeg (by omega)
      exact ⟨a, by show ((mTicks t.toNatClampNeg m).1 8).toInt ≤ 20000; omega⟩
  · rw [if_neg ho]
    exact h
theorem dOr_add {d : Int} : ∀ (bs : List (Nat → Int32)) (x : Nat → Int32), ¬ x 2 = 1 → dOr d (bs ++ [x]) = dOr d bs := by
  intro bs x hx
  unfold dOr
  rw [List.filter_append, show [x].filter (fun x => decide (x 2 = 1)) = [] by rw [List.filter_cons, if_neg (by simpa using hx)]; rfl, List.append_nil]
/-- a box that arrives -/
theorem goodT.arrive {K : Int} {m : MT} (hK : 30 ≤ K) (hK2 : K ≤ 100000000) (h : goodT K m) (v : Int32) : goodT K (mArrive v m).2 := by
  unfold mArrive
  by_cases ho : okLen v = true
  · rw [if_pos ho]
    have hv := okLen_i ho
    by_cases hl : m.2.1.length = 8
    · rw [if_pos hl]
      exact h
    · rw [if_neg hl]
      by_cases hn : nearIn m.2.1 = true
      · rw [if_pos hn]
        exact h
      · rw [if_neg hn]
        obtain ⟨g, h8⟩ := h
        have e0 : (0 : Int32).toInt = 0 := rfl
        have ef : frX (newX v (m.1 10)) = 0 := rfl
        have el : lnX (newX v (m.1 10)) = v.toInt := rfl
        have ec : ctX (newX v (m.1 10)) = 2 * frX (newX v (m.1 10)) - lnX (newX v (m.1 10)) := rfl
        have e2 : newX v (m.1 10) 2 = 0 := rfl
        have g2 : goodM K (upd m.1 10 (m.1 10 + 1), m.2) := g.put (by omega) (by omega) (by omega) (fun e => by omega) (fun e => by omega) (fun e => by omega) (fun e => by omega) (fun e => by omega) (fun e => by omega) (fun e => by omega) (fun e => by omega) (fun e => by omega)
        have hbk : ∀ x ∈ m.2.1, apart x (newX v (m.1 10)) := by
          intro x hx
          unfold apart
          rw [ef]
          unfold nearIn at hn
          cases hg : m.2.1.getLast? with
          | none =>
            rw [List.getLast?_eq_none_iff] at hg
            rw [hg] at hx
            cases hx
          | some y =>
            rw [hg] at hn
            simp only [decide_eq_true_eq] at hn
            obtain ⟨d, hd⟩ := List.getLast?_eq_some_iff.mp hg
            have hy := g.2.1.1 y (by rw [hd]; simp)
            have e1 : (1 : Int32).toInt = 1 := rfl
            rw [Int32.lt_iff_toInt_lt, bk_i hK2 hy, e1] at hn
            rw [hd] at hx
            rcases List.mem_append.mp hx with q | q
            · have hp := g.2.1.2.1
              rw [hd] at hp
              have := (List.pairwise_append.mp hp).2.2 x q y (by simp)
              have hyl := hy.1
              unfold apart at this
              omega
            · rw [List.mem_singleton] at q
              subst q
              omega
        obtain ⟨q1, ⟨q2, q3, q4⟩, q5, q6, q7, q8⟩ := g2
        refine ⟨⟨q1, ⟨fun x hx => ?_, ?_, ?_⟩, ?_, ⟨q6.1, q6.2.1, fun x hx => ?_⟩, fun x hx => ?_, q8⟩, ?_⟩
        · rcases List.mem_append.mp hx with q | q
          · exact q2 x q
          · rw [List.mem_singleton] at q
            subst q
            exact ⟨by omega, Or.inl rfl, by omega, by omega, fun _ => by omega⟩
        · exact List.pairwise_append.mpr ⟨q3, List.pairwise_singleton _ _, fun x hx y hy => by rw [List.mem_singleton] at hy; subst hy; exact hbk x hx⟩
        · exact List.pairwise_append.mpr ⟨q4, List.pairwise_singleton _ _, fun x hx y hy k => by rw [List.mem_singleton] at hy; subst hy; rw [e2] at k; exact absurd k (by decide)⟩
        · refine ⟨q5.1, ?_⟩
          have k := q5.2
          show PB _ (dOr 62 (m.2.1 ++ [newX v (m.1 10)]))
          rw [dOr_add _ _ (by rw [e2]; decide)]
          exact k
        · rcases List.mem_append.mp hx with q | q
          · exact q6.2.2 x q
          · rw [List.mem_singleton] at q
            subst q
            exact Or.inl rfl
        · rcases List.mem_append.mp hx with q | q
          · exact q7 x q
          · rw [List.mem_singleton] at q
            subst q
            omega
        · show (upd m.1 10 (m.1 10 + 1) 8).toInt ≤ 20000
          rw [pk_un (by omega)]
          exact h8
  · rw [if_neg ho]
    exact h
theorem halfD_p : ∀ n : Fin 27, (halfD (nI n.val)).toInt = (n.val : Int) / 2 := by decide +kernel
theorem halfD_n : ∀ n : Fin 27, (halfD (-(nI n.val))).toInt = -(((n.val : Int) + 1) / 2) := by decide +kernel
theorem halfD_i {d : Int32} (h1 : -26 ≤ d.toInt) (h2 : d.toInt ≤ 26) : 2 * (halfD d).toInt ≤ d.toInt ∧ d.toInt ≤ 2 * (halfD d).toInt + 1 := by
  by_cases h : 0 ≤ d.toInt
  · obtain ⟨n, hn⟩ := Int.eq_ofNat_of_zero_le h
    have e := nI_of_int hn (by omega)
    have k := halfD_p ⟨n, by omega⟩
    rw [← e] at k
    simp only at k
    omega
  · obtain ⟨n, hn⟩ := Int.eq_ofNat_of_zero_le (a := - d.toInt) (by omega)
    have e : -d = nI n := nI_of_int (by rw [i_neg (by omega)]; exact hn) (by omega)
    have e2 : d = -(nI n) := by rw [← e, Int32.neg_neg]
    have k := halfD_n ⟨n, by omega⟩
    simp only at k
    rw [← e2] at k
    omega
theorem pw_mid {R : (Nat → Int32) → (Nat → Int32) → Prop} {d r : List (Nat → Int32)} {x y : Nat → Int32} (h : (d ++ x :: r).Pairwise R) (h1 : ∀ a ∈ d, R a y) (h2 : ∀ b ∈ r, R y b) : (d ++ y :: r).Pairwise R := by
  obtain ⟨a, b, c⟩ := List.pairwise_append.mp h
  obtain ⟨b1, b2⟩ := List.pairwise_cons.mp b
  refine List.pairwise_append.mpr ⟨a, List.pairwise_cons.mpr ⟨h2, b2⟩, fun u hu w hw => ?_⟩
  rcases List.mem_cons.mp hw with rfl | hw
  · exact h1 u hu
  · exact c u hu w (List.mem_cons_of_mem _ hw)
theorem dOr_mid {x y : Nat → Int32} (h2 : y 2 = x 2) (hc : ctX y ≤ ctX x) (r : List (Nat → Int32)) : ∀ (d : List (Nat → Int32)) (e : Int), dOr e (d ++ y :: r) ≤ dOr e (d ++ x :: r) := by
  intro d
  induction d with
  | nil =>
    intro e
    by_cases hx : x 2 = 1
    · rw [List.nil_append, List.nil_append, dOr_1 hx, dOr_1 (h2.trans hx)]
      exact dOr_le hc r
    · rw [List.nil_append, List.nil_append, dOr_0 hx, dOr_0 (fun q => hx (h2.symm.trans q))]
      exact Int.le_refl _
  | cons z d ih =>
    intro e
    by_cases hz : z 2 = 1
    · rw [List.cons_append, List.cons_append, dOr_1 hz, dOr_1 hz]
      exact ih _
    · rw [List.cons_append, List.cons_append, dOr_0 hz, dOr_0 hz]
      exact ih _
/-- a box that is turned -/
theorem goodT.turnAt {K : Int} {m : MT} (hK : K ≤ 90000000) (h : goodT K m) (k : Nat) (v : Int32) : goodT (K + 1) (mTurnAt k v m).2 := by
  have hup := h.mono (L := K + 1) (by omega)
  unfold mTurnAt
  cases hx : m.2.1[k]? with
  | none => exact hup
  | some x =>
    by_cases ho : okLen v = true
    · simp only [if_pos ho]
      by_cases hr : roomT (m.2.1.take k) x (m.2.1.drop (k + 1)) v = true
      · rw [if_pos hr]
        have hv := okLen_i ho
        obtain ⟨hk, hxe⟩ := List.getElem?_eq_some_iff.mp hx
        have hcut : m.2.1 = m.2.1.take k ++ x :: m.2.1.drop (k + 1) := by
          rw [← hxe, List.getElem_cons_drop, List.take_append_drop]
        obtain ⟨g, h8⟩ := hup
        have g0 := h.1
        obtain ⟨q1, ⟨q2, q3, q4⟩, q5, q6, q7, q8⟩ := g
        have p2 := g0.2.1.1
        rw [hcut] at q2 q3 q4 q7 p2
        have q5b := q5.2
        have q6b := q6.2.2
        rw [hcut] at q5b q6b
        generalize m.2.1.take k = d at *
        generalize m.2.1.drop (k + 1) = r at *
        have bx := p2 x (by simp)
        have cx := q7 x (by simp)
        have ec : ctX x = 2 * frX x - lnX x := rfl
        obtain ⟨b1, b2, b3, b4, b5⟩ := bx
        have eby : (v - x 1).toInt = v.toInt - lnX x := by
          unfold lnX at *
          exact i_sub (by omega) (by omega)
        have eh := halfD_i (d := v - x 1) (by omega) (by omega)
        have ef : (frontT x v).toInt = frX x + (halfD (v - x 1)).toInt := by
          unfold frontT frX at *
          exact i_add (by omega) (by omega)
        have yf : frX (xTurn x v) = frX x + (halfD (v - x 1)).toInt := ef
        have yl : lnX (xTurn x v) = v.toInt := rfl
        have yc : ctX (xTurn x v) = 2 * frX (xTurn x v) - lnX (xTurn x v) := rfl
        have y2 : (xTurn x v) 2 = x 2 := rfl
        have y3 : (xTurn x v) 3 = x 3 := rfl
        have lo := fr_lo (K := K) (x := x) (by omega) ⟨b1, b2, b3, b4, b5⟩
        have by_ : bOK (K + 1) (xTurn x v) := ⟨by omega, by rw [y2]; exact b2, by omega, by omega, fun z => by rw [y2] at z; have := b5 z; omega⟩
        unfold roomT at hr
        rw [Bool.and_eq_true] at hr
        obtain ⟨r1, r2⟩ := hr
        have a1 : ∀ a ∈ d, apart a (xTurn x v) := by
          intro a ha
          unfold apart
          cases hg : d.getLast? with
          | none =>
            rw [List.getLast?_eq_none_iff] at hg
            rw [hg] at ha
            cases ha
          | some y =>
            rw [hg] at r1
            simp only [decide_eq_true_eq] at r1
            obtain ⟨d2, hd⟩ := List.getLast?_eq_some_iff.mp hg
            have hy := p2 y (by rw [hd]; simp)
            have e1 : (1 : Int32).toInt = 1 := rfl
            have ey := bk_i (K := K) (by omega) hy
            have hyl := hy.1
            have loy := fr_lo (K := K) (by omega) hy
            have hy4 := hy.2.2.2.1
            rw [Int32.le_iff_toInt_le, i_sub (by rw [ey, ef]; omega) (by rw [ey, ef]; omega), ey, ef, e1] at r1
            rw [hd] at ha
            rcases List.mem_append.mp ha with q | q
            · have hp := (List.pairwise_append.mp q3).1
              rw [hd] at hp
              have := (List.pairwise_append.mp hp).2.2 a q y (by simp)
              unfold apart at this
              omega
            · rw [List.mem_singleton] at q
              subst q
              omega
        have a2 : ∀ b ∈ r, apart (xTurn x v) b := by
          intro b hb
          unfold apart
          cases r with
          | nil => cases hb
          | cons y r2 =>
            simp only [decide_eq_true_eq] at r2
            have hy := p2 y (by simp)
            have hyl := hy.1
            have loy := fr_lo (K := K) (by omega) hy
            have hy4 := hy.2.2.2.1
            have e1 : (1 : Int32).toInt = 1 := rfl
            have ev : (frontT x v - v).toInt = (frontT x v).toInt - v.toInt := i_sub (by omega) (by omega)
            have ey : (frontT x v - v - y 0).toInt = (frontT x v).toInt - v.toInt - frX y := by
              unfold frX at *
              rw [i_sub (by omega) (by omega), ev]
            rw [Int32.le_iff_toInt_le, ey, e1] at r2
            rcases List.mem_cons.mp hb with q | q
            · subst q
              omega
            · have hp := (List.pairwise_cons.mp (List.pairwise_append.mp q3).2.1).2
              have := (List.pairwise_cons.mp hp).1 b q
              unfold apart at this
              omega
        refine ⟨⟨q1, ⟨fun z hz => ?_, pw_mid q3 a1 a2, pw_mid q4 (fun a ha z => ?_) (fun b hb z => ?_)⟩, ⟨q5.1, q5b.low (dOr_mid y2 (by omega) r d 62)⟩, ⟨q6.1, q6.2.1, fun z hz => ?_⟩, fun z hz => ?_, q8⟩, h8⟩
        · rcases List.mem_append.mp hz with q | q
          · exact q2 z (List.mem_append_left _ q)
          · rcases List.mem_cons.mp q with q | q
            · rw [q]
              exact by_
            · exact q2 z (List.mem_append_right _ (List.mem_cons_of_mem _ q))
        · rw [y2] at z
          exact (List.pairwise_append.mp q4).2.2 a ha x List.mem_cons_self z
        · rw [y2]
          exact (List.pairwise_cons.mp (List.pairwise_append.mp q4).2.1).1 b hb z
        · rcases List.mem_append.mp hz with q | q
          · exact q6b z (List.mem_append_left _ q)
          · rcases List.mem_cons.mp q with q | q
            · rw [q, y3]
              exact q6b x (by simp)
            · exact q6b z (List.mem_append_right _ (List.mem_cons_of_mem _ q))
        · rcases List.mem_append.mp hz with q | q
          · exact q7 z (List.mem_append_left _ q)
          · rcases List.mem_cons.mp q with q | q
            · rw [q]
              omega
            · exact q7 z (List.mem_append_right _ (List.mem_cons_of_mem _ q))
      · rw [if_neg hr]
        exact hup
    · simp only [if_neg ho]
      exact hup
theorem goodT.turn {K : Int} {m : MT} (hK : K ≤ 90000000) (h : goodT K m) (b v : Int32) : goodT (K + 1) (mTurn b v m).2 := by
  unfold mTurn
  split
  · exact h.mono (by omega)
  · exact h.turnAt hK _ v
theorem goodT.all {K : Int} {m : MT} (hK : K ≤ 100000000) (h : goodT K m) : AllOK m := h.1.all hK (by have := h.2; omega)
theorem goodT.ok {K : Int} {m : MT} (hK : K ≤ 100000000) (h : goodT K m) (n : Nat) (hn : n ≤ 99) : TicksOK n m := h.1.ok hK n (by have := h.2; omega)
theorem goodT.need {K : Int} {m : MT} (hK : K ≤ 100000000) (h : goodT K m) : NeedOK m := h.1.need hK (by have := h.2; omega)
end
section
/-! orders, and the whole state -/
/-- the whole state as it can be -/
def goodS (K : Int) (S : ST) : Prop := goodT K S.1 ∧ (∀ m ∈ S.2.1, goodT K m) ∧ (∀ k m, S.2.2.1 k = some m → goodT K m) ∧ padOK S.2.2.2 ∧ S.2.2.2.length ≤ 60
theorem goodS.mono {K L : Int} {S : ST} (hKL : K ≤ L) (h : goodS K S) : goodS L S := ⟨h.1.mono hKL, fun m hm => (h.2.1 m hm).mono hKL, fun k m hm => (h.2.2.1 k m hm).mono hKL, h.2.2.2⟩
theorem pushH_mem {hi : List MT} {m z : MT} (h : z ∈ pushH hi m) : z ∈ hi ∨ z = m := by
  unfold pushH at h
  rcases List.mem_append.mp h with q | q
  · split at q
    · exact Or.inl (List.mem_of_mem_drop q)
    · exact Or.inl q
  · exact Or.inr (List.mem_singleton.mp q)
theorem goodS.change {K : Int} {S : ST} (h : goodS K S) (q : Int32 × MT) (hq : goodT K q.2) : goodS K (sChange q S).2 := by
  obtain ⟨a, b, c, d⟩ := h
  refine ⟨hq, fun z hz => ?_, c, d⟩
  have hz2 : z ∈ (if q.1 < 0 then S.2.1 else pushH S.2.1 S.1) := hz
  split at hz2
  · exact b z hz2
  · rcases pushH_mem hz2 with w | w
    · exact b z w
    · rw [w]
      exact a
theorem goodS.set {K : Int} {S : ST} (h : goodS K S) (k v : Int32) : goodS K (sChange (mSet k v S.1) S).2 := h.change _ (h.1.set k v)
theorem goodS.arrive {K : Int} {S : ST} (hK : 30 ≤ K) (hK2 : K ≤ 90000000) (h : goodS K S) (v : Int32) : goodS K (sChange (mArrive v S.1) S).2 := h.change _ (h.1.arrive hK (by omega) v)
theorem goodS.turn {K : Int} {S : ST} (hK2 : K ≤ 90000000) (h : goodS K S) (k v : Int32) : goodS (K + 1) (sChange (mTurn k v S.1) S).2 := (h.mono (by omega)).change _ (h.1.turn hK2 k v)
theorem goodS.pass {K : Int} {S : ST} (hK2 : K ≤ 90000000) (h : goodS K S) (v : Int32) : goodS K (sChange (mPass v S.1) S).2 := h.change _ (h.1.pass (by omega) v)
theorem goodS.undo {K : Int} {S : ST} (h : goodS K S) : goodS K (sUndo S).2 := by
  unfold sUndo
  split
  · exact h
  · rename_i m hm
    exact ⟨h.2.1 m (List.mem_of_getLast? hm), fun z hz => h.2.1 z ((List.dropLast_sublist _).subset hz), h.2.2⟩
theorem goodS.zero : goodS 100 S0 := by
  have hw : ∀ k, k < 5 → 0 ≤ (S0.1.1 (22 + k)).toInt ∧ (S0.1.1 (22 + k)).toInt ≤ 9 := fun k hk => by
    have e : S0.1.1 (22 + k) = 0 := by
      show h0M (22 + k) = 0
      unfold h0M
      rw [pk_un (by omega), pk_un (by omega), pk_un (by omega), pk_un (by omega), pk_un (by omega), pk_un (by omega), pk_un (by omega), pk_un (by omega), pk_un (by omega)]
    rw [e]
    decide
  have h0 : 0 ≤ (S0.1.1 0).toInt ∧ (S0.1.1 0).toInt ≤ 9 := by decide
  have h1 : 0 ≤ (S0.1.1 1).toInt ∧ (S0.1.1 1).toInt ≤ 5 := by decide
  have h2 : ∃ G : Nat, G ≤ 5 ∧ S0.1.1 2 = nI G := ⟨2, by decide, rfl⟩
  have h3 : 0 ≤ (S0.1.1 3).toInt ∧ (S0.1.1 3).toInt ≤ 20 := by decide
  have h4 : 1 ≤ (S0.1.1 4).toInt ∧ (S0.1.1 4).toInt ≤ 20 := by decide
  have h5 : 1 ≤ (S0.1.1 5).toInt ∧ (S0.1.1 5).toInt ≤ 60 := by decide
  have h6 : 0 ≤ (S0.1.1 6).toInt ∧ (S0.1.1 6).toInt ≤ 9 := by decide
  have h7 : 0 ≤ (S0.1.1 7).toInt ∧ (S0.1.1 7).toInt ≤ 9 := by decide
  have h8 : 0 ≤ (S0.1.1 8).toInt ∧ (S0.1.1 8).toInt ≤ 30000 := by decide
  have h18 : 0 ≤ (S0.1.1 18).toInt ∧ (S0.1.1 18).toInt ≤ 60 := by decide
  have h17 : 0 ≤ (S0.1.1 17).toInt ∧ (S0.1.1 17).toInt ≤ 28 * (S0.1.1 8).toInt := by decide
  have hs : setOK S0.1 := ⟨h0, h1, h2, ⟨h4, h5, h6⟩, hw, h8⟩
  have nb : ∀ x : Nat → Int32, ¬ x ∈ S0.1.2.1 := fun x hx => by cases hx
  have hb : beltOK 100 S0.1 := ⟨fun x hx => absurd hx (nb x), List.Pairwise.nil, List.Pairwise.nil⟩
  have hp : pendM S0.1 := ⟨⟨fun r hr => (by cases hr), fun p hp => (by cases hp)⟩, PB.nil _⟩
  have hm : MarkOK S0.1 := ⟨h3, h7, fun x hx => absurd hx (nb x)⟩
  have ht : goodT 100 S0.1 := ⟨⟨hs, hb, hp, hm, fun x hx => absurd hx (nb x), h18, h17⟩, by decide⟩
  have hh : ∀ m ∈ S0.2.1, goodT 100 m := fun m hm => by cases hm
  have hsl : ∀ k m, S0.2.2.1 k = some m → goodT 100 m := fun k m hm => by cases hm
  have hpd : padOK S0.2.2.2 := fun c hc => by cases hc
  exact ⟨ht, hh, hsl, hpd, Nat.zero_le _⟩
end
