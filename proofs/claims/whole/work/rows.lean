section
-- ===== PART A: goes FIRST, ahead of the names: the tables' words, and 'selects' of the private methods out of them =====
/-- a private method of a class that the tables say can be made, by its rows of tables_1 -/
def lw_okq (q : MethodName × Nat) : Prop := (q.1.cls ≠ "java/lang/invoke/MethodHandle" ∧ q.1.cls ≠ "java/lang/invoke/VarHandle") ∧ Cond.instantiable q.1.cls q.2 ∈ tables_1 ∧ Cond.privateMethod q.1 ∈ tables_1 ∧ Cond.instanceMethod q.1 ∈ tables_1
theorem lw_p0 : lw_okq (⟨"BeltMarks$History", "stateAt", "(I)LBeltMarks$Belt;"⟩, 3) := ⟨⟨by decide +kernel, by decide +kernel⟩, List.mem_of_getElem? (i := 102) (by decide +kernel), List.mem_of_getElem? (i := 165) (by decide +kernel), List.mem_of_getElem? (i := 166) (by decide +kernel)⟩
theorem lw_p1 : lw_okq (⟨"BeltMarks", "recorded", "(I)I"⟩, 6) := ⟨⟨by decide +kernel, by decide +kernel⟩, List.mem_of_getElem? (i := 10) (by decide +kernel), List.mem_of_getElem? (i := 191) (by decide +kernel), List.mem_of_getElem? (i := 192) (by decide +kernel)⟩
theorem lw_p2 : lw_okq (⟨"BeltMarks$Belt", "isBox", "(I)Z"⟩, 10) := ⟨⟨by decide +kernel, by decide +kernel⟩, List.mem_of_getElem? (i := 18) (by decide +kernel), List.mem_of_getElem? (i := 226) (by decide +kernel), List.mem_of_getElem? (i := 227) (by decide +kernel)⟩
theorem lw_p3 : lw_okq (⟨"BeltMarks$Belt", "hasRoom", "(III)Z"⟩, 10) := ⟨⟨by decide +kernel, by decide +kernel⟩, List.mem_of_getElem? (i := 18) (by decide +kernel), List.mem_of_getElem? (i := 233) (by decide +kernel), List.mem_of_getElem? (i := 234) (by decide +kernel)⟩
theorem lw_p4 : lw_okq (⟨"BeltMarks$Belt", "howManyLeft", "()I"⟩, 10) := ⟨⟨by decide +kernel, by decide +kernel⟩, List.mem_of_getElem? (i := 18) (by decide +kernel), List.mem_of_getElem? (i := 245) (by decide +kernel), List.mem_of_getElem? (i := 246) (by decide +kernel)⟩
theorem lw_p5 : lw_okq (⟨"BeltMarks$Belt", "moveOn", "()V"⟩, 10) := ⟨⟨by decide +kernel, by decide +kernel⟩, List.mem_of_getElem? (i := 18) (by decide +kernel), List.mem_of_getElem? (i := 253) (by decide +kernel), List.mem_of_getElem? (i := 254) (by decide +kernel)⟩
theorem lw_p6 : lw_okq (⟨"BeltMarks$Belt", "seeBoxes", "()V"⟩, 10) := ⟨⟨by decide +kernel, by decide +kernel⟩, List.mem_of_getElem? (i := 18) (by decide +kernel), List.mem_of_getElem? (i := 257) (by decide +kernel), List.mem_of_getElem? (i := 258) (by decide +kernel)⟩
theorem lw_p7 : lw_okq (⟨"BeltMarks$Belt", "addReport", "(I)V"⟩, 10) := ⟨⟨by decide +kernel, by decide +kernel⟩, List.mem_of_getElem? (i := 18) (by decide +kernel), List.mem_of_getElem? (i := 261) (by decide +kernel), List.mem_of_getElem? (i := 262) (by decide +kernel)⟩
theorem lw_p8 : lw_okq (⟨"BeltMarks$Belt", "countPlansDown", "()V"⟩, 10) := ⟨⟨by decide +kernel, by decide +kernel⟩, List.mem_of_getElem? (i := 18) (by decide +kernel), List.mem_of_getElem? (i := 265) (by decide +kernel), List.mem_of_getElem? (i := 266) (by decide +kernel)⟩
theorem lw_p9 : lw_okq (⟨"BeltMarks$Belt", "takeReports", "()V"⟩, 10) := ⟨⟨by decide +kernel, by decide +kernel⟩, List.mem_of_getElem? (i := 18) (by decide +kernel), List.mem_of_getElem? (i := 269) (by decide +kernel), List.mem_of_getElem? (i := 270) (by decide +kernel)⟩
theorem lw_p10 : lw_okq (⟨"BeltMarks$Belt", "addPlan", "(I)V"⟩, 10) := ⟨⟨by decide +kernel, by decide +kernel⟩, List.mem_of_getElem? (i := 18) (by decide +kernel), List.mem_of_getElem? (i := 273) (by decide +kernel), List.mem_of_getElem? (i := 274) (by decide +kernel)⟩
theorem lw_p11 : lw_okq (⟨"BeltMarks$Belt", "guessedWay", "()I"⟩, 10) := ⟨⟨by decide +kernel, by decide +kernel⟩, List.mem_of_getElem? (i := 18) (by decide +kernel), List.mem_of_getElem? (i := 277) (by decide +kernel), List.mem_of_getElem? (i := 278) (by decide +kernel)⟩
theorem lw_p12 : lw_okq (⟨"BeltMarks$Belt", "doPlans", "()V"⟩, 10) := ⟨⟨by decide +kernel, by decide +kernel⟩, List.mem_of_getElem? (i := 18) (by decide +kernel), List.mem_of_getElem? (i := 281) (by decide +kernel), List.mem_of_getElem? (i := 282) (by decide +kernel)⟩
theorem lw_p13 : lw_okq (⟨"BeltMarks$Belt", "useLabel", "()V"⟩, 10) := ⟨⟨by decide +kernel, by decide +kernel⟩, List.mem_of_getElem? (i := 18) (by decide +kernel), List.mem_of_getElem? (i := 285) (by decide +kernel), List.mem_of_getElem? (i := 286) (by decide +kernel)⟩
theorem lw_p14 : lw_okq (⟨"BeltMarks$Belt", "markBox", "(LBeltMarks$Box;)V"⟩, 10) := ⟨⟨by decide +kernel, by decide +kernel⟩, List.mem_of_getElem? (i := 18) (by decide +kernel), List.mem_of_getElem? (i := 293) (by decide +kernel), List.mem_of_getElem? (i := 294) (by decide +kernel)⟩
theorem lw_p15 : lw_okq (⟨"BeltMarks$Belt", "feed", "()V"⟩, 10) := ⟨⟨by decide +kernel, by decide +kernel⟩, List.mem_of_getElem? (i := 18) (by decide +kernel), List.mem_of_getElem? (i := 297) (by decide +kernel), List.mem_of_getElem? (i := 298) (by decide +kernel)⟩
def lw_privs_1 : List (MethodName × Nat) := [(⟨"BeltMarks$History", "stateAt", "(I)LBeltMarks$Belt;"⟩, 3), (⟨"BeltMarks", "recorded", "(I)I"⟩, 6), (⟨"BeltMarks$Belt", "isBox", "(I)Z"⟩, 10), (⟨"BeltMarks$Belt", "hasRoom", "(III)Z"⟩, 10), (⟨"BeltMarks$Belt", "howManyLeft", "()I"⟩, 10), (⟨"BeltMarks$Belt", "moveOn", "()V"⟩, 10), (⟨"BeltMarks$Belt", "seeBoxes", "()V"⟩, 10), (⟨"BeltMarks$Belt", "addReport", "(I)V"⟩, 10), (⟨"BeltMarks$Belt", "countPlansDown", "()V"⟩, 10), (⟨"BeltMarks$Belt", "takeReports", "()V"⟩, 10), (⟨"BeltMarks$Belt", "addPlan", "(I)V"⟩, 10), (⟨"BeltMarks$Belt", "guessedWay", "()I"⟩, 10), (⟨"BeltMarks$Belt", "doPlans", "()V"⟩, 10), (⟨"BeltMarks$Belt", "useLabel", "()V"⟩, 10), (⟨"BeltMarks$Belt", "markBox", "(LBeltMarks$Box;)V"⟩, 10), (⟨"BeltMarks$Belt", "feed", "()V"⟩, 10)]
theorem lw_r1 : ∀ q ∈ lw_privs_1, lw_okq q := List.forall_mem_cons.mpr ⟨lw_p0, List.forall_mem_cons.mpr ⟨lw_p1, List.forall_mem_cons.mpr ⟨lw_p2, List.forall_mem_cons.mpr ⟨lw_p3, List.forall_mem_cons.mpr ⟨lw_p4, List.forall_mem_cons.mpr ⟨lw_p5, List.forall_mem_cons.mpr ⟨lw_p6, List.forall_mem_cons.mpr ⟨lw_p7, List.forall_mem_cons.mpr ⟨lw_p8, List.forall_mem_cons.mpr ⟨lw_p9, List.forall_mem_cons.mpr ⟨lw_p10, List.forall_mem_cons.mpr ⟨lw_p11, List.forall_mem_cons.mpr ⟨lw_p12, List.forall_mem_cons.mpr ⟨lw_p13, List.forall_mem_cons.mpr ⟨lw_p14, List.forall_mem_cons.mpr ⟨lw_p15, fun _ h => absurd h List.not_mem_nil⟩⟩⟩⟩⟩⟩⟩⟩⟩⟩⟩⟩⟩⟩⟩⟩
theorem lw_p16 : lw_okq (⟨"BeltMarks$Belt", "letBoxesLeave", "()V"⟩, 10) := ⟨⟨by decide +kernel, by decide +kernel⟩, List.mem_of_getElem? (i := 18) (by decide +kernel), List.mem_of_getElem? (i := 304) (by decide +kernel), List.mem_of_getElem? (i := 305) (by decide +kernel)⟩
theorem lw_p17 : lw_okq (⟨"BeltMarks$Belt", "fate", "(LBeltMarks$Box;)I"⟩, 10) := ⟨⟨by decide +kernel, by decide +kernel⟩, List.mem_of_getElem? (i := 18) (by decide +kernel), List.mem_of_getElem? (i := 308) (by decide +kernel), List.mem_of_getElem? (i := 309) (by decide +kernel)⟩
theorem lw_p18 : lw_okq (⟨"BeltMarks", "goodWithGuess", "(II)I"⟩, 6) := ⟨⟨by decide +kernel, by decide +kernel⟩, List.mem_of_getElem? (i := 10) (by decide +kernel), List.mem_of_getElem? (i := 366) (by decide +kernel), List.mem_of_getElem? (i := 367) (by decide +kernel)⟩
theorem lw_p19 : lw_okq (⟨"BeltMarks", "starvesWithSlack", "(II)Z"⟩, 6) := ⟨⟨by decide +kernel, by decide +kernel⟩, List.mem_of_getElem? (i := 10) (by decide +kernel), List.mem_of_getElem? (i := 374) (by decide +kernel), List.mem_of_getElem? (i := 375) (by decide +kernel)⟩
theorem lw_p20 : lw_okq (⟨"BeltMarks", "follow", "(I)I"⟩, 6) := ⟨⟨by decide +kernel, by decide +kernel⟩, List.mem_of_getElem? (i := 10) (by decide +kernel), List.mem_of_getElem? (i := 429) (by decide +kernel), List.mem_of_getElem? (i := 430) (by decide +kernel)⟩
theorem lw_p21 : lw_okq (⟨"BeltMarks", "isSlot", "(I)Z"⟩, 6) := ⟨⟨by decide +kernel, by decide +kernel⟩, List.mem_of_getElem? (i := 10) (by decide +kernel), List.mem_of_getElem? (i := 450) (by decide +kernel), List.mem_of_getElem? (i := 451) (by decide +kernel)⟩
theorem lw_p22 : lw_okq (⟨"BeltMarksModel", "keep", "()V"⟩, 12) := ⟨⟨by decide +kernel, by decide +kernel⟩, List.mem_of_getElem? (i := 458) (by decide +kernel), List.mem_of_getElem? (i := 505) (by decide +kernel), List.mem_of_getElem? (i := 506) (by decide +kernel)⟩
theorem lw_p23 : lw_okq (⟨"BeltMarksModel", "doSet", "(II)I"⟩, 12) := ⟨⟨by decide +kernel, by decide +kernel⟩, List.mem_of_getElem? (i := 458) (by decide +kernel), List.mem_of_getElem? (i := 509) (by decide +kernel), List.mem_of_getElem? (i := 510) (by decide +kernel)⟩
theorem lw_p24 : lw_okq (⟨"BeltMarksModel", "changed", "(I)I"⟩, 12) := ⟨⟨by decide +kernel, by decide +kernel⟩, List.mem_of_getElem? (i := 458) (by decide +kernel), List.mem_of_getElem? (i := 523) (by decide +kernel), List.mem_of_getElem? (i := 524) (by decide +kernel)⟩
theorem lw_p25 : lw_okq (⟨"BeltMarksModel", "doArrive", "(I)I"⟩, 12) := ⟨⟨by decide +kernel, by decide +kernel⟩, List.mem_of_getElem? (i := 458) (by decide +kernel), List.mem_of_getElem? (i := 531) (by decide +kernel), List.mem_of_getElem? (i := 532) (by decide +kernel)⟩
theorem lw_p26 : lw_okq (⟨"BeltMarksModel", "back", "(I)I"⟩, 12) := ⟨⟨by decide +kernel, by decide +kernel⟩, List.mem_of_getElem? (i := 458) (by decide +kernel), List.mem_of_getElem? (i := 540) (by decide +kernel), List.mem_of_getElem? (i := 541) (by decide +kernel)⟩
theorem lw_p27 : lw_okq (⟨"BeltMarksModel", "get", "(II)I"⟩, 12) := ⟨⟨by decide +kernel, by decide +kernel⟩, List.mem_of_getElem? (i := 458) (by decide +kernel), List.mem_of_getElem? (i := 544) (by decide +kernel), List.mem_of_getElem? (i := 545) (by decide +kernel)⟩
theorem lw_p28 : lw_okq (⟨"BeltMarksModel", "put", "(III)V"⟩, 12) := ⟨⟨by decide +kernel, by decide +kernel⟩, List.mem_of_getElem? (i := 458) (by decide +kernel), List.mem_of_getElem? (i := 548) (by decide +kernel), List.mem_of_getElem? (i := 549) (by decide +kernel)⟩
theorem lw_p29 : lw_okq (⟨"BeltMarksModel", "doTurn", "(II)I"⟩, 12) := ⟨⟨by decide +kernel, by decide +kernel⟩, List.mem_of_getElem? (i := 458) (by decide +kernel), List.mem_of_getElem? (i := 556) (by decide +kernel), List.mem_of_getElem? (i := 557) (by decide +kernel)⟩
theorem lw_p30 : lw_okq (⟨"BeltMarksModel", "isBox", "(I)Z"⟩, 12) := ⟨⟨by decide +kernel, by decide +kernel⟩, List.mem_of_getElem? (i := 458) (by decide +kernel), List.mem_of_getElem? (i := 560) (by decide +kernel), List.mem_of_getElem? (i := 561) (by decide +kernel)⟩
theorem lw_p31 : lw_okq (⟨"BeltMarksModel", "doPass", "(I)I"⟩, 12) := ⟨⟨by decide +kernel, by decide +kernel⟩, List.mem_of_getElem? (i := 458) (by decide +kernel), List.mem_of_getElem? (i := 568) (by decide +kernel), List.mem_of_getElem? (i := 569) (by decide +kernel)⟩
def lw_privs_2 : List (MethodName × Nat) := [(⟨"BeltMarks$Belt", "letBoxesLeave", "()V"⟩, 10), (⟨"BeltMarks$Belt", "fate", "(LBeltMarks$Box;)I"⟩, 10), (⟨"BeltMarks", "goodWithGuess", "(II)I"⟩, 6), (⟨"BeltMarks", "starvesWithSlack", "(II)Z"⟩, 6), (⟨"BeltMarks", "follow", "(I)I"⟩, 6), (⟨"BeltMarks", "isSlot", "(I)Z"⟩, 6), (⟨"BeltMarksModel", "keep", "()V"⟩, 12), (⟨"BeltMarksModel", "doSet", "(II)I"⟩, 12), (⟨"BeltMarksModel", "changed", "(I)I"⟩, 12), (⟨"BeltMarksModel", "doArrive", "(I)I"⟩, 12), (⟨"BeltMarksModel", "back", "(I)I"⟩, 12), (⟨"BeltMarksModel", "get", "(II)I"⟩, 12), (⟨"BeltMarksModel", "put", "(III)V"⟩, 12), (⟨"BeltMarksModel", "doTurn", "(II)I"⟩, 12), (⟨"BeltMarksModel", "isBox", "(I)Z"⟩, 12), (⟨"BeltMarksModel", "doPass", "(I)I"⟩, 12)]
theorem lw_r2 : ∀ q ∈ lw_privs_2, lw_okq q := List.forall_mem_cons.mpr ⟨lw_p16, List.forall_mem_cons.mpr ⟨lw_p17, List.forall_mem_cons.mpr ⟨lw_p18, List.forall_mem_cons.mpr ⟨lw_p19, List.forall_mem_cons.mpr ⟨lw_p20, List.forall_mem_cons.mpr ⟨lw_p21, List.forall_mem_cons.mpr ⟨lw_p22, List.forall_mem_cons.mpr ⟨lw_p23, List.forall_mem_cons.mpr ⟨lw_p24, List.forall_mem_cons.mpr ⟨lw_p25, List.forall_mem_cons.mpr ⟨lw_p26, List.forall_mem_cons.mpr ⟨lw_p27, List.forall_mem_cons.mpr ⟨lw_p28, List.forall_mem_cons.mpr ⟨lw_p29, List.forall_mem_cons.mpr ⟨lw_p30, List.forall_mem_cons.mpr ⟨lw_p31, fun _ h => absurd h List.not_mem_nil⟩⟩⟩⟩⟩⟩⟩⟩⟩⟩⟩⟩⟩⟩⟩⟩
theorem lw_p32 : lw_okq (⟨"BeltMarksModel", "passes", "(I)I"⟩, 12) := ⟨⟨by decide +kernel, by decide +kernel⟩, List.mem_of_getElem? (i := 458) (by decide +kernel), List.mem_of_getElem? (i := 576) (by decide +kernel), List.mem_of_getElem? (i := 577) (by decide +kernel)⟩
theorem lw_p33 : lw_okq (⟨"BeltMarksModel", "ticksOn", "()I"⟩, 12) := ⟨⟨by decide +kernel, by decide +kernel⟩, List.mem_of_getElem? (i := 458) (by decide +kernel), List.mem_of_getElem? (i := 580) (by decide +kernel), List.mem_of_getElem? (i := 581) (by decide +kernel)⟩
theorem lw_p34 : lw_okq (⟨"BeltMarksModel", "moves", "()V"⟩, 12) := ⟨⟨by decide +kernel, by decide +kernel⟩, List.mem_of_getElem? (i := 458) (by decide +kernel), List.mem_of_getElem? (i := 584) (by decide +kernel), List.mem_of_getElem? (i := 585) (by decide +kernel)⟩
theorem lw_p35 : lw_okq (⟨"BeltMarksModel", "sees", "()V"⟩, 12) := ⟨⟨by decide +kernel, by decide +kernel⟩, List.mem_of_getElem? (i := 458) (by decide +kernel), List.mem_of_getElem? (i := 588) (by decide +kernel), List.mem_of_getElem? (i := 589) (by decide +kernel)⟩
theorem lw_p36 : lw_okq (⟨"BeltMarksModel", "plans", "()V"⟩, 12) := ⟨⟨by decide +kernel, by decide +kernel⟩, List.mem_of_getElem? (i := 458) (by decide +kernel), List.mem_of_getElem? (i := 592) (by decide +kernel), List.mem_of_getElem? (i := 593) (by decide +kernel)⟩
theorem lw_p37 : lw_okq (⟨"BeltMarksModel", "guessedWay", "()I"⟩, 12) := ⟨⟨by decide +kernel, by decide +kernel⟩, List.mem_of_getElem? (i := 458) (by decide +kernel), List.mem_of_getElem? (i := 596) (by decide +kernel), List.mem_of_getElem? (i := 597) (by decide +kernel)⟩
theorem lw_p38 : lw_okq (⟨"BeltMarksModel", "takesOut", "(IIII)V"⟩, 12) := ⟨⟨by decide +kernel, by decide +kernel⟩, List.mem_of_getElem? (i := 458) (by decide +kernel), List.mem_of_getElem? (i := 600) (by decide +kernel), List.mem_of_getElem? (i := 601) (by decide +kernel)⟩
theorem lw_p39 : lw_okq (⟨"BeltMarksModel", "doesPlans", "()V"⟩, 12) := ⟨⟨by decide +kernel, by decide +kernel⟩, List.mem_of_getElem? (i := 458) (by decide +kernel), List.mem_of_getElem? (i := 604) (by decide +kernel), List.mem_of_getElem? (i := 605) (by decide +kernel)⟩
theorem lw_p40 : lw_okq (⟨"BeltMarksModel", "marks", "()V"⟩, 12) := ⟨⟨by decide +kernel, by decide +kernel⟩, List.mem_of_getElem? (i := 458) (by decide +kernel), List.mem_of_getElem? (i := 608) (by decide +kernel), List.mem_of_getElem? (i := 609) (by decide +kernel)⟩
theorem lw_p41 : lw_okq (⟨"BeltMarksModel", "under", "()I"⟩, 12) := ⟨⟨by decide +kernel, by decide +kernel⟩, List.mem_of_getElem? (i := 458) (by decide +kernel), List.mem_of_getElem? (i := 612) (by decide +kernel), List.mem_of_getElem? (i := 613) (by decide +kernel)⟩
theorem lw_p42 : lw_okq (⟨"BeltMarksModel", "judges", "(I)V"⟩, 12) := ⟨⟨by decide +kernel, by decide +kernel⟩, List.mem_of_getElem? (i := 458) (by decide +kernel), List.mem_of_getElem? (i := 616) (by decide +kernel), List.mem_of_getElem? (i := 617) (by decide +kernel)⟩
theorem lw_p43 : lw_okq (⟨"BeltMarksModel", "brings", "(II)I"⟩, 12) := ⟨⟨by decide +kernel, by decide +kernel⟩, List.mem_of_getElem? (i := 458) (by decide +kernel), List.mem_of_getElem? (i := 644) (by decide +kernel), List.mem_of_getElem? (i := 645) (by decide +kernel)⟩
theorem lw_p44 : lw_okq (⟨"BeltMarksModel", "giveBack", "()V"⟩, 12) := ⟨⟨by decide +kernel, by decide +kernel⟩, List.mem_of_getElem? (i := 458) (by decide +kernel), List.mem_of_getElem? (i := 648) (by decide +kernel), List.mem_of_getElem? (i := 649) (by decide +kernel)⟩
theorem lw_p45 : lw_okq (⟨"BeltMarksModel", "readsOrder", "()Z"⟩, 12) := ⟨⟨by decide +kernel, by decide +kernel⟩, List.mem_of_getElem? (i := 458) (by decide +kernel), List.mem_of_getElem? (i := 675) (by decide +kernel), List.mem_of_getElem? (i := 676) (by decide +kernel)⟩
theorem lw_p46 : lw_okq (⟨"BeltMarksModel", "isHere", "(II)Z"⟩, 12) := ⟨⟨by decide +kernel, by decide +kernel⟩, List.mem_of_getElem? (i := 458) (by decide +kernel), List.mem_of_getElem? (i := 679) (by decide +kernel), List.mem_of_getElem? (i := 680) (by decide +kernel)⟩
theorem lw_p47 : lw_okq (⟨"BeltMarksModel", "takes", "(I)Z"⟩, 12) := ⟨⟨by decide +kernel, by decide +kernel⟩, List.mem_of_getElem? (i := 458) (by decide +kernel), List.mem_of_getElem? (i := 683) (by decide +kernel), List.mem_of_getElem? (i := 684) (by decide +kernel)⟩
def lw_privs_3 : List (MethodName × Nat) := [(⟨"BeltMarksModel", "passes", "(I)I"⟩, 12), (⟨"BeltMarksModel", "ticksOn", "()I"⟩, 12), (⟨"BeltMarksModel", "moves", "()V"⟩, 12), (⟨"BeltMarksModel", "sees", "()V"⟩, 12), (⟨"BeltMarksModel", "plans", "()V"⟩, 12), (⟨"BeltMarksModel", "guessedWay", "()I"⟩, 12), (⟨"BeltMarksModel", "takesOut", "(IIII)V"⟩, 12), (⟨"BeltMarksModel", "doesPlans", "()V"⟩, 12), (⟨"BeltMarksModel", "marks", "()V"⟩, 12), (⟨"BeltMarksModel", "under", "()I"⟩, 12), (⟨"BeltMarksModel", "judges", "(I)V"⟩, 12), (⟨"BeltMarksModel", "brings", "(II)I"⟩, 12), (⟨"BeltMarksModel", "giveBack", "()V"⟩, 12), (⟨"BeltMarksModel", "readsOrder", "()Z"⟩, 12), (⟨"BeltMarksModel", "isHere", "(II)Z"⟩, 12), (⟨"BeltMarksModel", "takes", "(I)Z"⟩, 12)]
theorem lw_r3 : ∀ q ∈ lw_privs_3, lw_okq q := List.forall_mem_cons.mpr ⟨lw_p32, List.forall_mem_cons.mpr ⟨lw_p33, List.forall_mem_cons.mpr ⟨lw_p34, List.forall_mem_cons.mpr ⟨lw_p35, List.forall_mem_cons.mpr ⟨lw_p36, List.forall_mem_cons.mpr ⟨lw_p37, List.forall_mem_cons.mpr ⟨lw_p38, List.forall_mem_cons.mpr ⟨lw_p39, List.forall_mem_cons.mpr ⟨lw_p40, List.forall_mem_cons.mpr ⟨lw_p41, List.forall_mem_cons.mpr ⟨lw_p42, List.forall_mem_cons.mpr ⟨lw_p43, List.forall_mem_cons.mpr ⟨lw_p44, List.forall_mem_cons.mpr ⟨lw_p45, List.forall_mem_cons.mpr ⟨lw_p46, List.forall_mem_cons.mpr ⟨lw_p47, fun _ h => absurd h List.not_mem_nil⟩⟩⟩⟩⟩⟩⟩⟩⟩⟩⟩⟩⟩⟩⟩⟩
theorem lw_p48 : lw_okq (⟨"BeltMarksModel", "readsNumber", "()Z"⟩, 12) := ⟨⟨by decide +kernel, by decide +kernel⟩, List.mem_of_getElem? (i := 458) (by decide +kernel), List.mem_of_getElem? (i := 687) (by decide +kernel), List.mem_of_getElem? (i := 688) (by decide +kernel)⟩
theorem lw_p49 : lw_okq (⟨"BeltMarksModel", "doOrder", "()I"⟩, 12) := ⟨⟨by decide +kernel, by decide +kernel⟩, List.mem_of_getElem? (i := 458) (by decide +kernel), List.mem_of_getElem? (i := 696) (by decide +kernel), List.mem_of_getElem? (i := 697) (by decide +kernel)⟩
def lw_privs_4 : List (MethodName × Nat) := [(⟨"BeltMarksModel", "readsNumber", "()Z"⟩, 12), (⟨"BeltMarksModel", "doOrder", "()I"⟩, 12)]
theorem lw_r4 : ∀ q ∈ lw_privs_4, lw_okq q := List.forall_mem_cons.mpr ⟨lw_p48, List.forall_mem_cons.mpr ⟨lw_p49, fun _ h => absurd h List.not_mem_nil⟩⟩
def lw_privs : List (MethodName × Nat) := lw_privs_1 ++ (lw_privs_2 ++ (lw_privs_3 ++ (lw_privs_4)))
def lw_tbl : List Cond := k2_sels lw_privs ++ tables_1
theorem lw_privs_ok : ∀ q ∈ lw_privs, lw_okq q := by
  show ∀ q ∈ lw_privs_1 ++ (lw_privs_2 ++ (lw_privs_3 ++ (lw_privs_4))), lw_okq q
  exact List.forall_mem_append.mpr ⟨lw_r1, List.forall_mem_append.mpr ⟨lw_r2, List.forall_mem_append.mpr ⟨lw_r3, lw_r4⟩⟩⟩
/-! ===== BEGIN words of one list among another's, by their places ===== -/
theorem goodIn_r {big : List Cond} (ws : List Cond) (ps : List Nat) (hp : ws = ps.filterMap (fun i => big[i]?)) (h : ws.all goodWord = true) : GoodIn big ws := by
  intro w hw
  have h1 := List.all_eq_true.mp h w hw
  rw [hp] at hw
  obtain ⟨i, -, hi⟩ := List.mem_filterMap.mp hw
  have hm : w ∈ big := by first | exact List.mem_of_getElem? hi | exact List.getElem?_mem hi
  exact ⟨hm, good_of_word h1⟩
theorem goodIn_app {big a b : List Cond} (ha : GoodIn big a) (hb : GoodIn big b) : GoodIn big (a ++ b) := fun w h => (List.mem_append.mp h).elim (ha w) (hb w)
theorem goodIn_ca {big a b : List Cond} {c : Cond} (ha : GoodIn big (c :: a)) (hb : GoodIn big b) : GoodIn big (c :: (a ++ b)) := fun w h => (List.mem_cons.mp h).elim (fun e => ha w (List.mem_cons.mpr (Or.inl e))) (fun h => (List.mem_append.mp h).elim (fun h => ha w (List.mem_cons.mpr (Or.inr h))) (hb w))
theorem goodIn_sub {big ws : List Cond} (hm : ∀ w ∈ ws, w ∈ big) (h : ws.all goodWord = true) : GoodIn big ws := fun w hw => ⟨hm w hw, good_of_word (List.all_eq_true.mp h w hw)⟩
/-! ===== END ===== -/

/-! ===== BEGIN printed: names, fields, word lists, decode rows ===== -/
def RX0 : String := "BeltMarks$Belt"
def TX0 : u_T := fun k => match k with
  | 0 => ("BeltMarks$Belt", "settings", "[I", true)
  | 1 => ("BeltMarks$Belt", "tallies", "[I", true)
  | 2 => ("BeltMarks$Belt", "boxes", "[LBeltMarks$Box;", true)
  | 3 => ("BeltMarks$Belt", "boxCount", "I", false)
  | 4 => ("BeltMarks$Belt", "comes", "[I", true)
  | 5 => ("BeltMarks$Belt", "excesses", "[I", true)
  | 6 => ("BeltMarks$Belt", "reportCount", "I", false)
  | 7 => ("BeltMarks$Belt", "plans", "[I", true)
  | 8 => ("BeltMarks$Belt", "planCount", "I", false)
  | _ => ("BeltMarks$Belt", "ways", "[I", true)
def tyX0 : Nat → FieldType := fun k => match k with
  | 0 => .array .int
  | 1 => .array .int
  | 2 => .array (.object "BeltMarks$Box")
  | 3 => .int
  | 4 => .array .int
  | 5 => .array .int
  | 6 => .int
  | 7 => .array .int
  | 8 => .int
  | _ => .array .int
abbrev wsX00 : List Cond := u_ws RX0 TX0 10
theorem nmX0 : ∀ a, a < 10 → ∀ b, b < 10 → a ≠ b → (TX0 a).2.1 ≠ (TX0 b).2.1 := by decide +kernel
theorem tyX0_ok : ∀ k, k < 10 → parseFieldDescriptor (TX0 k).2.2.1 = some (tyX0 k) := by decide +kernel
abbrev cX0_init : ByteArray := prog_2_method_1_code
def yX0_init : MethodName := ⟨RX0, "<init>", "()V"⟩
abbrev cX0_copyFrom : ByteArray := prog_2_method_2_code
def yX0_copyFrom : MethodName := ⟨RX0, "copyFrom", "(LBeltMarks$Belt;)V"⟩
abbrev cX0_choose : ByteArray := prog_2_method_3_code
def yX0_choose : MethodName := ⟨RX0, "choose", "(II)I"⟩
abbrev cX0_takeBox : ByteArray := prog_2_method_4_code
def yX0_takeBox : MethodName := ⟨RX0, "takeBox", "(I)I"⟩
abbrev cX0_turnBox : ByteArray := prog_2_method_5_code
def yX0_turnBox : MethodName := ⟨RX0, "turnBox", "(II)I"⟩
abbrev cX0_hasRoom : ByteArray := prog_2_method_6_code
def yX0_hasRoom : MethodName := ⟨RX0, "hasRoom", "(III)Z"⟩
abbrev cX0_letPass : ByteArray := prog_2_method_7_code
def yX0_letPass : MethodName := ⟨RX0, "letPass", "(I)I"⟩
abbrev cX0_howManyLeft : ByteArray := prog_2_method_8_code
def yX0_howManyLeft : MethodName := ⟨RX0, "howManyLeft", "()I"⟩
abbrev cX0_isBox : ByteArray := prog_2_method_9_code
def yX0_isBox : MethodName := ⟨RX0, "isBox", "(I)Z"⟩
abbrev cX0_aboutBox : ByteArray := prog_2_method_10_code
def yX0_aboutBox : MethodName := ⟨RX0, "aboutBox", "(II)I"⟩
abbrev cX0_planAt : ByteArray := prog_2_method_11_code
def yX0_planAt : MethodName := ⟨RX0, "planAt", "(I)I"⟩
abbrev cX0_aboutReport : ByteArray := prog_2_method_12_code
def yX0_aboutReport : MethodName := ⟨RX0, "aboutReport", "(II)I"⟩
abbrev cX0_number : ByteArray := prog_2_method_13_code
def yX0_number : MethodName := ⟨RX0, "number", "(I)I"⟩
abbrev cX0_tickOn : ByteArray := prog_2_method_14_code
def yX0_tickOn : MethodName := ⟨RX0, "tickOn", "(I)V"⟩
abbrev cX0_moveOn : ByteArray := prog_2_method_15_code
def yX0_moveOn : MethodName := ⟨RX0, "moveOn", "()V"⟩
abbrev cX0_seeBoxes : ByteArray := prog_2_method_16_code
def yX0_seeBoxes : MethodName := ⟨RX0, "seeBoxes", "()V"⟩
abbrev cX0_addReport : ByteArray := prog_2_method_17_code
def yX0_addReport : MethodName := ⟨RX0, "addReport", "(I)V"⟩
abbrev cX0_countPlansDown : ByteArray := prog_2_method_18_code
def yX0_countPlansDown : MethodName := ⟨RX0, "countPlansDown", "()V"⟩
abbrev cX0_takeReports : ByteArray := prog_2_method_19_code
def yX0_takeReports : MethodName := ⟨RX0, "takeReports", "()V"⟩
abbrev cX0_addPlan : ByteArray := prog_2_method_20_code
def yX0_addPlan : MethodName := ⟨RX0, "addPlan", "(I)V"⟩
abbrev cX0_guessedWay : ByteArray := prog_2_method_21_code
def yX0_guessedWay : MethodName := ⟨RX0, "guessedWay", "()I"⟩
abbrev cX0_doPlans : ByteArray := prog_2_method_22_code
def yX0_doPlans : MethodName := ⟨RX0, "doPlans", "()V"⟩
abbrev cX0_useLabel : ByteArray := prog_2_method_23_code
def yX0_useLabel : MethodName := ⟨RX0, "useLabel", "()V"⟩
abbrev cX0_markBox : ByteArray := prog_2_method_24_code
def yX0_markBox : MethodName := ⟨RX0, "markBox", "(LBeltMarks$Box;)V"⟩
abbrev cX0_feed : ByteArray := prog_2_method_25_code
def yX0_feed : MethodName := ⟨RX0, "feed", "()V"⟩
abbrev cX0_letBoxesLeave : ByteArray := prog_2_method_26_code
def yX0_letBoxesLeave : MethodName := ⟨RX0, "letBoxesLeave", "()V"⟩
abbrev cX0_fate : ByteArray := prog_2_method_27_code
def yX0_fate : MethodName := ⟨RX0, "fate", "(LBeltMarks$Box;)I"⟩
def RX1 : String := "BeltMarks$Box"
def TX1 : u_T := fun k => match k with
  | 0 => ("BeltMarks$Box", "front", "I", false)
  | 1 => ("BeltMarks$Box", "length", "I", false)
  | 2 => ("BeltMarks$Box", "seen", "Z", false)
  | 3 => ("BeltMarks$Box", "marked", "Z", false)
  | 4 => ("BeltMarks$Box", "mark", "I", false)
  | 5 => ("BeltMarks$Box", "twice", "Z", false)
  | _ => ("BeltMarks$Box", "number", "I", false)
def tyX1 : Nat → FieldType := fun k => match k with
  | 0 => .int
  | 1 => .int
  | 2 => .boolean
  | 3 => .boolean
  | 4 => .int
  | 5 => .boolean
  | _ => .int
abbrev wsX10 : List Cond := u_ws RX1 TX1 7
theorem nmX1 : ∀ a, a < 7 → ∀ b, b < 7 → a ≠ b → (TX1 a).2.1 ≠ (TX1 b).2.1 := by decide +kernel
theorem tyX1_ok : ∀ k, k < 7 → parseFieldDescriptor (TX1 k).2.2.1 = some (tyX1 k) := by decide +kernel
abbrev cX1_init : ByteArray := prog_3_method_1_code
def yX1_init : MethodName := ⟨RX1, "<init>", "()V"⟩
abbrev cX1_canHave : ByteArray := prog_3_method_2_code
def yX1_canHave : MethodName := ⟨RX1, "canHave", "(I)Z"⟩
abbrev cX1_begin : ByteArray := prog_3_method_3_code
def yX1_begin : MethodName := ⟨RX1, "begin", "(II)V"⟩
abbrev cX1_copyFrom : ByteArray := prog_3_method_4_code
def yX1_copyFrom : MethodName := ⟨RX1, "copyFrom", "(LBeltMarks$Box;)V"⟩
abbrev cX1_back : ByteArray := prog_3_method_5_code
def yX1_back : MethodName := ⟨RX1, "back", "()I"⟩
abbrev cX1_liesUnder : ByteArray := prog_3_method_6_code
def yX1_liesUnder : MethodName := ⟨RX1, "liesUnder", "(I)Z"⟩
abbrev cX1_tell : ByteArray := prog_3_method_7_code
def yX1_tell : MethodName := ⟨RX1, "tell", "(I)I"⟩
def RX2 : String := "BeltMarks$History"
def TX2 : u_T := fun k => match k with
  | 0 => ("BeltMarks$History", "states", "[LBeltMarks$Belt;", true)
  | 1 => ("BeltMarks$History", "oldest", "I", false)
  | _ => ("BeltMarks$History", "size", "I", false)
def tyX2 : Nat → FieldType := fun k => match k with
  | 0 => .array (.object "BeltMarks$Belt")
  | 1 => .int
  | _ => .int
abbrev wsX20 : List Cond := u_ws RX2 TX2 3
theorem nmX2 : ∀ a, a < 3 → ∀ b, b < 3 → a ≠ b → (TX2 a).2.1 ≠ (TX2 b).2.1 := by decide +kernel
theorem tyX2_ok : ∀ k, k < 3 → parseFieldDescriptor (TX2 k).2.2.1 = some (tyX2 k) := by decide +kernel
abbrev cX2_init : ByteArray := prog_4_method_1_code
def yX2_init : MethodName := ⟨RX2, "<init>", "()V"⟩
abbrev cX2_stateAt : ByteArray := prog_4_method_2_code
def yX2_stateAt : MethodName := ⟨RX2, "stateAt", "(I)LBeltMarks$Belt;"⟩
abbrev cX2_note : ByteArray := prog_4_method_3_code
def yX2_note : MethodName := ⟨RX2, "note", "(LBeltMarks$Belt;)V"⟩
abbrev cX2_keepNoted : ByteArray := prog_4_method_4_code
def yX2_keepNoted : MethodName := ⟨RX2, "keepNoted", "()V"⟩
abbrev cX2_takeBack : ByteArray := prog_4_method_5_code
def yX2_takeBack : MethodName := ⟨RX2, "takeBack", "(LBeltMarks$Belt;)V"⟩
def RX3 : String := "BeltMarks$Pad"
def TX3 : u_T := fun k => match k with
  | 0 => ("BeltMarks$Pad", "signs", "[C", true)
  | _ => ("BeltMarks$Pad", "length", "I", false)
def tyX3 : Nat → FieldType := fun k => match k with
  | 0 => .array .char
  | _ => .int
abbrev wsX30 : List Cond := u_ws RX3 TX3 2
theorem nmX3 : ∀ a, a < 2 → ∀ b, b < 2 → a ≠ b → (TX3 a).2.1 ≠ (TX3 b).2.1 := by decide +kernel
theorem tyX3_ok : ∀ k, k < 2 → parseFieldDescriptor (TX3 k).2.2.1 = some (tyX3 k) := by decide +kernel
abbrev cX3_init : ByteArray := prog_5_method_1_code
def yX3_init : MethodName := ⟨RX3, "<init>", "()V"⟩
abbrev cX3_append : ByteArray := prog_5_method_2_code
def yX3_append : MethodName := ⟨RX3, "append", "(J)I"⟩
abbrev cX3_codeAt : ByteArray := prog_5_method_3_code
def yX3_codeAt : MethodName := ⟨RX3, "codeAt", "(JI)I"⟩
abbrev cX3_howMany : ByteArray := prog_5_method_4_code
def yX3_howMany : MethodName := ⟨RX3, "howMany", "(J)I"⟩
abbrev cX3_empty : ByteArray := prog_5_method_5_code
def yX3_empty : MethodName := ⟨RX3, "empty", "()I"⟩
abbrev cX3_signAt : ByteArray := prog_5_method_6_code
def yX3_signAt : MethodName := ⟨RX3, "signAt", "(I)C"⟩
abbrev cX3_firstFault : ByteArray := prog_5_method_7_code
def yX3_firstFault : MethodName := ⟨RX3, "firstFault", "()I"⟩
abbrev cX3_dueBehind : ByteArray := prog_5_method_8_code
def yX3_dueBehind : MethodName := ⟨RX3, "dueBehind", "(IC)I"⟩
abbrev cX3_behindOrder : ByteArray := prog_5_method_9_code
def yX3_behindOrder : MethodName := ⟨RX3, "behindOrder", "(C)I"⟩
abbrev cX3_isDigit : ByteArray := prog_5_method_10_code
def yX3_isDigit : MethodName := ⟨RX3, "isDigit", "(C)Z"⟩
abbrev cX3_isOrder : ByteArray := prog_5_method_11_code
def yX3_isOrder : MethodName := ⟨RX3, "isOrder", "(I)Z"⟩
abbrev cX3_numberAt : ByteArray := prog_5_method_12_code
def yX3_numberAt : MethodName := ⟨RX3, "numberAt", "(I)I"⟩
def RX4 : String := "BeltMarks"
def TX4 : u_T := fun k => match k with
  | 0 => ("BeltMarks", "belt", "LBeltMarks$Belt;", true)
  | 1 => ("BeltMarks", "trial", "LBeltMarks$Belt;", true)
  | 2 => ("BeltMarks", "history", "LBeltMarks$History;", true)
  | 3 => ("BeltMarks", "slots", "[LBeltMarks$Belt;", true)
  | 4 => ("BeltMarks", "saved", "[Z", true)
  | _ => ("BeltMarks", "pad", "LBeltMarks$Pad;", true)
def tyX4 : Nat → FieldType := fun k => match k with
  | 0 => .object "BeltMarks$Belt"
  | 1 => .object "BeltMarks$Belt"
  | 2 => .object "BeltMarks$History"
  | 3 => .array (.object "BeltMarks$Belt")
  | 4 => .array .boolean
  | _ => .object "BeltMarks$Pad"
abbrev wsX40 : List Cond := u_ws RX4 TX4 6
theorem nmX4 : ∀ a, a < 6 → ∀ b, b < 6 → a ≠ b → (TX4 a).2.1 ≠ (TX4 b).2.1 := by decide +kernel
theorem tyX4_ok : ∀ k, k < 6 → parseFieldDescriptor (TX4 k).2.2.1 = some (tyX4 k) := by decide +kernel
abbrev cX4_init : ByteArray := prog_1_method_1_code
def yX4_init : MethodName := ⟨RX4, "<init>", "()V"⟩
abbrev cX4_set : ByteArray := prog_1_method_2_code
def yX4_set : MethodName := ⟨RX4, "set", "(II)I"⟩
abbrev cX4_arrive : ByteArray := prog_1_method_3_code
def yX4_arrive : MethodName := ⟨RX4, "arrive", "(I)I"⟩
abbrev cX4_turn : ByteArray := prog_1_method_4_code
def yX4_turn : MethodName := ⟨RX4, "turn", "(II)I"⟩
abbrev cX4_pass : ByteArray := prog_1_method_5_code
def yX4_pass : MethodName := ⟨RX4, "pass", "(I)I"⟩
abbrev cX4_recorded : ByteArray := prog_1_method_6_code
def yX4_recorded : MethodName := ⟨RX4, "recorded", "(I)I"⟩
abbrev cX4_box : ByteArray := prog_1_method_7_code
def yX4_box : MethodName := ⟨RX4, "box", "(II)I"⟩
abbrev cX4_plan : ByteArray := prog_1_method_8_code
def yX4_plan : MethodName := ⟨RX4, "plan", "(I)I"⟩
abbrev cX4_report : ByteArray := prog_1_method_9_code
def yX4_report : MethodName := ⟨RX4, "report", "(II)I"⟩
abbrev cX4_count : ByteArray := prog_1_method_10_code
def yX4_count : MethodName := ⟨RX4, "count", "(I)I"⟩
abbrev cX4_ifPass : ByteArray := prog_1_method_11_code
def yX4_ifPass : MethodName := ⟨RX4, "ifPass", "(II)I"⟩
abbrev cX4_bestGuess : ByteArray := prog_1_method_12_code
def yX4_bestGuess : MethodName := ⟨RX4, "bestGuess", "(II)I"⟩
abbrev cX4_neededSlack : ByteArray := prog_1_method_13_code
def yX4_neededSlack : MethodName := ⟨RX4, "neededSlack", "(I)I"⟩
abbrev cX4_canTry : ByteArray := prog_1_method_14_code
def yX4_canTry : MethodName := ⟨RX4, "canTry", "(I)Z"⟩
abbrev cX4_goodWithGuess : ByteArray := prog_1_method_15_code
def yX4_goodWithGuess : MethodName := ⟨RX4, "goodWithGuess", "(II)I"⟩
abbrev cX4_starvesWithSlack : ByteArray := prog_1_method_16_code
def yX4_starvesWithSlack : MethodName := ⟨RX4, "starvesWithSlack", "(II)Z"⟩
abbrev cX4_put : ByteArray := prog_1_method_17_code
def yX4_put : MethodName := ⟨RX4, "put", "(J)I"⟩
abbrev cX4_wipe : ByteArray := prog_1_method_18_code
def yX4_wipe : MethodName := ⟨RX4, "wipe", "()I"⟩
abbrev cX4_fault : ByteArray := prog_1_method_19_code
def yX4_fault : MethodName := ⟨RX4, "fault", "()I"⟩
abbrev cX4_carryOut : ByteArray := prog_1_method_20_code
def yX4_carryOut : MethodName := ⟨RX4, "carryOut", "()I"⟩
abbrev cX4_follow : ByteArray := prog_1_method_21_code
def yX4_follow : MethodName := ⟨RX4, "follow", "(I)I"⟩
abbrev cX4_undo : ByteArray := prog_1_method_22_code
def yX4_undo : MethodName := ⟨RX4, "undo", "()I"⟩
abbrev cX4_save : ByteArray := prog_1_method_23_code
def yX4_save : MethodName := ⟨RX4, "save", "(I)I"⟩
abbrev cX4_restore : ByteArray := prog_1_method_24_code
def yX4_restore : MethodName := ⟨RX4, "restore", "(I)I"⟩
abbrev cX4_isSlot : ByteArray := prog_1_method_25_code
def yX4_isSlot : MethodName := ⟨RX4, "isSlot", "(I)Z"⟩
def RX5 : String := "BeltMarksModel"
def TX5 : u_T := fun k => match k with
  | 0 => ("BeltMarksModel", "all", "[I", true)
  | 1 => ("BeltMarksModel", "kept", "[I", true)
  | 2 => ("BeltMarksModel", "history", "[I", true)
  | 3 => ("BeltMarksModel", "historyLong", "I", false)
  | 4 => ("BeltMarksModel", "slots", "[I", true)
  | 5 => ("BeltMarksModel", "isSaved", "[I", true)
  | 6 => ("BeltMarksModel", "pad", "[I", true)
  | 7 => ("BeltMarksModel", "padLong", "I", false)
  | 8 => ("BeltMarksModel", "spot", "I", false)
  | 9 => ("BeltMarksModel", "order", "I", false)
  | 10 => ("BeltMarksModel", "whichBox", "I", false)
  | _ => ("BeltMarksModel", "number", "I", false)
def tyX5 : Nat → FieldType := fun k => match k with
  | 0 => .array .int
  | 1 => .array .int
  | 2 => .array .int
  | 3 => .int
  | 4 => .array .int
  | 5 => .array .int
  | 6 => .array .int
  | 7 => .int
  | 8 => .int
  | 9 => .int
  | 10 => .int
  | _ => .int
abbrev wsX50 : List Cond := u_ws RX5 TX5 12
theorem nmX5 : ∀ a, a < 12 → ∀ b, b < 12 → a ≠ b → (TX5 a).2.1 ≠ (TX5 b).2.1 := by decide +kernel
theorem tyX5_ok : ∀ k, k < 12 → parseFieldDescriptor (TX5 k).2.2.1 = some (tyX5 k) := by decide +kernel
abbrev cX5_init : ByteArray := prog_7_method_1_code
def yX5_init : MethodName := ⟨RX5, "<init>", "()V"⟩
abbrev cX5_in : ByteArray := prog_7_method_3_code
def yX5_in : MethodName := ⟨RX5, "in", "(JJJ)Z"⟩
abbrev cX5_keep : ByteArray := prog_7_method_4_code
def yX5_keep : MethodName := ⟨RX5, "keep", "()V"⟩
abbrev cX5_giveBack : ByteArray := prog_7_method_5_code
def yX5_giveBack : MethodName := ⟨RX5, "giveBack", "()V"⟩
abbrev cX5_changed : ByteArray := prog_7_method_6_code
def yX5_changed : MethodName := ⟨RX5, "changed", "(I)I"⟩
abbrev cX5_get : ByteArray := prog_7_method_7_code
def yX5_get : MethodName := ⟨RX5, "get", "(II)I"⟩
abbrev cX5_put : ByteArray := prog_7_method_8_code
def yX5_put : MethodName := ⟨RX5, "put", "(III)V"⟩
abbrev cX5_back : ByteArray := prog_7_method_9_code
def yX5_back : MethodName := ⟨RX5, "back", "(I)I"⟩
abbrev cX5_isBox : ByteArray := prog_7_method_10_code
def yX5_isBox : MethodName := ⟨RX5, "isBox", "(I)Z"⟩
abbrev cX5_isLength : ByteArray := prog_7_method_11_code
def yX5_isLength : MethodName := ⟨RX5, "isLength", "(I)Z"⟩
abbrev cX5_takesOut : ByteArray := prog_7_method_12_code
def yX5_takesOut : MethodName := ⟨RX5, "takesOut", "(IIII)V"⟩
abbrev cX5_moves : ByteArray := prog_7_method_13_code
def yX5_moves : MethodName := ⟨RX5, "moves", "()V"⟩
abbrev cX5_sees : ByteArray := prog_7_method_14_code
def yX5_sees : MethodName := ⟨RX5, "sees", "()V"⟩
abbrev cX5_guessedWay : ByteArray := prog_7_method_15_code
def yX5_guessedWay : MethodName := ⟨RX5, "guessedWay", "()I"⟩
abbrev cX5_plans : ByteArray := prog_7_method_16_code
def yX5_plans : MethodName := ⟨RX5, "plans", "()V"⟩
abbrev cX5_under : ByteArray := prog_7_method_17_code
def yX5_under : MethodName := ⟨RX5, "under", "()I"⟩
abbrev cX5_marks : ByteArray := prog_7_method_18_code
def yX5_marks : MethodName := ⟨RX5, "marks", "()V"⟩
abbrev cX5_doesPlans : ByteArray := prog_7_method_19_code
def yX5_doesPlans : MethodName := ⟨RX5, "doesPlans", "()V"⟩
abbrev cX5_judges : ByteArray := prog_7_method_20_code
def yX5_judges : MethodName := ⟨RX5, "judges", "(I)V"⟩
abbrev cX5_ticksOn : ByteArray := prog_7_method_21_code
def yX5_ticksOn : MethodName := ⟨RX5, "ticksOn", "()I"⟩
abbrev cX5_passes : ByteArray := prog_7_method_22_code
def yX5_passes : MethodName := ⟨RX5, "passes", "(I)I"⟩
abbrev cX5_isSetting : ByteArray := prog_7_method_23_code
def yX5_isSetting : MethodName := ⟨RX5, "isSetting", "(II)Z"⟩
abbrev cX5_doSet : ByteArray := prog_7_method_24_code
def yX5_doSet : MethodName := ⟨RX5, "doSet", "(II)I"⟩
abbrev cX5_doArrive : ByteArray := prog_7_method_25_code
def yX5_doArrive : MethodName := ⟨RX5, "doArrive", "(I)I"⟩
abbrev cX5_doTurn : ByteArray := prog_7_method_26_code
def yX5_doTurn : MethodName := ⟨RX5, "doTurn", "(II)I"⟩
abbrev cX5_areTicks : ByteArray := prog_7_method_27_code
def yX5_areTicks : MethodName := ⟨RX5, "areTicks", "(I)Z"⟩
abbrev cX5_doPass : ByteArray := prog_7_method_28_code
def yX5_doPass : MethodName := ⟨RX5, "doPass", "(I)I"⟩
abbrev cX5_set : ByteArray := prog_7_method_29_code
def yX5_set : MethodName := ⟨RX5, "set", "(II)I"⟩
abbrev cX5_arrive : ByteArray := prog_7_method_30_code
def yX5_arrive : MethodName := ⟨RX5, "arrive", "(I)I"⟩
abbrev cX5_turn : ByteArray := prog_7_method_31_code
def yX5_turn : MethodName := ⟨RX5, "turn", "(II)I"⟩
abbrev cX5_pass : ByteArray := prog_7_method_32_code
def yX5_pass : MethodName := ⟨RX5, "pass", "(I)I"⟩
abbrev cX5_box : ByteArray := prog_7_method_33_code
def yX5_box : MethodName := ⟨RX5, "box", "(II)I"⟩
abbrev cX5_plan : ByteArray := prog_7_method_34_code
def yX5_plan : MethodName := ⟨RX5, "plan", "(I)I"⟩
abbrev cX5_report : ByteArray := prog_7_method_35_code
def yX5_report : MethodName := ⟨RX5, "report", "(II)I"⟩
abbrev cX5_count : ByteArray := prog_7_method_36_code
def yX5_count : MethodName := ⟨RX5, "count", "(I)I"⟩
abbrev cX5_brings : ByteArray := prog_7_method_37_code
def yX5_brings : MethodName := ⟨RX5, "brings", "(II)I"⟩
abbrev cX5_ifPass : ByteArray := prog_7_method_38_code
def yX5_ifPass : MethodName := ⟨RX5, "ifPass", "(II)I"⟩
abbrev cX5_bestGuess : ByteArray := prog_7_method_39_code
def yX5_bestGuess : MethodName := ⟨RX5, "bestGuess", "(II)I"⟩
abbrev cX5_neededSlack : ByteArray := prog_7_method_40_code
def yX5_neededSlack : MethodName := ⟨RX5, "neededSlack", "(I)I"⟩
abbrev cX5_put_ : ByteArray := prog_7_method_41_code
def yX5_put_ : MethodName := ⟨RX5, "put", "(J)I"⟩
abbrev cX5_wipe : ByteArray := prog_7_method_42_code
def yX5_wipe : MethodName := ⟨RX5, "wipe", "()I"⟩
abbrev cX5_isHere : ByteArray := prog_7_method_43_code
def yX5_isHere : MethodName := ⟨RX5, "isHere", "(II)Z"⟩
abbrev cX5_takes : ByteArray := prog_7_method_44_code
def yX5_takes : MethodName := ⟨RX5, "takes", "(I)Z"⟩
abbrev cX5_readsNumber : ByteArray := prog_7_method_45_code
def yX5_readsNumber : MethodName := ⟨RX5, "readsNumber", "()Z"⟩
abbrev cX5_readsOrder : ByteArray := prog_7_method_46_code
def yX5_readsOrder : MethodName := ⟨RX5, "readsOrder", "()Z"⟩
abbrev cX5_fault : ByteArray := prog_7_method_47_code
def yX5_fault : MethodName := ⟨RX5, "fault", "()I"⟩
abbrev cX5_doOrder : ByteArray := prog_7_method_48_code
def yX5_doOrder : MethodName := ⟨RX5, "doOrder", "()I"⟩
abbrev cX5_carryOut : ByteArray := prog_7_method_49_code
def yX5_carryOut : MethodName := ⟨RX5, "carryOut", "()I"⟩
abbrev cX5_undo : ByteArray := prog_7_method_50_code
def yX5_undo : MethodName := ⟨RX5, "undo", "()I"⟩
abbrev cX5_save : ByteArray := prog_7_method_51_code
def yX5_save : MethodName := ⟨RX5, "save", "(I)I"⟩
abbrev cX5_restore : ByteArray := prog_7_method_52_code
def yX5_restore : MethodName := ⟨RX5, "restore", "(I)I"⟩
def RJx8e188 : String := "java/lang/Cloneable"
def TJx8e188 : u_T := fun k => match k with
  | _ => ("", "", "", false)
def tyJx8e188 : Nat → FieldType := fun k => match k with
  | _ => .int
abbrev wsJx8e1880 : List Cond := u_ws RJx8e188 TJx8e188 0
theorem nmJx8e188 : ∀ a, a < 0 → ∀ b, b < 0 → a ≠ b → (TJx8e188 a).2.1 ≠ (TJx8e188 b).2.1 := by decide +kernel
theorem tyJx8e188_ok : ∀ k, k < 0 → parseFieldDescriptor (TJx8e188 k).2.2.1 = some (tyJx8e188 k) := by decide +kernel
def RJ9 : String := "java/lang/Math"
def TJ9 : u_T := fun k => match k with
  | _ => ("", "", "", false)
def tyJ9 : Nat → FieldType := fun k => match k with
  | _ => .int
abbrev wsJ90 : List Cond := u_ws RJ9 TJ9 0
theorem nmJ9 : ∀ a, a < 0 → ∀ b, b < 0 → a ≠ b → (TJ9 a).2.1 ≠ (TJ9 b).2.1 := by decide +kernel
theorem tyJ9_ok : ∀ k, k < 0 → parseFieldDescriptor (TJ9 k).2.2.1 = some (tyJ9 k) := by decide +kernel
abbrev cJ9_floorDiv_7cf53 : ByteArray := prog_9_method_47_code
def yJ9_floorDiv_7cf53 : MethodName := ⟨RJ9, "floorDiv", "(II)I"⟩
abbrev cJ9_floorMod_7cf53 : ByteArray := prog_9_method_50_code
def yJ9_floorMod_7cf53 : MethodName := ⟨RJ9, "floorMod", "(II)I"⟩
abbrev cJ9_abs_0f7a4 : ByteArray := prog_9_method_59_code
def yJ9_abs_0f7a4 : MethodName := ⟨RJ9, "abs", "(I)I"⟩
abbrev cJ9_min_7cf53 : ByteArray := prog_9_method_69_code
def yJ9_min_7cf53 : MethodName := ⟨RJ9, "min", "(II)I"⟩
def RJ10 : String := "java/lang/System"
def TJ10 : u_T := fun k => match k with
  | _ => ("", "", "", false)
def tyJ10 : Nat → FieldType := fun k => match k with
  | _ => .int
abbrev wsJ100 : List Cond := u_ws RJ10 TJ10 0
theorem nmJ10 : ∀ a, a < 0 → ∀ b, b < 0 → a ≠ b → (TJ10 a).2.1 ≠ (TJ10 b).2.1 := by decide +kernel
theorem tyJ10_ok : ∀ k, k < 0 → parseFieldDescriptor (TJ10 k).2.2.1 = some (tyJ10 k) := by decide +kernel
def RL : String := "BeltMarksLaw"
abbrev cL_law : ByteArray := code
def yL_law : MethodName := ⟨RL, "law", "([I)Z"⟩
def wsX1_init : List Cond := .code yX1_init cX1_init 1 none :: ([.methodLink RX1 3 objectInit, .instanceMethod objectInit, .code objectInit ⟨#[0xb1]⟩ 1 none])
def wsX0_init : List Cond := .code yX0_init cX0_init 2 none :: ([.methodLink RX0 5 objectInit, .instanceMethod objectInit, .code objectInit ⟨#[0xb1]⟩ 1 none, .fieldLink RX0 11 "BeltMarks$Belt" "AT_FIRST" "[I", .methodLink RX0 15 ⟨"[I", "clone", "()Ljava/lang/Object;"⟩, .sameMethod "[I" "java/lang/Object" "clone" "()Ljava/lang/Object;", .native ⟨"java/lang/Object", "clone", "()Ljava/lang/Object;"⟩, .instanceMethod ⟨"java/lang/Object", "clone", "()Ljava/lang/Object;"⟩, .selects "[I" ⟨"[I", "clone", "()Ljava/lang/Object;"⟩ ⟨"java/lang/Object", "clone", "()Ljava/lang/Object;"⟩, .classLink RX0 16 "[I", .fieldLink RX0 20 "BeltMarks$Belt" "settings" "[I", .arrayClass .int, .fieldLink RX0 23 "BeltMarks$Belt" "tallies" "[I", .classLink RX0 26 RX1, .fieldLink RX0 28 "BeltMarks$Belt" "boxes" "[LBeltMarks$Box;", .fieldLink RX0 32 "BeltMarks$Belt" "comes" "[I", .fieldLink RX0 35 "BeltMarks$Belt" "excesses" "[I", .fieldLink RX0 38 "BeltMarks$Belt" "plans" "[I", .fieldLink RX0 41 "BeltMarks$Belt" "ways" "[I", .instantiable RX1 7, .initialized RX1, .instanceMethod yX1_init, .code yX1_init cX1_init 1 none, .methodLink RX1 3 objectInit] ++ wsX00 ++ wsX10)
def wsX1_copyFrom : List Cond := .code yX1_copyFrom cX1_copyFrom 2 none :: ([.fieldLink RX1 11 "BeltMarks$Box" "front" "I", .fieldLink RX1 15 "BeltMarks$Box" "length" "I", .fieldLink RX1 18 "BeltMarks$Box" "seen" "Z", .fieldLink RX1 22 "BeltMarks$Box" "marked" "Z", .fieldLink RX1 25 "BeltMarks$Box" "mark" "I", .fieldLink RX1 28 "BeltMarks$Box" "twice" "Z", .fieldLink RX1 31 "BeltMarks$Box" "number" "I"] ++ wsX10)
def wsX0_copyFrom_r1 : List Cond := [Cond.fieldLink RX0 20 "BeltMarks$Belt" "settings" "[I", Cond.methodLink RX0 45 arraycopyName, Cond.native arraycopyName, Cond.static arraycopyName, Cond.initialized "java/lang/System", Cond.fieldLink RX0 23 "BeltMarks$Belt" "tallies" "[I", Cond.fieldLink RX0 51 "BeltMarks$Belt" "boxCount" "I", Cond.fieldLink RX0 28 "BeltMarks$Belt" "boxes" "[LBeltMarks$Box;", Cond.fieldLink RX0 59 "BeltMarks$Belt" "reportCount" "I", Cond.fieldLink RX0 32 "BeltMarks$Belt" "comes" "[I", Cond.fieldLink RX0 35 "BeltMarks$Belt" "excesses" "[I", Cond.fieldLink RX0 62 "BeltMarks$Belt" "planCount" "I", Cond.fieldLink RX0 38 "BeltMarks$Belt" "plans" "[I", Cond.fieldLink RX0 41 "BeltMarks$Belt" "ways" "[I", Cond.methodLink RX0 55 yX1_copyFrom, Cond.instanceMethod yX1_copyFrom, Cond.selects RX1 yX1_copyFrom yX1_copyFrom, Cond.initialized RX1, Cond.code yX1_copyFrom cX1_copyFrom 2 none, Cond.fieldLink RX1 11 "BeltMarks$Box" "front" "I", Cond.fieldLink RX1 15 "BeltMarks$Box" "length" "I", Cond.fieldLink RX1 18 "BeltMarks$Box" "seen" "Z", Cond.fieldLink RX1 22 "BeltMarks$Box" "marked" "Z", Cond.fieldLink RX1 25 "BeltMarks$Box" "mark" "I"]
def wsX0_copyFrom_r2 : List Cond := [Cond.fieldLink RX1 28 "BeltMarks$Box" "twice" "Z", Cond.fieldLink RX1 31 "BeltMarks$Box" "number" "I"]
def wsX0_copyFrom : List Cond := .code yX0_copyFrom cX0_copyFrom 3 none :: ((wsX0_copyFrom_r1 ++ wsX0_copyFrom_r2) ++ wsX00 ++ wsX10)
def wsX0_choose : List Cond := .code yX0_choose cX0_choose 4 (some .int) :: ([.fieldLink RX0 20 "BeltMarks$Belt" "settings" "[I", .fieldLink RX0 65 "BeltMarks$Belt" "LOWEST" "[I", .fieldLink RX0 68 "BeltMarks$Belt" "HIGHEST" "[I"] ++ wsX00)
def wsX1_canHave : List Cond := .code yX1_canHave cX1_canHave 1 (some .boolean) :: ([])
def wsX1_back : List Cond := .code yX1_back cX1_back 1 (some .int) :: ([.fieldLink RX1 11 "BeltMarks$Box" "front" "I", .fieldLink RX1 15 "BeltMarks$Box" "length" "I"] ++ wsX10)
def wsX1_begin : List Cond := .code yX1_begin cX1_begin 3 none :: ([.fieldLink RX1 11 "BeltMarks$Box" "front" "I", .fieldLink RX1 15 "BeltMarks$Box" "length" "I", .fieldLink RX1 18 "BeltMarks$Box" "seen" "Z", .fieldLink RX1 22 "BeltMarks$Box" "marked" "Z", .fieldLink RX1 25 "BeltMarks$Box" "mark" "I", .fieldLink RX1 28 "BeltMarks$Box" "twice" "Z", .fieldLink RX1 31 "BeltMarks$Box" "number" "I"] ++ wsX10)
def wsX0_takeBox : List Cond := .code yX0_takeBox cX0_takeBox 2 (some .int) :: ([.fieldLink RX0 51 "BeltMarks$Belt" "boxCount" "I", .fieldLink RX0 28 "BeltMarks$Belt" "boxes" "[LBeltMarks$Box;", .fieldLink RX0 23 "BeltMarks$Belt" "tallies" "[I", .methodLink RX0 71 yX1_canHave, .static yX1_canHave, .initialized RX1, .code yX1_canHave cX1_canHave 1 (some .boolean), .methodLink RX0 75 yX1_back, .instanceMethod yX1_back, .selects RX1 yX1_back yX1_back, .code yX1_back cX1_back 1 (some .int), .fieldLink RX1 11 "BeltMarks$Box" "front" "I", .fieldLink RX1 15 "BeltMarks$Box" "length" "I", .methodLink RX0 79 yX1_begin, .instanceMethod yX1_begin, .selects RX1 yX1_begin yX1_begin, .code yX1_begin cX1_begin 3 none, .fieldLink RX1 18 "BeltMarks$Box" "seen" "Z", .fieldLink RX1 22 "BeltMarks$Box" "marked" "Z", .fieldLink RX1 25 "BeltMarks$Box" "mark" "I", .fieldLink RX1 28 "BeltMarks$Box" "twice" "Z", .fieldLink RX1 31 "BeltMarks$Box" "number" "I"] ++ wsX00 ++ wsX10)
def wsX0_isBox : List Cond := .code yX0_isBox cX0_isBox 2 (some .boolean) :: ([.fieldLink RX0 51 "BeltMarks$Belt" "boxCount" "I"] ++ wsX00)
def wsJ9_floorDiv_7cf53 : List Cond := .code yJ9_floorDiv_7cf53 cJ9_floorDiv_7cf53 3 (some .int) :: ([])
def wsX0_hasRoom : List Cond := .code yX0_hasRoom cX0_hasRoom 4 (some .boolean) :: ([.fieldLink RX0 28 "BeltMarks$Belt" "boxes" "[LBeltMarks$Box;", .fieldLink RX0 51 "BeltMarks$Belt" "boxCount" "I", .fieldLink RX0 86 "BeltMarks$Box" "front" "I", .methodLink RX0 75 yX1_back, .instanceMethod yX1_back, .selects RX1 yX1_back yX1_back, .initialized RX1, .code yX1_back cX1_back 1 (some .int), .fieldLink RX1 11 "BeltMarks$Box" "front" "I", .fieldLink RX1 15 "BeltMarks$Box" "length" "I"] ++ wsX00 ++ wsX10)
def wsX0_turnBox_r1 : List Cond := [Cond.fieldLink RX0 28 "BeltMarks$Belt" "boxes" "[LBeltMarks$Box;", Cond.fieldLink RX0 86 "BeltMarks$Box" "front" "I", Cond.fieldLink RX0 89 "BeltMarks$Box" "length" "I", Cond.methodLink RX0 83 yX0_isBox, Cond.instanceMethod yX0_isBox, Cond.selects RX0 yX0_isBox yX0_isBox, Cond.initialized RX0, Cond.code yX0_isBox cX0_isBox 2 (some .boolean), Cond.fieldLink RX0 51 "BeltMarks$Belt" "boxCount" "I", Cond.methodLink RX0 71 yX1_canHave, Cond.static yX1_canHave, Cond.initialized RX1, Cond.code yX1_canHave cX1_canHave 1 (some .boolean), Cond.methodLink RX0 92 yJ9_floorDiv_7cf53, Cond.static yJ9_floorDiv_7cf53, Cond.initialized RJ9, Cond.code yJ9_floorDiv_7cf53 cJ9_floorDiv_7cf53 3 (some .int), Cond.methodLink RX0 98 yX0_hasRoom, Cond.instanceMethod yX0_hasRoom, Cond.selects RX0 yX0_hasRoom yX0_hasRoom, Cond.code yX0_hasRoom cX0_hasRoom 4 (some .boolean), Cond.methodLink RX0 75 yX1_back, Cond.instanceMethod yX1_back, Cond.selects RX1 yX1_back yX1_back]
def wsX0_turnBox_r2 : List Cond := [Cond.code yX1_back cX1_back 1 (some .int), Cond.fieldLink RX1 11 "BeltMarks$Box" "front" "I", Cond.fieldLink RX1 15 "BeltMarks$Box" "length" "I"]
def wsX0_turnBox : List Cond := .code yX0_turnBox cX0_turnBox 5 (some .int) :: ((wsX0_turnBox_r1 ++ wsX0_turnBox_r2) ++ wsX00 ++ wsX10)
def wsX0_howManyLeft : List Cond := .code yX0_howManyLeft cX0_howManyLeft 1 (some .int) :: ([.fieldLink RX0 23 "BeltMarks$Belt" "tallies" "[I"] ++ wsX00)
def wsX0_moveOn : List Cond := .code yX0_moveOn cX0_moveOn 3 none :: ([.fieldLink RX0 20 "BeltMarks$Belt" "settings" "[I", .fieldLink RX0 51 "BeltMarks$Belt" "boxCount" "I", .fieldLink RX0 28 "BeltMarks$Belt" "boxes" "[LBeltMarks$Box;", .fieldLink RX0 86 "BeltMarks$Box" "front" "I", .fieldLink RX0 23 "BeltMarks$Belt" "tallies" "[I", .fieldLink RX0 41 "BeltMarks$Belt" "ways" "[I"] ++ wsX00 ++ wsX10)
def wsX0_addReport : List Cond := .code yX0_addReport cX0_addReport 2 none :: ([.fieldLink RX0 59 "BeltMarks$Belt" "reportCount" "I", .fieldLink RX0 32 "BeltMarks$Belt" "comes" "[I", .fieldLink RX0 23 "BeltMarks$Belt" "tallies" "[I", .fieldLink RX0 20 "BeltMarks$Belt" "settings" "[I", .fieldLink RX0 35 "BeltMarks$Belt" "excesses" "[I"] ++ wsX00)
def wsX0_seeBoxes : List Cond := .code yX0_seeBoxes cX0_seeBoxes 3 none :: ([.fieldLink RX0 51 "BeltMarks$Belt" "boxCount" "I", .fieldLink RX0 28 "BeltMarks$Belt" "boxes" "[LBeltMarks$Box;", .fieldLink RX0 134 "BeltMarks$Box" "seen" "Z", .fieldLink RX0 86 "BeltMarks$Box" "front" "I", .methodLink RX0 138 yX0_addReport, .instanceMethod yX0_addReport, .selects RX0 yX0_addReport yX0_addReport, .initialized RX0, .code yX0_addReport cX0_addReport 2 none, .fieldLink RX0 59 "BeltMarks$Belt" "reportCount" "I", .fieldLink RX0 32 "BeltMarks$Belt" "comes" "[I", .fieldLink RX0 23 "BeltMarks$Belt" "tallies" "[I", .fieldLink RX0 20 "BeltMarks$Belt" "settings" "[I", .fieldLink RX0 35 "BeltMarks$Belt" "excesses" "[I"] ++ wsX00 ++ wsX10)
def wsX0_countPlansDown : List Cond := .code yX0_countPlansDown cX0_countPlansDown 2 none :: ([.fieldLink RX0 62 "BeltMarks$Belt" "planCount" "I", .fieldLink RX0 38 "BeltMarks$Belt" "plans" "[I", .fieldLink RX0 20 "BeltMarks$Belt" "settings" "[I"] ++ wsX00)
def wsX0_guessedWay : List Cond := .code yX0_guessedWay cX0_guessedWay 3 (some .int) :: ([.fieldLink RX0 20 "BeltMarks$Belt" "settings" "[I", .fieldLink RX0 41 "BeltMarks$Belt" "ways" "[I"] ++ wsX00)
def wsX0_addPlan : List Cond := .code yX0_addPlan cX0_addPlan 2 none :: ([.fieldLink RX0 62 "BeltMarks$Belt" "planCount" "I", .fieldLink RX0 38 "BeltMarks$Belt" "plans" "[I", .fieldLink RX0 20 "BeltMarks$Belt" "settings" "[I", .methodLink RX0 144 yX0_guessedWay, .instanceMethod yX0_guessedWay, .selects RX0 yX0_guessedWay yX0_guessedWay, .initialized RX0, .code yX0_guessedWay cX0_guessedWay 3 (some .int), .fieldLink RX0 41 "BeltMarks$Belt" "ways" "[I"] ++ wsX00)
def wsX0_takeReports : List Cond := .code yX0_takeReports cX0_takeReports 3 none :: ([.fieldLink RX0 59 "BeltMarks$Belt" "reportCount" "I", .fieldLink RX0 32 "BeltMarks$Belt" "comes" "[I", .fieldLink RX0 23 "BeltMarks$Belt" "tallies" "[I", .fieldLink RX0 35 "BeltMarks$Belt" "excesses" "[I", .methodLink RX0 141 yX0_addPlan, .instanceMethod yX0_addPlan, .selects RX0 yX0_addPlan yX0_addPlan, .initialized RX0, .code yX0_addPlan cX0_addPlan 2 none, .fieldLink RX0 62 "BeltMarks$Belt" "planCount" "I", .fieldLink RX0 38 "BeltMarks$Belt" "plans" "[I", .fieldLink RX0 20 "BeltMarks$Belt" "settings" "[I", .methodLink RX0 144 yX0_guessedWay, .instanceMethod yX0_guessedWay, .selects RX0 yX0_guessedWay yX0_guessedWay, .code yX0_guessedWay cX0_guessedWay 3 (some .int), .fieldLink RX0 41 "BeltMarks$Belt" "ways" "[I"] ++ wsX00)
def wsX1_liesUnder : List Cond := .code yX1_liesUnder cX1_liesUnder 2 (some .boolean) :: ([.fieldLink RX1 11 "BeltMarks$Box" "front" "I", .fieldLink RX1 15 "BeltMarks$Box" "length" "I"] ++ wsX10)
def wsX0_markBox : List Cond := .code yX0_markBox cX0_markBox 2 none :: ([.fieldLink RX0 23 "BeltMarks$Belt" "tallies" "[I", .fieldLink RX0 156 "BeltMarks$Box" "marked" "Z", .fieldLink RX0 159 "BeltMarks$Box" "twice" "Z", .fieldLink RX0 86 "BeltMarks$Box" "front" "I", .fieldLink RX0 162 "BeltMarks$Box" "mark" "I"] ++ wsX00 ++ wsX10)
def wsX0_useLabel : List Cond := .code yX0_useLabel cX0_useLabel 2 none :: ([.fieldLink RX0 23 "BeltMarks$Belt" "tallies" "[I", .fieldLink RX0 20 "BeltMarks$Belt" "settings" "[I", .fieldLink RX0 51 "BeltMarks$Belt" "boxCount" "I", .fieldLink RX0 28 "BeltMarks$Belt" "boxes" "[LBeltMarks$Box;", .methodLink RX0 150 yX1_liesUnder, .instanceMethod yX1_liesUnder, .selects RX1 yX1_liesUnder yX1_liesUnder, .initialized RX1, .code yX1_liesUnder cX1_liesUnder 2 (some .boolean), .fieldLink RX1 11 "BeltMarks$Box" "front" "I", .fieldLink RX1 15 "BeltMarks$Box" "length" "I", .methodLink RX0 153 yX0_markBox, .instanceMethod yX0_markBox, .selects RX0 yX0_markBox yX0_markBox, .initialized RX0, .code yX0_markBox cX0_markBox 2 none, .fieldLink RX0 156 "BeltMarks$Box" "marked" "Z", .fieldLink RX0 159 "BeltMarks$Box" "twice" "Z", .fieldLink RX0 86 "BeltMarks$Box" "front" "I", .fieldLink RX0 162 "BeltMarks$Box" "mark" "I"] ++ wsX00 ++ wsX10)
def wsX0_doPlans_r1 : List Cond := [Cond.fieldLink RX0 62 "BeltMarks$Belt" "planCount" "I", Cond.fieldLink RX0 38 "BeltMarks$Belt" "plans" "[I", Cond.methodLink RX0 147 yX0_useLabel, Cond.instanceMethod yX0_useLabel, Cond.selects RX0 yX0_useLabel yX0_useLabel, Cond.initialized RX0, Cond.code yX0_useLabel cX0_useLabel 2 none, Cond.fieldLink RX0 23 "BeltMarks$Belt" "tallies" "[I", Cond.fieldLink RX0 20 "BeltMarks$Belt" "settings" "[I", Cond.fieldLink RX0 51 "BeltMarks$Belt" "boxCount" "I", Cond.fieldLink RX0 28 "BeltMarks$Belt" "boxes" "[LBeltMarks$Box;", Cond.methodLink RX0 150 yX1_liesUnder, Cond.instanceMethod yX1_liesUnder, Cond.selects RX1 yX1_liesUnder yX1_liesUnder, Cond.initialized RX1, Cond.code yX1_liesUnder cX1_liesUnder 2 (some .boolean), Cond.fieldLink RX1 11 "BeltMarks$Box" "front" "I", Cond.fieldLink RX1 15 "BeltMarks$Box" "length" "I", Cond.methodLink RX0 153 yX0_markBox, Cond.instanceMethod yX0_markBox, Cond.selects RX0 yX0_markBox yX0_markBox, Cond.code yX0_markBox cX0_markBox 2 none, Cond.fieldLink RX0 156 "BeltMarks$Box" "marked" "Z", Cond.fieldLink RX0 159 "BeltMarks$Box" "twice" "Z"]
def wsX0_doPlans_r2 : List Cond := [Cond.fieldLink RX0 86 "BeltMarks$Box" "front" "I", Cond.fieldLink RX0 162 "BeltMarks$Box" "mark" "I"]
def wsX0_doPlans : List Cond := .code yX0_doPlans cX0_doPlans 3 none :: ((wsX0_doPlans_r1 ++ wsX0_doPlans_r2) ++ wsX00 ++ wsX10)
def wsX0_feed : List Cond := .code yX0_feed cX0_feed 1 none :: ([.fieldLink RX0 23 "BeltMarks$Belt" "tallies" "[I", .fieldLink RX0 20 "BeltMarks$Belt" "settings" "[I", .methodLink RX0 165 Lib.Math.min.name, .static Lib.Math.min.name, .initialized "java/lang/Math", .code Lib.Math.min.name Lib.Math.min.code 2 (some .int)] ++ wsX00)
def wsX0_fate : List Cond := .code yX0_fate cX0_fate 3 (some .int) :: ([.fieldLink RX0 156 "BeltMarks$Box" "marked" "Z", .fieldLink RX0 162 "BeltMarks$Box" "mark" "I", .fieldLink RX0 20 "BeltMarks$Belt" "settings" "[I", .methodLink RX0 172 Lib.Math.abs.name, .static Lib.Math.abs.name, .initialized "java/lang/Math", .code Lib.Math.abs.name Lib.Math.abs.code 1 (some .int), .fieldLink RX0 159 "BeltMarks$Box" "twice" "Z"] ++ wsX10 ++ wsX00)
def wsX0_letBoxesLeave : List Cond := .code yX0_letBoxesLeave cX0_letBoxesLeave 4 none :: ([.fieldLink RX0 51 "BeltMarks$Belt" "boxCount" "I", .fieldLink RX0 28 "BeltMarks$Belt" "boxes" "[LBeltMarks$Box;", .fieldLink RX0 23 "BeltMarks$Belt" "tallies" "[I", .methodLink RX0 75 yX1_back, .instanceMethod yX1_back, .selects RX1 yX1_back yX1_back, .initialized RX1, .code yX1_back cX1_back 1 (some .int), .fieldLink RX1 11 "BeltMarks$Box" "front" "I", .fieldLink RX1 15 "BeltMarks$Box" "length" "I", .methodLink RX0 168 yX0_fate, .instanceMethod yX0_fate, .selects RX0 yX0_fate yX0_fate, .initialized RX0, .code yX0_fate cX0_fate 3 (some .int), .fieldLink RX0 156 "BeltMarks$Box" "marked" "Z", .fieldLink RX0 162 "BeltMarks$Box" "mark" "I", .fieldLink RX0 20 "BeltMarks$Belt" "settings" "[I", .methodLink RX0 172 Lib.Math.abs.name, .static Lib.Math.abs.name, .initialized "java/lang/Math", .code Lib.Math.abs.name Lib.Math.abs.code 1 (some .int), .fieldLink RX0 159 "BeltMarks$Box" "twice" "Z"] ++ wsX00 ++ wsX10)
def wsX0_tickOn_r1 : List Cond := [Cond.fieldLink RX0 23 "BeltMarks$Belt" "tallies" "[I", Cond.methodLink RX0 113 yX0_moveOn, Cond.instanceMethod yX0_moveOn, Cond.selects RX0 yX0_moveOn yX0_moveOn, Cond.initialized RX0, Cond.code yX0_moveOn cX0_moveOn 3 none, Cond.fieldLink RX0 20 "BeltMarks$Belt" "settings" "[I", Cond.fieldLink RX0 51 "BeltMarks$Belt" "boxCount" "I", Cond.fieldLink RX0 28 "BeltMarks$Belt" "boxes" "[LBeltMarks$Box;", Cond.fieldLink RX0 86 "BeltMarks$Box" "front" "I", Cond.fieldLink RX0 41 "BeltMarks$Belt" "ways" "[I", Cond.methodLink RX0 116 yX0_seeBoxes, Cond.instanceMethod yX0_seeBoxes, Cond.selects RX0 yX0_seeBoxes yX0_seeBoxes, Cond.code yX0_seeBoxes cX0_seeBoxes 3 none, Cond.fieldLink RX0 134 "BeltMarks$Box" "seen" "Z", Cond.methodLink RX0 138 yX0_addReport, Cond.instanceMethod yX0_addReport, Cond.selects RX0 yX0_addReport yX0_addReport, Cond.code yX0_addReport cX0_addReport 2 none, Cond.fieldLink RX0 59 "BeltMarks$Belt" "reportCount" "I", Cond.fieldLink RX0 32 "BeltMarks$Belt" "comes" "[I", Cond.fieldLink RX0 35 "BeltMarks$Belt" "excesses" "[I", Cond.methodLink RX0 119 yX0_countPlansDown]
def wsX0_tickOn_r2 : List Cond := [Cond.instanceMethod yX0_countPlansDown, Cond.selects RX0 yX0_countPlansDown yX0_countPlansDown, Cond.code yX0_countPlansDown cX0_countPlansDown 2 none, Cond.fieldLink RX0 62 "BeltMarks$Belt" "planCount" "I", Cond.fieldLink RX0 38 "BeltMarks$Belt" "plans" "[I", Cond.methodLink RX0 122 yX0_takeReports, Cond.instanceMethod yX0_takeReports, Cond.selects RX0 yX0_takeReports yX0_takeReports, Cond.code yX0_takeReports cX0_takeReports 3 none, Cond.methodLink RX0 141 yX0_addPlan, Cond.instanceMethod yX0_addPlan, Cond.selects RX0 yX0_addPlan yX0_addPlan, Cond.code yX0_addPlan cX0_addPlan 2 none, Cond.methodLink RX0 144 yX0_guessedWay, Cond.instanceMethod yX0_guessedWay, Cond.selects RX0 yX0_guessedWay yX0_guessedWay, Cond.code yX0_guessedWay cX0_guessedWay 3 (some .int), Cond.methodLink RX0 125 yX0_doPlans, Cond.instanceMethod yX0_doPlans, Cond.selects RX0 yX0_doPlans yX0_doPlans, Cond.code yX0_doPlans cX0_doPlans 3 none, Cond.methodLink RX0 147 yX0_useLabel, Cond.instanceMethod yX0_useLabel, Cond.selects RX0 yX0_useLabel yX0_useLabel]
def wsX0_tickOn_r3 : List Cond := [Cond.code yX0_useLabel cX0_useLabel 2 none, Cond.methodLink RX0 150 yX1_liesUnder, Cond.instanceMethod yX1_liesUnder, Cond.selects RX1 yX1_liesUnder yX1_liesUnder, Cond.initialized RX1, Cond.code yX1_liesUnder cX1_liesUnder 2 (some .boolean), Cond.fieldLink RX1 11 "BeltMarks$Box" "front" "I", Cond.fieldLink RX1 15 "BeltMarks$Box" "length" "I", Cond.methodLink RX0 153 yX0_markBox, Cond.instanceMethod yX0_markBox, Cond.selects RX0 yX0_markBox yX0_markBox, Cond.code yX0_markBox cX0_markBox 2 none, Cond.fieldLink RX0 156 "BeltMarks$Box" "marked" "Z", Cond.fieldLink RX0 159 "BeltMarks$Box" "twice" "Z", Cond.fieldLink RX0 162 "BeltMarks$Box" "mark" "I", Cond.methodLink RX0 128 yX0_feed, Cond.instanceMethod yX0_feed, Cond.selects RX0 yX0_feed yX0_feed, Cond.code yX0_feed cX0_feed 1 none, Cond.methodLink RX0 165 Lib.Math.min.name, Cond.static Lib.Math.min.name, Cond.initialized "java/lang/Math", Cond.code Lib.Math.min.name Lib.Math.min.code 2 (some .int), Cond.methodLink RX0 131 yX0_letBoxesLeave]
def wsX0_tickOn_r4 : List Cond := [Cond.instanceMethod yX0_letBoxesLeave, Cond.selects RX0 yX0_letBoxesLeave yX0_letBoxesLeave, Cond.code yX0_letBoxesLeave cX0_letBoxesLeave 4 none, Cond.methodLink RX0 75 yX1_back, Cond.instanceMethod yX1_back, Cond.selects RX1 yX1_back yX1_back, Cond.code yX1_back cX1_back 1 (some .int), Cond.methodLink RX0 168 yX0_fate, Cond.instanceMethod yX0_fate, Cond.selects RX0 yX0_fate yX0_fate, Cond.code yX0_fate cX0_fate 3 (some .int), Cond.methodLink RX0 172 Lib.Math.abs.name, Cond.static Lib.Math.abs.name, Cond.code Lib.Math.abs.name Lib.Math.abs.code 1 (some .int)]
def wsX0_tickOn : List Cond := .code yX0_tickOn cX0_tickOn 3 none :: ((wsX0_tickOn_r1 ++ (wsX0_tickOn_r2 ++ (wsX0_tickOn_r3 ++ wsX0_tickOn_r4))) ++ wsX00 ++ wsX10)
def wsX0_letPass_r1 : List Cond := [Cond.fieldLink RX0 23 "BeltMarks$Belt" "tallies" "[I", Cond.methodLink RX0 102 yX0_howManyLeft, Cond.instanceMethod yX0_howManyLeft, Cond.selects RX0 yX0_howManyLeft yX0_howManyLeft, Cond.initialized RX0, Cond.code yX0_howManyLeft cX0_howManyLeft 1 (some .int), Cond.methodLink RX0 105 yX0_tickOn, Cond.instanceMethod yX0_tickOn, Cond.selects RX0 yX0_tickOn yX0_tickOn, Cond.code yX0_tickOn cX0_tickOn 3 none, Cond.methodLink RX0 113 yX0_moveOn, Cond.instanceMethod yX0_moveOn, Cond.selects RX0 yX0_moveOn yX0_moveOn, Cond.code yX0_moveOn cX0_moveOn 3 none, Cond.fieldLink RX0 20 "BeltMarks$Belt" "settings" "[I", Cond.fieldLink RX0 51 "BeltMarks$Belt" "boxCount" "I", Cond.fieldLink RX0 28 "BeltMarks$Belt" "boxes" "[LBeltMarks$Box;", Cond.fieldLink RX0 86 "BeltMarks$Box" "front" "I", Cond.fieldLink RX0 41 "BeltMarks$Belt" "ways" "[I", Cond.methodLink RX0 116 yX0_seeBoxes, Cond.instanceMethod yX0_seeBoxes, Cond.selects RX0 yX0_seeBoxes yX0_seeBoxes, Cond.code yX0_seeBoxes cX0_seeBoxes 3 none, Cond.fieldLink RX0 134 "BeltMarks$Box" "seen" "Z"]
def wsX0_letPass_r2 : List Cond := [Cond.methodLink RX0 138 yX0_addReport, Cond.instanceMethod yX0_addReport, Cond.selects RX0 yX0_addReport yX0_addReport, Cond.code yX0_addReport cX0_addReport 2 none, Cond.fieldLink RX0 59 "BeltMarks$Belt" "reportCount" "I", Cond.fieldLink RX0 32 "BeltMarks$Belt" "comes" "[I", Cond.fieldLink RX0 35 "BeltMarks$Belt" "excesses" "[I", Cond.methodLink RX0 119 yX0_countPlansDown, Cond.instanceMethod yX0_countPlansDown, Cond.selects RX0 yX0_countPlansDown yX0_countPlansDown, Cond.code yX0_countPlansDown cX0_countPlansDown 2 none, Cond.fieldLink RX0 62 "BeltMarks$Belt" "planCount" "I", Cond.fieldLink RX0 38 "BeltMarks$Belt" "plans" "[I", Cond.methodLink RX0 122 yX0_takeReports, Cond.instanceMethod yX0_takeReports, Cond.selects RX0 yX0_takeReports yX0_takeReports, Cond.code yX0_takeReports cX0_takeReports 3 none, Cond.methodLink RX0 141 yX0_addPlan, Cond.instanceMethod yX0_addPlan, Cond.selects RX0 yX0_addPlan yX0_addPlan, Cond.code yX0_addPlan cX0_addPlan 2 none, Cond.methodLink RX0 144 yX0_guessedWay, Cond.instanceMethod yX0_guessedWay, Cond.selects RX0 yX0_guessedWay yX0_guessedWay]
def wsX0_letPass_r3 : List Cond := [Cond.code yX0_guessedWay cX0_guessedWay 3 (some .int), Cond.methodLink RX0 125 yX0_doPlans, Cond.instanceMethod yX0_doPlans, Cond.selects RX0 yX0_doPlans yX0_doPlans, Cond.code yX0_doPlans cX0_doPlans 3 none, Cond.methodLink RX0 147 yX0_useLabel, Cond.instanceMethod yX0_useLabel, Cond.selects RX0 yX0_useLabel yX0_useLabel, Cond.code yX0_useLabel cX0_useLabel 2 none, Cond.methodLink RX0 150 yX1_liesUnder, Cond.instanceMethod yX1_liesUnder, Cond.selects RX1 yX1_liesUnder yX1_liesUnder, Cond.initialized RX1, Cond.code yX1_liesUnder cX1_liesUnder 2 (some .boolean), Cond.fieldLink RX1 11 "BeltMarks$Box" "front" "I", Cond.fieldLink RX1 15 "BeltMarks$Box" "length" "I", Cond.methodLink RX0 153 yX0_markBox, Cond.instanceMethod yX0_markBox, Cond.selects RX0 yX0_markBox yX0_markBox, Cond.code yX0_markBox cX0_markBox 2 none, Cond.fieldLink RX0 156 "BeltMarks$Box" "marked" "Z", Cond.fieldLink RX0 159 "BeltMarks$Box" "twice" "Z", Cond.fieldLink RX0 162 "BeltMarks$Box" "mark" "I", Cond.methodLink RX0 128 yX0_feed]
def wsX0_letPass_r4 : List Cond := [Cond.instanceMethod yX0_feed, Cond.selects RX0 yX0_feed yX0_feed, Cond.code yX0_feed cX0_feed 1 none, Cond.methodLink RX0 165 Lib.Math.min.name, Cond.static Lib.Math.min.name, Cond.initialized "java/lang/Math", Cond.code Lib.Math.min.name Lib.Math.min.code 2 (some .int), Cond.methodLink RX0 131 yX0_letBoxesLeave, Cond.instanceMethod yX0_letBoxesLeave, Cond.selects RX0 yX0_letBoxesLeave yX0_letBoxesLeave, Cond.code yX0_letBoxesLeave cX0_letBoxesLeave 4 none, Cond.methodLink RX0 75 yX1_back, Cond.instanceMethod yX1_back, Cond.selects RX1 yX1_back yX1_back, Cond.code yX1_back cX1_back 1 (some .int), Cond.methodLink RX0 168 yX0_fate, Cond.instanceMethod yX0_fate, Cond.selects RX0 yX0_fate yX0_fate, Cond.code yX0_fate cX0_fate 3 (some .int), Cond.methodLink RX0 172 Lib.Math.abs.name, Cond.static Lib.Math.abs.name, Cond.code Lib.Math.abs.name Lib.Math.abs.code 1 (some .int)]
def wsX0_letPass : List Cond := .code yX0_letPass cX0_letPass 3 (some .int) :: ((wsX0_letPass_r1 ++ (wsX0_letPass_r2 ++ (wsX0_letPass_r3 ++ wsX0_letPass_r4))) ++ wsX00 ++ wsX10)
def wsX1_tell : List Cond := .code yX1_tell cX1_tell 2 (some .int) :: ([.fieldLink RX1 11 "BeltMarks$Box" "front" "I", .fieldLink RX1 15 "BeltMarks$Box" "length" "I", .fieldLink RX1 18 "BeltMarks$Box" "seen" "Z", .fieldLink RX1 22 "BeltMarks$Box" "marked" "Z", .fieldLink RX1 25 "BeltMarks$Box" "mark" "I", .fieldLink RX1 28 "BeltMarks$Box" "twice" "Z", .fieldLink RX1 31 "BeltMarks$Box" "number" "I"] ++ wsX10)
def wsX0_aboutBox : List Cond := .code yX0_aboutBox cX0_aboutBox 3 (some .int) :: ([.fieldLink RX0 28 "BeltMarks$Belt" "boxes" "[LBeltMarks$Box;", .methodLink RX0 83 yX0_isBox, .instanceMethod yX0_isBox, .selects RX0 yX0_isBox yX0_isBox, .initialized RX0, .code yX0_isBox cX0_isBox 2 (some .boolean), .fieldLink RX0 51 "BeltMarks$Belt" "boxCount" "I", .methodLink RX0 109 yX1_tell, .instanceMethod yX1_tell, .selects RX1 yX1_tell yX1_tell, .initialized RX1, .code yX1_tell cX1_tell 2 (some .int), .fieldLink RX1 11 "BeltMarks$Box" "front" "I", .fieldLink RX1 15 "BeltMarks$Box" "length" "I", .fieldLink RX1 18 "BeltMarks$Box" "seen" "Z", .fieldLink RX1 22 "BeltMarks$Box" "marked" "Z", .fieldLink RX1 25 "BeltMarks$Box" "mark" "I", .fieldLink RX1 28 "BeltMarks$Box" "twice" "Z", .fieldLink RX1 31 "BeltMarks$Box" "number" "I"] ++ wsX00 ++ wsX10)
def wsX0_planAt : List Cond := .code yX0_planAt cX0_planAt 2 (some .int) :: ([.fieldLink RX0 62 "BeltMarks$Belt" "planCount" "I", .fieldLink RX0 38 "BeltMarks$Belt" "plans" "[I"] ++ wsX00)
def wsX0_aboutReport : List Cond := .code yX0_aboutReport cX0_aboutReport 3 (some .int) :: ([.fieldLink RX0 59 "BeltMarks$Belt" "reportCount" "I", .fieldLink RX0 32 "BeltMarks$Belt" "comes" "[I", .fieldLink RX0 23 "BeltMarks$Belt" "tallies" "[I", .fieldLink RX0 35 "BeltMarks$Belt" "excesses" "[I"] ++ wsX00)
def wsX0_number : List Cond := .code yX0_number cX0_number 3 (some .int) :: ([.fieldLink RX0 51 "BeltMarks$Belt" "boxCount" "I", .fieldLink RX0 59 "BeltMarks$Belt" "reportCount" "I", .fieldLink RX0 62 "BeltMarks$Belt" "planCount" "I", .fieldLink RX0 23 "BeltMarks$Belt" "tallies" "[I", .fieldLink RX0 20 "BeltMarks$Belt" "settings" "[I"] ++ wsX00)
def wsX2_init_r1 : List Cond := [Cond.methodLink RX2 3 objectInit, Cond.instanceMethod objectInit, Cond.code objectInit ⟨#[0xb1]⟩ 1 none, Cond.classLink RX2 9 RX0, Cond.fieldLink RX2 11 "BeltMarks$History" "states" "[LBeltMarks$Belt;", Cond.instantiable RX0 10, Cond.initialized RX0, Cond.methodLink RX2 15 yX0_init, Cond.instanceMethod yX0_init, Cond.code yX0_init cX0_init 2 none, Cond.methodLink RX0 5 objectInit, Cond.fieldLink RX0 11 "BeltMarks$Belt" "AT_FIRST" "[I", Cond.methodLink RX0 15 ⟨"[I", "clone", "()Ljava/lang/Object;"⟩, Cond.sameMethod "[I" "java/lang/Object" "clone" "()Ljava/lang/Object;", Cond.native ⟨"java/lang/Object", "clone", "()Ljava/lang/Object;"⟩, Cond.instanceMethod ⟨"java/lang/Object", "clone", "()Ljava/lang/Object;"⟩, Cond.selects "[I" ⟨"[I", "clone", "()Ljava/lang/Object;"⟩ ⟨"java/lang/Object", "clone", "()Ljava/lang/Object;"⟩, Cond.classLink RX0 16 "[I", Cond.fieldLink RX0 20 "BeltMarks$Belt" "settings" "[I", Cond.arrayClass .int, Cond.fieldLink RX0 23 "BeltMarks$Belt" "tallies" "[I", Cond.classLink RX0 26 RX1, Cond.fieldLink RX0 28 "BeltMarks$Belt" "boxes" "[LBeltMarks$Box;", Cond.fieldLink RX0 32 "BeltMarks$Belt" "comes" "[I"]
def wsX2_init_r2 : List Cond := [Cond.fieldLink RX0 35 "BeltMarks$Belt" "excesses" "[I", Cond.fieldLink RX0 38 "BeltMarks$Belt" "plans" "[I", Cond.fieldLink RX0 41 "BeltMarks$Belt" "ways" "[I", Cond.instantiable RX1 7, Cond.initialized RX1, Cond.instanceMethod yX1_init, Cond.code yX1_init cX1_init 1 none, Cond.methodLink RX1 3 objectInit]
def wsX2_init : List Cond := .code yX2_init cX2_init 2 none :: ((wsX2_init_r1 ++ wsX2_init_r2) ++ wsX20 ++ wsX00 ++ wsX10)
def wsJ9_floorMod_7cf53 : List Cond := .code yJ9_floorMod_7cf53 cJ9_floorMod_7cf53 3 (some .int) :: ([])
def wsX2_stateAt : List Cond := .code yX2_stateAt cX2_stateAt 2 (some (.object "BeltMarks$Belt")) :: ([.fieldLink RX2 11 "BeltMarks$History" "states" "[LBeltMarks$Belt;", .fieldLink RX2 16 "BeltMarks$History" "oldest" "I", .methodLink RX2 20 yJ9_floorMod_7cf53, .static yJ9_floorMod_7cf53, .initialized RJ9, .code yJ9_floorMod_7cf53 cJ9_floorMod_7cf53 3 (some .int)] ++ wsX20)
def wsX2_note_r1 : List Cond := [Cond.fieldLink RX2 26 "BeltMarks$History" "size" "I", Cond.methodLink RX2 29 yX2_stateAt, Cond.instanceMethod yX2_stateAt, Cond.selects RX2 yX2_stateAt yX2_stateAt, Cond.initialized RX2, Cond.code yX2_stateAt cX2_stateAt 2 (some (.object "BeltMarks$Belt")), Cond.fieldLink RX2 11 "BeltMarks$History" "states" "[LBeltMarks$Belt;", Cond.fieldLink RX2 16 "BeltMarks$History" "oldest" "I", Cond.methodLink RX2 20 yJ9_floorMod_7cf53, Cond.static yJ9_floorMod_7cf53, Cond.initialized RJ9, Cond.code yJ9_floorMod_7cf53 cJ9_floorMod_7cf53 3 (some .int), Cond.methodLink RX2 33 yX0_copyFrom, Cond.instanceMethod yX0_copyFrom, Cond.selects RX0 yX0_copyFrom yX0_copyFrom, Cond.initialized RX0, Cond.code yX0_copyFrom cX0_copyFrom 3 none, Cond.fieldLink RX0 20 "BeltMarks$Belt" "settings" "[I", Cond.methodLink RX0 45 arraycopyName, Cond.native arraycopyName, Cond.static arraycopyName, Cond.initialized "java/lang/System", Cond.fieldLink RX0 23 "BeltMarks$Belt" "tallies" "[I", Cond.fieldLink RX0 51 "BeltMarks$Belt" "boxCount" "I"]
def wsX2_note_r2 : List Cond := [Cond.fieldLink RX0 28 "BeltMarks$Belt" "boxes" "[LBeltMarks$Box;", Cond.fieldLink RX0 59 "BeltMarks$Belt" "reportCount" "I", Cond.fieldLink RX0 32 "BeltMarks$Belt" "comes" "[I", Cond.fieldLink RX0 35 "BeltMarks$Belt" "excesses" "[I", Cond.fieldLink RX0 62 "BeltMarks$Belt" "planCount" "I", Cond.fieldLink RX0 38 "BeltMarks$Belt" "plans" "[I", Cond.fieldLink RX0 41 "BeltMarks$Belt" "ways" "[I", Cond.methodLink RX0 55 yX1_copyFrom, Cond.instanceMethod yX1_copyFrom, Cond.selects RX1 yX1_copyFrom yX1_copyFrom, Cond.initialized RX1, Cond.code yX1_copyFrom cX1_copyFrom 2 none, Cond.fieldLink RX1 11 "BeltMarks$Box" "front" "I", Cond.fieldLink RX1 15 "BeltMarks$Box" "length" "I", Cond.fieldLink RX1 18 "BeltMarks$Box" "seen" "Z", Cond.fieldLink RX1 22 "BeltMarks$Box" "marked" "Z", Cond.fieldLink RX1 25 "BeltMarks$Box" "mark" "I", Cond.fieldLink RX1 28 "BeltMarks$Box" "twice" "Z", Cond.fieldLink RX1 31 "BeltMarks$Box" "number" "I"]
def wsX2_note : List Cond := .code yX2_note cX2_note 2 none :: ((wsX2_note_r1 ++ wsX2_note_r2) ++ wsX20 ++ wsX00 ++ wsX10)
def wsX2_keepNoted : List Cond := .code yX2_keepNoted cX2_keepNoted 1 none :: ([.fieldLink RX2 26 "BeltMarks$History" "size" "I", .fieldLink RX2 16 "BeltMarks$History" "oldest" "I", .methodLink RX2 20 yJ9_floorMod_7cf53, .static yJ9_floorMod_7cf53, .initialized RJ9, .code yJ9_floorMod_7cf53 cJ9_floorMod_7cf53 3 (some .int)] ++ wsX20)
def wsX2_takeBack_r1 : List Cond := [Cond.fieldLink RX2 26 "BeltMarks$History" "size" "I", Cond.methodLink RX2 29 yX2_stateAt, Cond.instanceMethod yX2_stateAt, Cond.selects RX2 yX2_stateAt yX2_stateAt, Cond.initialized RX2, Cond.code yX2_stateAt cX2_stateAt 2 (some (.object "BeltMarks$Belt")), Cond.fieldLink RX2 11 "BeltMarks$History" "states" "[LBeltMarks$Belt;", Cond.fieldLink RX2 16 "BeltMarks$History" "oldest" "I", Cond.methodLink RX2 20 yJ9_floorMod_7cf53, Cond.static yJ9_floorMod_7cf53, Cond.initialized RJ9, Cond.code yJ9_floorMod_7cf53 cJ9_floorMod_7cf53 3 (some .int), Cond.methodLink RX2 33 yX0_copyFrom, Cond.instanceMethod yX0_copyFrom, Cond.selects RX0 yX0_copyFrom yX0_copyFrom, Cond.initialized RX0, Cond.code yX0_copyFrom cX0_copyFrom 3 none, Cond.fieldLink RX0 20 "BeltMarks$Belt" "settings" "[I", Cond.methodLink RX0 45 arraycopyName, Cond.native arraycopyName, Cond.static arraycopyName, Cond.initialized "java/lang/System", Cond.fieldLink RX0 23 "BeltMarks$Belt" "tallies" "[I", Cond.fieldLink RX0 51 "BeltMarks$Belt" "boxCount" "I"]
def wsX2_takeBack_r2 : List Cond := [Cond.fieldLink RX0 28 "BeltMarks$Belt" "boxes" "[LBeltMarks$Box;", Cond.fieldLink RX0 59 "BeltMarks$Belt" "reportCount" "I", Cond.fieldLink RX0 32 "BeltMarks$Belt" "comes" "[I", Cond.fieldLink RX0 35 "BeltMarks$Belt" "excesses" "[I", Cond.fieldLink RX0 62 "BeltMarks$Belt" "planCount" "I", Cond.fieldLink RX0 38 "BeltMarks$Belt" "plans" "[I", Cond.fieldLink RX0 41 "BeltMarks$Belt" "ways" "[I", Cond.methodLink RX0 55 yX1_copyFrom, Cond.instanceMethod yX1_copyFrom, Cond.selects RX1 yX1_copyFrom yX1_copyFrom, Cond.initialized RX1, Cond.code yX1_copyFrom cX1_copyFrom 2 none, Cond.fieldLink RX1 11 "BeltMarks$Box" "front" "I", Cond.fieldLink RX1 15 "BeltMarks$Box" "length" "I", Cond.fieldLink RX1 18 "BeltMarks$Box" "seen" "Z", Cond.fieldLink RX1 22 "BeltMarks$Box" "marked" "Z", Cond.fieldLink RX1 25 "BeltMarks$Box" "mark" "I", Cond.fieldLink RX1 28 "BeltMarks$Box" "twice" "Z", Cond.fieldLink RX1 31 "BeltMarks$Box" "number" "I"]
def wsX2_takeBack : List Cond := .code yX2_takeBack cX2_takeBack 2 none :: ((wsX2_takeBack_r1 ++ wsX2_takeBack_r2) ++ wsX20 ++ wsX00 ++ wsX10)
def wsX3_init : List Cond := .code yX3_init cX3_init 1 none :: ([.methodLink RX3 3 objectInit, .instanceMethod objectInit, .code objectInit ⟨#[0xb1]⟩ 1 none, .arrayClass .char, .fieldLink RX3 11 "BeltMarks$Pad" "signs" "[C"] ++ wsX30)
def wsX3_codeAt : List Cond := .code yX3_codeAt cX3_codeAt 3 (some .int) :: ([])
def wsX3_howMany : List Cond := .code yX3_howMany cX3_howMany 4 (some .int) :: ([.methodLink RX3 23 yX3_codeAt, .static yX3_codeAt, .initialized RX3, .code yX3_codeAt cX3_codeAt 3 (some .int)])
def wsX3_append : List Cond := .code yX3_append cX3_append 5 (some .int) :: ([.fieldLink RX3 19 "BeltMarks$Pad" "length" "I", .fieldLink RX3 11 "BeltMarks$Pad" "signs" "[C", .methodLink RX3 15 yX3_howMany, .static yX3_howMany, .initialized RX3, .code yX3_howMany cX3_howMany 4 (some .int), .methodLink RX3 23 yX3_codeAt, .static yX3_codeAt, .code yX3_codeAt cX3_codeAt 3 (some .int)] ++ wsX30)
def wsX3_empty : List Cond := .code yX3_empty cX3_empty 2 (some .int) :: ([.fieldLink RX3 19 "BeltMarks$Pad" "length" "I"] ++ wsX30)
def wsX3_signAt : List Cond := .code yX3_signAt cX3_signAt 2 (some .char) :: ([.fieldLink RX3 19 "BeltMarks$Pad" "length" "I", .fieldLink RX3 11 "BeltMarks$Pad" "signs" "[C"] ++ wsX30)
def wsX3_behindOrder : List Cond := .code yX3_behindOrder cX3_behindOrder 1 (some .int) :: ([])
def wsX3_isDigit : List Cond := .code yX3_isDigit cX3_isDigit 1 (some .boolean) :: ([])
def wsX3_dueBehind : List Cond := .code yX3_dueBehind cX3_dueBehind 2 (some .int) :: ([.methodLink RX3 31 yX3_behindOrder, .static yX3_behindOrder, .initialized RX3, .code yX3_behindOrder cX3_behindOrder 1 (some .int), .methodLink RX3 35 yX3_isDigit, .static yX3_isDigit, .code yX3_isDigit cX3_isDigit 1 (some .boolean)])
def wsX3_firstFault : List Cond := .code yX3_firstFault cX3_firstFault 3 (some .int) :: ([.fieldLink RX3 19 "BeltMarks$Pad" "length" "I", .fieldLink RX3 11 "BeltMarks$Pad" "signs" "[C", .methodLink RX3 27 yX3_dueBehind, .static yX3_dueBehind, .initialized RX3, .code yX3_dueBehind cX3_dueBehind 2 (some .int), .methodLink RX3 31 yX3_behindOrder, .static yX3_behindOrder, .code yX3_behindOrder cX3_behindOrder 1 (some .int), .methodLink RX3 35 yX3_isDigit, .static yX3_isDigit, .code yX3_isDigit cX3_isDigit 1 (some .boolean)] ++ wsX30)
def wsX3_isOrder : List Cond := .code yX3_isOrder cX3_isOrder 2 (some .boolean) :: ([.methodLink RX3 39 yX3_signAt, .instanceMethod yX3_signAt, .selects RX3 yX3_signAt yX3_signAt, .initialized RX3, .code yX3_signAt cX3_signAt 2 (some .char), .fieldLink RX3 19 "BeltMarks$Pad" "length" "I", .fieldLink RX3 11 "BeltMarks$Pad" "signs" "[C"] ++ wsX30)
def wsX3_numberAt : List Cond := .code yX3_numberAt cX3_numberAt 4 (some .int) :: ([.fieldLink RX3 19 "BeltMarks$Pad" "length" "I", .methodLink RX3 39 yX3_signAt, .instanceMethod yX3_signAt, .selects RX3 yX3_signAt yX3_signAt, .initialized RX3, .code yX3_signAt cX3_signAt 2 (some .char), .fieldLink RX3 11 "BeltMarks$Pad" "signs" "[C", .methodLink RX3 35 yX3_isDigit, .static yX3_isDigit, .code yX3_isDigit cX3_isDigit 1 (some .boolean)] ++ wsX30)
def wsX4_init_r1 : List Cond := [Cond.methodLink RX4 1 objectInit, Cond.instanceMethod objectInit, Cond.code objectInit ⟨#[0xb1]⟩ 1 none, Cond.classLink RX4 7 RX0, Cond.instantiable RX0 10, Cond.initialized RX0, Cond.fieldLink RX4 10 "BeltMarks" "belt" "LBeltMarks$Belt;", Cond.fieldLink RX4 16 "BeltMarks" "trial" "LBeltMarks$Belt;", Cond.classLink RX4 19 RX2, Cond.instantiable RX2 3, Cond.initialized RX2, Cond.fieldLink RX4 22 "BeltMarks" "history" "LBeltMarks$History;", Cond.fieldLink RX4 26 "BeltMarks" "slots" "[LBeltMarks$Belt;", Cond.arrayClass .boolean, Cond.fieldLink RX4 30 "BeltMarks" "saved" "[Z", Cond.classLink RX4 34 RX3, Cond.instantiable RX3 2, Cond.initialized RX3, Cond.fieldLink RX4 37 "BeltMarks" "pad" "LBeltMarks$Pad;", Cond.methodLink RX4 9 yX0_init, Cond.instanceMethod yX0_init, Cond.code yX0_init cX0_init 2 none, Cond.methodLink RX0 5 objectInit, Cond.fieldLink RX0 11 "BeltMarks$Belt" "AT_FIRST" "[I"]
def wsX4_init_r2 : List Cond := [Cond.methodLink RX0 15 ⟨"[I", "clone", "()Ljava/lang/Object;"⟩, Cond.sameMethod "[I" "java/lang/Object" "clone" "()Ljava/lang/Object;", Cond.native ⟨"java/lang/Object", "clone", "()Ljava/lang/Object;"⟩, Cond.instanceMethod ⟨"java/lang/Object", "clone", "()Ljava/lang/Object;"⟩, Cond.selects "[I" ⟨"[I", "clone", "()Ljava/lang/Object;"⟩ ⟨"java/lang/Object", "clone", "()Ljava/lang/Object;"⟩, Cond.classLink RX0 16 "[I", Cond.fieldLink RX0 20 "BeltMarks$Belt" "settings" "[I", Cond.arrayClass .int, Cond.fieldLink RX0 23 "BeltMarks$Belt" "tallies" "[I", Cond.classLink RX0 26 RX1, Cond.fieldLink RX0 28 "BeltMarks$Belt" "boxes" "[LBeltMarks$Box;", Cond.fieldLink RX0 32 "BeltMarks$Belt" "comes" "[I", Cond.fieldLink RX0 35 "BeltMarks$Belt" "excesses" "[I", Cond.fieldLink RX0 38 "BeltMarks$Belt" "plans" "[I", Cond.fieldLink RX0 41 "BeltMarks$Belt" "ways" "[I", Cond.instantiable RX1 7, Cond.initialized RX1, Cond.instanceMethod yX1_init, Cond.code yX1_init cX1_init 1 none, Cond.methodLink RX1 3 objectInit, Cond.methodLink RX4 21 yX2_init, Cond.instanceMethod yX2_init, Cond.code yX2_init cX2_init 2 none, Cond.methodLink RX2 3 objectInit]
def wsX4_init_r3 : List Cond := [Cond.classLink RX2 9 RX0, Cond.fieldLink RX2 11 "BeltMarks$History" "states" "[LBeltMarks$Belt;", Cond.methodLink RX2 15 yX0_init, Cond.instanceMethod yX3_init, Cond.code yX3_init cX3_init 1 none, Cond.methodLink RX3 3 objectInit, Cond.arrayClass .char, Cond.fieldLink RX3 11 "BeltMarks$Pad" "signs" "[C"]
def wsX4_init : List Cond := .code yX4_init cX4_init 1 none :: ((wsX4_init_r1 ++ (wsX4_init_r2 ++ wsX4_init_r3)) ++ wsX00 ++ wsX40 ++ wsX20 ++ wsX30 ++ wsX10)
def wsX4_recorded : List Cond := .code yX4_recorded cX4_recorded 2 (some .int) :: ([.fieldLink RX4 22 "BeltMarks" "history" "LBeltMarks$History;", .methodLink RX4 62 yX2_keepNoted, .instanceMethod yX2_keepNoted, .selects RX2 yX2_keepNoted yX2_keepNoted, .initialized RX2, .code yX2_keepNoted cX2_keepNoted 1 none, .fieldLink RX2 26 "BeltMarks$History" "size" "I", .fieldLink RX2 16 "BeltMarks$History" "oldest" "I", .methodLink RX2 20 yJ9_floorMod_7cf53, .static yJ9_floorMod_7cf53, .initialized RJ9, .code yJ9_floorMod_7cf53 cJ9_floorMod_7cf53 3 (some .int)] ++ wsX40 ++ wsX20)
def wsX4_set_r1 : List Cond := [Cond.fieldLink RX4 22 "BeltMarks" "history" "LBeltMarks$History;", Cond.fieldLink RX4 10 "BeltMarks" "belt" "LBeltMarks$Belt;", Cond.methodLink RX4 41 yX2_note, Cond.instanceMethod yX2_note, Cond.selects RX2 yX2_note yX2_note, Cond.initialized RX2, Cond.code yX2_note cX2_note 2 none, Cond.fieldLink RX2 26 "BeltMarks$History" "size" "I", Cond.methodLink RX2 29 yX2_stateAt, Cond.instanceMethod yX2_stateAt, Cond.selects RX2 yX2_stateAt yX2_stateAt, Cond.code yX2_stateAt cX2_stateAt 2 (some (.object "BeltMarks$Belt")), Cond.fieldLink RX2 11 "BeltMarks$History" "states" "[LBeltMarks$Belt;", Cond.fieldLink RX2 16 "BeltMarks$History" "oldest" "I", Cond.methodLink RX2 20 yJ9_floorMod_7cf53, Cond.static yJ9_floorMod_7cf53, Cond.initialized RJ9, Cond.code yJ9_floorMod_7cf53 cJ9_floorMod_7cf53 3 (some .int), Cond.methodLink RX2 33 yX0_copyFrom, Cond.instanceMethod yX0_copyFrom, Cond.selects RX0 yX0_copyFrom yX0_copyFrom, Cond.initialized RX0, Cond.code yX0_copyFrom cX0_copyFrom 3 none, Cond.fieldLink RX0 20 "BeltMarks$Belt" "settings" "[I"]
def wsX4_set_r2 : List Cond := [Cond.methodLink RX0 45 arraycopyName, Cond.native arraycopyName, Cond.static arraycopyName, Cond.initialized "java/lang/System", Cond.fieldLink RX0 23 "BeltMarks$Belt" "tallies" "[I", Cond.fieldLink RX0 51 "BeltMarks$Belt" "boxCount" "I", Cond.fieldLink RX0 28 "BeltMarks$Belt" "boxes" "[LBeltMarks$Box;", Cond.fieldLink RX0 59 "BeltMarks$Belt" "reportCount" "I", Cond.fieldLink RX0 32 "BeltMarks$Belt" "comes" "[I", Cond.fieldLink RX0 35 "BeltMarks$Belt" "excesses" "[I", Cond.fieldLink RX0 62 "BeltMarks$Belt" "planCount" "I", Cond.fieldLink RX0 38 "BeltMarks$Belt" "plans" "[I", Cond.fieldLink RX0 41 "BeltMarks$Belt" "ways" "[I", Cond.methodLink RX0 55 yX1_copyFrom, Cond.instanceMethod yX1_copyFrom, Cond.selects RX1 yX1_copyFrom yX1_copyFrom, Cond.initialized RX1, Cond.code yX1_copyFrom cX1_copyFrom 2 none, Cond.fieldLink RX1 11 "BeltMarks$Box" "front" "I", Cond.fieldLink RX1 15 "BeltMarks$Box" "length" "I", Cond.fieldLink RX1 18 "BeltMarks$Box" "seen" "Z", Cond.fieldLink RX1 22 "BeltMarks$Box" "marked" "Z", Cond.fieldLink RX1 25 "BeltMarks$Box" "mark" "I", Cond.fieldLink RX1 28 "BeltMarks$Box" "twice" "Z"]
def wsX4_set_r3 : List Cond := [Cond.fieldLink RX1 31 "BeltMarks$Box" "number" "I", Cond.methodLink RX4 45 yX0_choose, Cond.instanceMethod yX0_choose, Cond.selects RX0 yX0_choose yX0_choose, Cond.code yX0_choose cX0_choose 4 (some .int), Cond.fieldLink RX0 65 "BeltMarks$Belt" "LOWEST" "[I", Cond.fieldLink RX0 68 "BeltMarks$Belt" "HIGHEST" "[I", Cond.methodLink RX4 49 yX4_recorded, Cond.instanceMethod yX4_recorded, Cond.selects RX4 yX4_recorded yX4_recorded, Cond.initialized RX4, Cond.code yX4_recorded cX4_recorded 2 (some .int), Cond.methodLink RX4 62 yX2_keepNoted, Cond.instanceMethod yX2_keepNoted, Cond.selects RX2 yX2_keepNoted yX2_keepNoted, Cond.code yX2_keepNoted cX2_keepNoted 1 none]
def wsX4_set : List Cond := .code yX4_set cX4_set 3 (some .int) :: ((wsX4_set_r1 ++ (wsX4_set_r2 ++ wsX4_set_r3)) ++ wsX40 ++ wsX20 ++ wsX00 ++ wsX10)
def wsX4_arrive_r1 : List Cond := [Cond.fieldLink RX4 22 "BeltMarks" "history" "LBeltMarks$History;", Cond.fieldLink RX4 10 "BeltMarks" "belt" "LBeltMarks$Belt;", Cond.methodLink RX4 41 yX2_note, Cond.instanceMethod yX2_note, Cond.selects RX2 yX2_note yX2_note, Cond.initialized RX2, Cond.code yX2_note cX2_note 2 none, Cond.fieldLink RX2 26 "BeltMarks$History" "size" "I", Cond.methodLink RX2 29 yX2_stateAt, Cond.instanceMethod yX2_stateAt, Cond.selects RX2 yX2_stateAt yX2_stateAt, Cond.code yX2_stateAt cX2_stateAt 2 (some (.object "BeltMarks$Belt")), Cond.fieldLink RX2 11 "BeltMarks$History" "states" "[LBeltMarks$Belt;", Cond.fieldLink RX2 16 "BeltMarks$History" "oldest" "I", Cond.methodLink RX2 20 yJ9_floorMod_7cf53, Cond.static yJ9_floorMod_7cf53, Cond.initialized RJ9, Cond.code yJ9_floorMod_7cf53 cJ9_floorMod_7cf53 3 (some .int), Cond.methodLink RX2 33 yX0_copyFrom, Cond.instanceMethod yX0_copyFrom, Cond.selects RX0 yX0_copyFrom yX0_copyFrom, Cond.initialized RX0, Cond.code yX0_copyFrom cX0_copyFrom 3 none, Cond.fieldLink RX0 20 "BeltMarks$Belt" "settings" "[I"]
def wsX4_arrive_r2 : List Cond := [Cond.methodLink RX0 45 arraycopyName, Cond.native arraycopyName, Cond.static arraycopyName, Cond.initialized "java/lang/System", Cond.fieldLink RX0 23 "BeltMarks$Belt" "tallies" "[I", Cond.fieldLink RX0 51 "BeltMarks$Belt" "boxCount" "I", Cond.fieldLink RX0 28 "BeltMarks$Belt" "boxes" "[LBeltMarks$Box;", Cond.fieldLink RX0 59 "BeltMarks$Belt" "reportCount" "I", Cond.fieldLink RX0 32 "BeltMarks$Belt" "comes" "[I", Cond.fieldLink RX0 35 "BeltMarks$Belt" "excesses" "[I", Cond.fieldLink RX0 62 "BeltMarks$Belt" "planCount" "I", Cond.fieldLink RX0 38 "BeltMarks$Belt" "plans" "[I", Cond.fieldLink RX0 41 "BeltMarks$Belt" "ways" "[I", Cond.methodLink RX0 55 yX1_copyFrom, Cond.instanceMethod yX1_copyFrom, Cond.selects RX1 yX1_copyFrom yX1_copyFrom, Cond.initialized RX1, Cond.code yX1_copyFrom cX1_copyFrom 2 none, Cond.fieldLink RX1 11 "BeltMarks$Box" "front" "I", Cond.fieldLink RX1 15 "BeltMarks$Box" "length" "I", Cond.fieldLink RX1 18 "BeltMarks$Box" "seen" "Z", Cond.fieldLink RX1 22 "BeltMarks$Box" "marked" "Z", Cond.fieldLink RX1 25 "BeltMarks$Box" "mark" "I", Cond.fieldLink RX1 28 "BeltMarks$Box" "twice" "Z"]
def wsX4_arrive_r3 : List Cond := [Cond.fieldLink RX1 31 "BeltMarks$Box" "number" "I", Cond.methodLink RX4 53 yX0_takeBox, Cond.instanceMethod yX0_takeBox, Cond.selects RX0 yX0_takeBox yX0_takeBox, Cond.code yX0_takeBox cX0_takeBox 2 (some .int), Cond.methodLink RX0 71 yX1_canHave, Cond.static yX1_canHave, Cond.code yX1_canHave cX1_canHave 1 (some .boolean), Cond.methodLink RX0 75 yX1_back, Cond.instanceMethod yX1_back, Cond.selects RX1 yX1_back yX1_back, Cond.code yX1_back cX1_back 1 (some .int), Cond.methodLink RX0 79 yX1_begin, Cond.instanceMethod yX1_begin, Cond.selects RX1 yX1_begin yX1_begin, Cond.code yX1_begin cX1_begin 3 none, Cond.methodLink RX4 49 yX4_recorded, Cond.instanceMethod yX4_recorded, Cond.selects RX4 yX4_recorded yX4_recorded, Cond.initialized RX4, Cond.code yX4_recorded cX4_recorded 2 (some .int), Cond.methodLink RX4 62 yX2_keepNoted, Cond.instanceMethod yX2_keepNoted, Cond.selects RX2 yX2_keepNoted yX2_keepNoted]
def wsX4_arrive_r4 : List Cond := [Cond.code yX2_keepNoted cX2_keepNoted 1 none]
def wsX4_arrive : List Cond := .code yX4_arrive cX4_arrive 2 (some .int) :: ((wsX4_arrive_r1 ++ (wsX4_arrive_r2 ++ (wsX4_arrive_r3 ++ wsX4_arrive_r4))) ++ wsX40 ++ wsX20 ++ wsX00 ++ wsX10)
def wsX4_turn_r1 : List Cond := [Cond.fieldLink RX4 22 "BeltMarks" "history" "LBeltMarks$History;", Cond.fieldLink RX4 10 "BeltMarks" "belt" "LBeltMarks$Belt;", Cond.methodLink RX4 41 yX2_note, Cond.instanceMethod yX2_note, Cond.selects RX2 yX2_note yX2_note, Cond.initialized RX2, Cond.code yX2_note cX2_note 2 none, Cond.fieldLink RX2 26 "BeltMarks$History" "size" "I", Cond.methodLink RX2 29 yX2_stateAt, Cond.instanceMethod yX2_stateAt, Cond.selects RX2 yX2_stateAt yX2_stateAt, Cond.code yX2_stateAt cX2_stateAt 2 (some (.object "BeltMarks$Belt")), Cond.fieldLink RX2 11 "BeltMarks$History" "states" "[LBeltMarks$Belt;", Cond.fieldLink RX2 16 "BeltMarks$History" "oldest" "I", Cond.methodLink RX2 20 yJ9_floorMod_7cf53, Cond.static yJ9_floorMod_7cf53, Cond.initialized RJ9, Cond.code yJ9_floorMod_7cf53 cJ9_floorMod_7cf53 3 (some .int), Cond.methodLink RX2 33 yX0_copyFrom, Cond.instanceMethod yX0_copyFrom, Cond.selects RX0 yX0_copyFrom yX0_copyFrom, Cond.initialized RX0, Cond.code yX0_copyFrom cX0_copyFrom 3 none, Cond.fieldLink RX0 20 "BeltMarks$Belt" "settings" "[I"]
def wsX4_turn_r2 : List Cond := [Cond.methodLink RX0 45 arraycopyName, Cond.native arraycopyName, Cond.static arraycopyName, Cond.initialized "java/lang/System", Cond.fieldLink RX0 23 "BeltMarks$Belt" "tallies" "[I", Cond.fieldLink RX0 51 "BeltMarks$Belt" "boxCount" "I", Cond.fieldLink RX0 28 "BeltMarks$Belt" "boxes" "[LBeltMarks$Box;", Cond.fieldLink RX0 59 "BeltMarks$Belt" "reportCount" "I", Cond.fieldLink RX0 32 "BeltMarks$Belt" "comes" "[I", Cond.fieldLink RX0 35 "BeltMarks$Belt" "excesses" "[I", Cond.fieldLink RX0 62 "BeltMarks$Belt" "planCount" "I", Cond.fieldLink RX0 38 "BeltMarks$Belt" "plans" "[I", Cond.fieldLink RX0 41 "BeltMarks$Belt" "ways" "[I", Cond.methodLink RX0 55 yX1_copyFrom, Cond.instanceMethod yX1_copyFrom, Cond.selects RX1 yX1_copyFrom yX1_copyFrom, Cond.initialized RX1, Cond.code yX1_copyFrom cX1_copyFrom 2 none, Cond.fieldLink RX1 11 "BeltMarks$Box" "front" "I", Cond.fieldLink RX1 15 "BeltMarks$Box" "length" "I", Cond.fieldLink RX1 18 "BeltMarks$Box" "seen" "Z", Cond.fieldLink RX1 22 "BeltMarks$Box" "marked" "Z", Cond.fieldLink RX1 25 "BeltMarks$Box" "mark" "I", Cond.fieldLink RX1 28 "BeltMarks$Box" "twice" "Z"]
def wsX4_turn_r3 : List Cond := [Cond.fieldLink RX1 31 "BeltMarks$Box" "number" "I", Cond.methodLink RX4 56 yX0_turnBox, Cond.instanceMethod yX0_turnBox, Cond.selects RX0 yX0_turnBox yX0_turnBox, Cond.code yX0_turnBox cX0_turnBox 5 (some .int), Cond.fieldLink RX0 86 "BeltMarks$Box" "front" "I", Cond.fieldLink RX0 89 "BeltMarks$Box" "length" "I", Cond.methodLink RX0 83 yX0_isBox, Cond.instanceMethod yX0_isBox, Cond.selects RX0 yX0_isBox yX0_isBox, Cond.code yX0_isBox cX0_isBox 2 (some .boolean), Cond.methodLink RX0 71 yX1_canHave, Cond.static yX1_canHave, Cond.code yX1_canHave cX1_canHave 1 (some .boolean), Cond.methodLink RX0 92 yJ9_floorDiv_7cf53, Cond.static yJ9_floorDiv_7cf53, Cond.code yJ9_floorDiv_7cf53 cJ9_floorDiv_7cf53 3 (some .int), Cond.methodLink RX0 98 yX0_hasRoom, Cond.instanceMethod yX0_hasRoom, Cond.selects RX0 yX0_hasRoom yX0_hasRoom, Cond.code yX0_hasRoom cX0_hasRoom 4 (some .boolean), Cond.methodLink RX0 75 yX1_back, Cond.instanceMethod yX1_back, Cond.selects RX1 yX1_back yX1_back]
def wsX4_turn_r4 : List Cond := [Cond.code yX1_back cX1_back 1 (some .int), Cond.methodLink RX4 49 yX4_recorded, Cond.instanceMethod yX4_recorded, Cond.selects RX4 yX4_recorded yX4_recorded, Cond.initialized RX4, Cond.code yX4_recorded cX4_recorded 2 (some .int), Cond.methodLink RX4 62 yX2_keepNoted, Cond.instanceMethod yX2_keepNoted, Cond.selects RX2 yX2_keepNoted yX2_keepNoted, Cond.code yX2_keepNoted cX2_keepNoted 1 none]
def wsX4_turn : List Cond := .code yX4_turn cX4_turn 3 (some .int) :: ((wsX4_turn_r1 ++ (wsX4_turn_r2 ++ (wsX4_turn_r3 ++ wsX4_turn_r4))) ++ wsX40 ++ wsX20 ++ wsX00 ++ wsX10)
def wsX4_pass_r1 : List Cond := [Cond.fieldLink RX4 22 "BeltMarks" "history" "LBeltMarks$History;", Cond.fieldLink RX4 10 "BeltMarks" "belt" "LBeltMarks$Belt;", Cond.methodLink RX4 41 yX2_note, Cond.instanceMethod yX2_note, Cond.selects RX2 yX2_note yX2_note, Cond.initialized RX2, Cond.code yX2_note cX2_note 2 none, Cond.fieldLink RX2 26 "BeltMarks$History" "size" "I", Cond.methodLink RX2 29 yX2_stateAt, Cond.instanceMethod yX2_stateAt, Cond.selects RX2 yX2_stateAt yX2_stateAt, Cond.code yX2_stateAt cX2_stateAt 2 (some (.object "BeltMarks$Belt")), Cond.fieldLink RX2 11 "BeltMarks$History" "states" "[LBeltMarks$Belt;", Cond.fieldLink RX2 16 "BeltMarks$History" "oldest" "I", Cond.methodLink RX2 20 yJ9_floorMod_7cf53, Cond.static yJ9_floorMod_7cf53, Cond.initialized RJ9, Cond.code yJ9_floorMod_7cf53 cJ9_floorMod_7cf53 3 (some .int), Cond.methodLink RX2 33 yX0_copyFrom, Cond.instanceMethod yX0_copyFrom, Cond.selects RX0 yX0_copyFrom yX0_copyFrom, Cond.initialized RX0, Cond.code yX0_copyFrom cX0_copyFrom 3 none, Cond.fieldLink RX0 20 "BeltMarks$Belt" "settings" "[I"]
def wsX4_pass_r2 : List Cond := [Cond.methodLink RX0 45 arraycopyName, Cond.native arraycopyName, Cond.static arraycopyName, Cond.initialized "java/lang/System", Cond.fieldLink RX0 23 "BeltMarks$Belt" "tallies" "[I", Cond.fieldLink RX0 51 "BeltMarks$Belt" "boxCount" "I", Cond.fieldLink RX0 28 "BeltMarks$Belt" "boxes" "[LBeltMarks$Box;", Cond.fieldLink RX0 59 "BeltMarks$Belt" "reportCount" "I", Cond.fieldLink RX0 32 "BeltMarks$Belt" "comes" "[I", Cond.fieldLink RX0 35 "BeltMarks$Belt" "excesses" "[I", Cond.fieldLink RX0 62 "BeltMarks$Belt" "planCount" "I", Cond.fieldLink RX0 38 "BeltMarks$Belt" "plans" "[I", Cond.fieldLink RX0 41 "BeltMarks$Belt" "ways" "[I", Cond.methodLink RX0 55 yX1_copyFrom, Cond.instanceMethod yX1_copyFrom, Cond.selects RX1 yX1_copyFrom yX1_copyFrom, Cond.initialized RX1, Cond.code yX1_copyFrom cX1_copyFrom 2 none, Cond.fieldLink RX1 11 "BeltMarks$Box" "front" "I", Cond.fieldLink RX1 15 "BeltMarks$Box" "length" "I", Cond.fieldLink RX1 18 "BeltMarks$Box" "seen" "Z", Cond.fieldLink RX1 22 "BeltMarks$Box" "marked" "Z", Cond.fieldLink RX1 25 "BeltMarks$Box" "mark" "I", Cond.fieldLink RX1 28 "BeltMarks$Box" "twice" "Z"]
def wsX4_pass_r3 : List Cond := [Cond.fieldLink RX1 31 "BeltMarks$Box" "number" "I", Cond.methodLink RX4 59 yX0_letPass, Cond.instanceMethod yX0_letPass, Cond.selects RX0 yX0_letPass yX0_letPass, Cond.code yX0_letPass cX0_letPass 3 (some .int), Cond.methodLink RX0 102 yX0_howManyLeft, Cond.instanceMethod yX0_howManyLeft, Cond.selects RX0 yX0_howManyLeft yX0_howManyLeft, Cond.code yX0_howManyLeft cX0_howManyLeft 1 (some .int), Cond.methodLink RX0 105 yX0_tickOn, Cond.instanceMethod yX0_tickOn, Cond.selects RX0 yX0_tickOn yX0_tickOn, Cond.code yX0_tickOn cX0_tickOn 3 none, Cond.methodLink RX0 113 yX0_moveOn, Cond.instanceMethod yX0_moveOn, Cond.selects RX0 yX0_moveOn yX0_moveOn, Cond.code yX0_moveOn cX0_moveOn 3 none, Cond.fieldLink RX0 86 "BeltMarks$Box" "front" "I", Cond.methodLink RX0 116 yX0_seeBoxes, Cond.instanceMethod yX0_seeBoxes, Cond.selects RX0 yX0_seeBoxes yX0_seeBoxes, Cond.code yX0_seeBoxes cX0_seeBoxes 3 none, Cond.fieldLink RX0 134 "BeltMarks$Box" "seen" "Z", Cond.methodLink RX0 138 yX0_addReport]
def wsX4_pass_r4 : List Cond := [Cond.instanceMethod yX0_addReport, Cond.selects RX0 yX0_addReport yX0_addReport, Cond.code yX0_addReport cX0_addReport 2 none, Cond.methodLink RX0 119 yX0_countPlansDown, Cond.instanceMethod yX0_countPlansDown, Cond.selects RX0 yX0_countPlansDown yX0_countPlansDown, Cond.code yX0_countPlansDown cX0_countPlansDown 2 none, Cond.methodLink RX0 122 yX0_takeReports, Cond.instanceMethod yX0_takeReports, Cond.selects RX0 yX0_takeReports yX0_takeReports, Cond.code yX0_takeReports cX0_takeReports 3 none, Cond.methodLink RX0 141 yX0_addPlan, Cond.instanceMethod yX0_addPlan, Cond.selects RX0 yX0_addPlan yX0_addPlan, Cond.code yX0_addPlan cX0_addPlan 2 none, Cond.methodLink RX0 144 yX0_guessedWay, Cond.instanceMethod yX0_guessedWay, Cond.selects RX0 yX0_guessedWay yX0_guessedWay, Cond.code yX0_guessedWay cX0_guessedWay 3 (some .int), Cond.methodLink RX0 125 yX0_doPlans, Cond.instanceMethod yX0_doPlans, Cond.selects RX0 yX0_doPlans yX0_doPlans, Cond.code yX0_doPlans cX0_doPlans 3 none, Cond.methodLink RX0 147 yX0_useLabel]
def wsX4_pass_r5 : List Cond := [Cond.instanceMethod yX0_useLabel, Cond.selects RX0 yX0_useLabel yX0_useLabel, Cond.code yX0_useLabel cX0_useLabel 2 none, Cond.methodLink RX0 150 yX1_liesUnder, Cond.instanceMethod yX1_liesUnder, Cond.selects RX1 yX1_liesUnder yX1_liesUnder, Cond.code yX1_liesUnder cX1_liesUnder 2 (some .boolean), Cond.methodLink RX0 153 yX0_markBox, Cond.instanceMethod yX0_markBox, Cond.selects RX0 yX0_markBox yX0_markBox, Cond.code yX0_markBox cX0_markBox 2 none, Cond.fieldLink RX0 156 "BeltMarks$Box" "marked" "Z", Cond.fieldLink RX0 159 "BeltMarks$Box" "twice" "Z", Cond.fieldLink RX0 162 "BeltMarks$Box" "mark" "I", Cond.methodLink RX0 128 yX0_feed, Cond.instanceMethod yX0_feed, Cond.selects RX0 yX0_feed yX0_feed, Cond.code yX0_feed cX0_feed 1 none, Cond.methodLink RX0 165 Lib.Math.min.name, Cond.static Lib.Math.min.name, Cond.initialized "java/lang/Math", Cond.code Lib.Math.min.name Lib.Math.min.code 2 (some .int), Cond.methodLink RX0 131 yX0_letBoxesLeave, Cond.instanceMethod yX0_letBoxesLeave]
def wsX4_pass_r6 : List Cond := [Cond.selects RX0 yX0_letBoxesLeave yX0_letBoxesLeave, Cond.code yX0_letBoxesLeave cX0_letBoxesLeave 4 none, Cond.methodLink RX0 75 yX1_back, Cond.instanceMethod yX1_back, Cond.selects RX1 yX1_back yX1_back, Cond.code yX1_back cX1_back 1 (some .int), Cond.methodLink RX0 168 yX0_fate, Cond.instanceMethod yX0_fate, Cond.selects RX0 yX0_fate yX0_fate, Cond.code yX0_fate cX0_fate 3 (some .int), Cond.methodLink RX0 172 Lib.Math.abs.name, Cond.static Lib.Math.abs.name, Cond.code Lib.Math.abs.name Lib.Math.abs.code 1 (some .int), Cond.methodLink RX4 49 yX4_recorded, Cond.instanceMethod yX4_recorded, Cond.selects RX4 yX4_recorded yX4_recorded, Cond.initialized RX4, Cond.code yX4_recorded cX4_recorded 2 (some .int), Cond.methodLink RX4 62 yX2_keepNoted, Cond.instanceMethod yX2_keepNoted, Cond.selects RX2 yX2_keepNoted yX2_keepNoted, Cond.code yX2_keepNoted cX2_keepNoted 1 none]
def wsX4_pass : List Cond := .code yX4_pass cX4_pass 2 (some .int) :: ((wsX4_pass_r1 ++ (wsX4_pass_r2 ++ (wsX4_pass_r3 ++ (wsX4_pass_r4 ++ (wsX4_pass_r5 ++ wsX4_pass_r6))))) ++ wsX40 ++ wsX20 ++ wsX00 ++ wsX10)
def wsX4_box : List Cond := .code yX4_box cX4_box 3 (some .int) :: ([.fieldLink RX4 10 "BeltMarks" "belt" "LBeltMarks$Belt;", .methodLink RX4 65 yX0_aboutBox, .instanceMethod yX0_aboutBox, .selects RX0 yX0_aboutBox yX0_aboutBox, .initialized RX0, .code yX0_aboutBox cX0_aboutBox 3 (some .int), .fieldLink RX0 28 "BeltMarks$Belt" "boxes" "[LBeltMarks$Box;", .methodLink RX0 83 yX0_isBox, .instanceMethod yX0_isBox, .selects RX0 yX0_isBox yX0_isBox, .code yX0_isBox cX0_isBox 2 (some .boolean), .fieldLink RX0 51 "BeltMarks$Belt" "boxCount" "I", .methodLink RX0 109 yX1_tell, .instanceMethod yX1_tell, .selects RX1 yX1_tell yX1_tell, .initialized RX1, .code yX1_tell cX1_tell 2 (some .int), .fieldLink RX1 11 "BeltMarks$Box" "front" "I", .fieldLink RX1 15 "BeltMarks$Box" "length" "I", .fieldLink RX1 18 "BeltMarks$Box" "seen" "Z", .fieldLink RX1 22 "BeltMarks$Box" "marked" "Z", .fieldLink RX1 25 "BeltMarks$Box" "mark" "I", .fieldLink RX1 28 "BeltMarks$Box" "twice" "Z", .fieldLink RX1 31 "BeltMarks$Box" "number" "I"] ++ wsX40 ++ wsX00 ++ wsX10)
def wsX4_plan : List Cond := .code yX4_plan cX4_plan 2 (some .int) :: ([.fieldLink RX4 10 "BeltMarks" "belt" "LBeltMarks$Belt;", .methodLink RX4 68 yX0_planAt, .instanceMethod yX0_planAt, .selects RX0 yX0_planAt yX0_planAt, .initialized RX0, .code yX0_planAt cX0_planAt 2 (some .int), .fieldLink RX0 62 "BeltMarks$Belt" "planCount" "I", .fieldLink RX0 38 "BeltMarks$Belt" "plans" "[I"] ++ wsX40 ++ wsX00)
def wsX4_report : List Cond := .code yX4_report cX4_report 3 (some .int) :: ([.fieldLink RX4 10 "BeltMarks" "belt" "LBeltMarks$Belt;", .methodLink RX4 71 yX0_aboutReport, .instanceMethod yX0_aboutReport, .selects RX0 yX0_aboutReport yX0_aboutReport, .initialized RX0, .code yX0_aboutReport cX0_aboutReport 3 (some .int), .fieldLink RX0 59 "BeltMarks$Belt" "reportCount" "I", .fieldLink RX0 32 "BeltMarks$Belt" "comes" "[I", .fieldLink RX0 23 "BeltMarks$Belt" "tallies" "[I", .fieldLink RX0 35 "BeltMarks$Belt" "excesses" "[I"] ++ wsX40 ++ wsX00)
def wsX4_count : List Cond := .code yX4_count cX4_count 2 (some .int) :: ([.fieldLink RX4 37 "BeltMarks" "pad" "LBeltMarks$Pad;", .fieldLink RX4 74 "BeltMarks$Pad" "length" "I", .fieldLink RX4 22 "BeltMarks" "history" "LBeltMarks$History;", .fieldLink RX4 78 "BeltMarks$History" "size" "I", .fieldLink RX4 10 "BeltMarks" "belt" "LBeltMarks$Belt;", .methodLink RX4 81 yX0_number, .instanceMethod yX0_number, .selects RX0 yX0_number yX0_number, .initialized RX0, .code yX0_number cX0_number 3 (some .int), .fieldLink RX0 51 "BeltMarks$Belt" "boxCount" "I", .fieldLink RX0 59 "BeltMarks$Belt" "reportCount" "I", .fieldLink RX0 62 "BeltMarks$Belt" "planCount" "I", .fieldLink RX0 23 "BeltMarks$Belt" "tallies" "[I", .fieldLink RX0 20 "BeltMarks$Belt" "settings" "[I"] ++ wsX40 ++ wsX30 ++ wsX20 ++ wsX00)
def wsX4_canTry : List Cond := .code yX4_canTry cX4_canTry 1 (some .boolean) :: ([])
def wsX4_ifPass_r1 : List Cond := [Cond.fieldLink RX4 88 "BeltMarks" "FORESEEN" "[I", Cond.fieldLink RX4 16 "BeltMarks" "trial" "LBeltMarks$Belt;", Cond.fieldLink RX4 10 "BeltMarks" "belt" "LBeltMarks$Belt;", Cond.methodLink RX4 84 yX4_canTry, Cond.static yX4_canTry, Cond.initialized RX4, Cond.code yX4_canTry cX4_canTry 1 (some .boolean), Cond.methodLink RX4 92 yX0_copyFrom, Cond.instanceMethod yX0_copyFrom, Cond.selects RX0 yX0_copyFrom yX0_copyFrom, Cond.initialized RX0, Cond.code yX0_copyFrom cX0_copyFrom 3 none, Cond.fieldLink RX0 20 "BeltMarks$Belt" "settings" "[I", Cond.methodLink RX0 45 arraycopyName, Cond.native arraycopyName, Cond.static arraycopyName, Cond.initialized "java/lang/System", Cond.fieldLink RX0 23 "BeltMarks$Belt" "tallies" "[I", Cond.fieldLink RX0 51 "BeltMarks$Belt" "boxCount" "I", Cond.fieldLink RX0 28 "BeltMarks$Belt" "boxes" "[LBeltMarks$Box;", Cond.fieldLink RX0 59 "BeltMarks$Belt" "reportCount" "I", Cond.fieldLink RX0 32 "BeltMarks$Belt" "comes" "[I", Cond.fieldLink RX0 35 "BeltMarks$Belt" "excesses" "[I", Cond.fieldLink RX0 62 "BeltMarks$Belt" "planCount" "I"]
def wsX4_ifPass_r2 : List Cond := [Cond.fieldLink RX0 38 "BeltMarks$Belt" "plans" "[I", Cond.fieldLink RX0 41 "BeltMarks$Belt" "ways" "[I", Cond.methodLink RX0 55 yX1_copyFrom, Cond.instanceMethod yX1_copyFrom, Cond.selects RX1 yX1_copyFrom yX1_copyFrom, Cond.initialized RX1, Cond.code yX1_copyFrom cX1_copyFrom 2 none, Cond.fieldLink RX1 11 "BeltMarks$Box" "front" "I", Cond.fieldLink RX1 15 "BeltMarks$Box" "length" "I", Cond.fieldLink RX1 18 "BeltMarks$Box" "seen" "Z", Cond.fieldLink RX1 22 "BeltMarks$Box" "marked" "Z", Cond.fieldLink RX1 25 "BeltMarks$Box" "mark" "I", Cond.fieldLink RX1 28 "BeltMarks$Box" "twice" "Z", Cond.fieldLink RX1 31 "BeltMarks$Box" "number" "I", Cond.methodLink RX4 95 yX0_tickOn, Cond.instanceMethod yX0_tickOn, Cond.selects RX0 yX0_tickOn yX0_tickOn, Cond.code yX0_tickOn cX0_tickOn 3 none, Cond.methodLink RX0 113 yX0_moveOn, Cond.instanceMethod yX0_moveOn, Cond.selects RX0 yX0_moveOn yX0_moveOn, Cond.code yX0_moveOn cX0_moveOn 3 none, Cond.fieldLink RX0 86 "BeltMarks$Box" "front" "I", Cond.methodLink RX0 116 yX0_seeBoxes]
def wsX4_ifPass_r3 : List Cond := [Cond.instanceMethod yX0_seeBoxes, Cond.selects RX0 yX0_seeBoxes yX0_seeBoxes, Cond.code yX0_seeBoxes cX0_seeBoxes 3 none, Cond.fieldLink RX0 134 "BeltMarks$Box" "seen" "Z", Cond.methodLink RX0 138 yX0_addReport, Cond.instanceMethod yX0_addReport, Cond.selects RX0 yX0_addReport yX0_addReport, Cond.code yX0_addReport cX0_addReport 2 none, Cond.methodLink RX0 119 yX0_countPlansDown, Cond.instanceMethod yX0_countPlansDown, Cond.selects RX0 yX0_countPlansDown yX0_countPlansDown, Cond.code yX0_countPlansDown cX0_countPlansDown 2 none, Cond.methodLink RX0 122 yX0_takeReports, Cond.instanceMethod yX0_takeReports, Cond.selects RX0 yX0_takeReports yX0_takeReports, Cond.code yX0_takeReports cX0_takeReports 3 none, Cond.methodLink RX0 141 yX0_addPlan, Cond.instanceMethod yX0_addPlan, Cond.selects RX0 yX0_addPlan yX0_addPlan, Cond.code yX0_addPlan cX0_addPlan 2 none, Cond.methodLink RX0 144 yX0_guessedWay, Cond.instanceMethod yX0_guessedWay, Cond.selects RX0 yX0_guessedWay yX0_guessedWay, Cond.code yX0_guessedWay cX0_guessedWay 3 (some .int)]
def wsX4_ifPass_r4 : List Cond := [Cond.methodLink RX0 125 yX0_doPlans, Cond.instanceMethod yX0_doPlans, Cond.selects RX0 yX0_doPlans yX0_doPlans, Cond.code yX0_doPlans cX0_doPlans 3 none, Cond.methodLink RX0 147 yX0_useLabel, Cond.instanceMethod yX0_useLabel, Cond.selects RX0 yX0_useLabel yX0_useLabel, Cond.code yX0_useLabel cX0_useLabel 2 none, Cond.methodLink RX0 150 yX1_liesUnder, Cond.instanceMethod yX1_liesUnder, Cond.selects RX1 yX1_liesUnder yX1_liesUnder, Cond.code yX1_liesUnder cX1_liesUnder 2 (some .boolean), Cond.methodLink RX0 153 yX0_markBox, Cond.instanceMethod yX0_markBox, Cond.selects RX0 yX0_markBox yX0_markBox, Cond.code yX0_markBox cX0_markBox 2 none, Cond.fieldLink RX0 156 "BeltMarks$Box" "marked" "Z", Cond.fieldLink RX0 159 "BeltMarks$Box" "twice" "Z", Cond.fieldLink RX0 162 "BeltMarks$Box" "mark" "I", Cond.methodLink RX0 128 yX0_feed, Cond.instanceMethod yX0_feed, Cond.selects RX0 yX0_feed yX0_feed, Cond.code yX0_feed cX0_feed 1 none, Cond.methodLink RX0 165 Lib.Math.min.name]
def wsX4_ifPass_r5 : List Cond := [Cond.static Lib.Math.min.name, Cond.initialized "java/lang/Math", Cond.code Lib.Math.min.name Lib.Math.min.code 2 (some .int), Cond.methodLink RX0 131 yX0_letBoxesLeave, Cond.instanceMethod yX0_letBoxesLeave, Cond.selects RX0 yX0_letBoxesLeave yX0_letBoxesLeave, Cond.code yX0_letBoxesLeave cX0_letBoxesLeave 4 none, Cond.methodLink RX0 75 yX1_back, Cond.instanceMethod yX1_back, Cond.selects RX1 yX1_back yX1_back, Cond.code yX1_back cX1_back 1 (some .int), Cond.methodLink RX0 168 yX0_fate, Cond.instanceMethod yX0_fate, Cond.selects RX0 yX0_fate yX0_fate, Cond.code yX0_fate cX0_fate 3 (some .int), Cond.methodLink RX0 172 Lib.Math.abs.name, Cond.static Lib.Math.abs.name, Cond.code Lib.Math.abs.name Lib.Math.abs.code 1 (some .int), Cond.methodLink RX4 81 yX0_number, Cond.instanceMethod yX0_number, Cond.selects RX0 yX0_number yX0_number, Cond.code yX0_number cX0_number 3 (some .int)]
def wsX4_ifPass : List Cond := .code yX4_ifPass cX4_ifPass 3 (some .int) :: ((wsX4_ifPass_r1 ++ (wsX4_ifPass_r2 ++ (wsX4_ifPass_r3 ++ (wsX4_ifPass_r4 ++ wsX4_ifPass_r5)))) ++ wsX40 ++ wsX00 ++ wsX10)
def wsX4_goodWithGuess_r1 : List Cond := [Cond.fieldLink RX4 16 "BeltMarks" "trial" "LBeltMarks$Belt;", Cond.fieldLink RX4 10 "BeltMarks" "belt" "LBeltMarks$Belt;", Cond.fieldLink RX4 106 "BeltMarks$Belt" "settings" "[I", Cond.methodLink RX4 92 yX0_copyFrom, Cond.instanceMethod yX0_copyFrom, Cond.selects RX0 yX0_copyFrom yX0_copyFrom, Cond.initialized RX0, Cond.code yX0_copyFrom cX0_copyFrom 3 none, Cond.fieldLink RX0 20 "BeltMarks$Belt" "settings" "[I", Cond.methodLink RX0 45 arraycopyName, Cond.native arraycopyName, Cond.static arraycopyName, Cond.initialized "java/lang/System", Cond.fieldLink RX0 23 "BeltMarks$Belt" "tallies" "[I", Cond.fieldLink RX0 51 "BeltMarks$Belt" "boxCount" "I", Cond.fieldLink RX0 28 "BeltMarks$Belt" "boxes" "[LBeltMarks$Box;", Cond.fieldLink RX0 59 "BeltMarks$Belt" "reportCount" "I", Cond.fieldLink RX0 32 "BeltMarks$Belt" "comes" "[I", Cond.fieldLink RX0 35 "BeltMarks$Belt" "excesses" "[I", Cond.fieldLink RX0 62 "BeltMarks$Belt" "planCount" "I", Cond.fieldLink RX0 38 "BeltMarks$Belt" "plans" "[I", Cond.fieldLink RX0 41 "BeltMarks$Belt" "ways" "[I", Cond.methodLink RX0 55 yX1_copyFrom, Cond.instanceMethod yX1_copyFrom]
def wsX4_goodWithGuess_r2 : List Cond := [Cond.selects RX1 yX1_copyFrom yX1_copyFrom, Cond.initialized RX1, Cond.code yX1_copyFrom cX1_copyFrom 2 none, Cond.fieldLink RX1 11 "BeltMarks$Box" "front" "I", Cond.fieldLink RX1 15 "BeltMarks$Box" "length" "I", Cond.fieldLink RX1 18 "BeltMarks$Box" "seen" "Z", Cond.fieldLink RX1 22 "BeltMarks$Box" "marked" "Z", Cond.fieldLink RX1 25 "BeltMarks$Box" "mark" "I", Cond.fieldLink RX1 28 "BeltMarks$Box" "twice" "Z", Cond.fieldLink RX1 31 "BeltMarks$Box" "number" "I", Cond.methodLink RX4 95 yX0_tickOn, Cond.instanceMethod yX0_tickOn, Cond.selects RX0 yX0_tickOn yX0_tickOn, Cond.code yX0_tickOn cX0_tickOn 3 none, Cond.methodLink RX0 113 yX0_moveOn, Cond.instanceMethod yX0_moveOn, Cond.selects RX0 yX0_moveOn yX0_moveOn, Cond.code yX0_moveOn cX0_moveOn 3 none, Cond.fieldLink RX0 86 "BeltMarks$Box" "front" "I", Cond.methodLink RX0 116 yX0_seeBoxes, Cond.instanceMethod yX0_seeBoxes, Cond.selects RX0 yX0_seeBoxes yX0_seeBoxes, Cond.code yX0_seeBoxes cX0_seeBoxes 3 none, Cond.fieldLink RX0 134 "BeltMarks$Box" "seen" "Z"]
def wsX4_goodWithGuess_r3 : List Cond := [Cond.methodLink RX0 138 yX0_addReport, Cond.instanceMethod yX0_addReport, Cond.selects RX0 yX0_addReport yX0_addReport, Cond.code yX0_addReport cX0_addReport 2 none, Cond.methodLink RX0 119 yX0_countPlansDown, Cond.instanceMethod yX0_countPlansDown, Cond.selects RX0 yX0_countPlansDown yX0_countPlansDown, Cond.code yX0_countPlansDown cX0_countPlansDown 2 none, Cond.methodLink RX0 122 yX0_takeReports, Cond.instanceMethod yX0_takeReports, Cond.selects RX0 yX0_takeReports yX0_takeReports, Cond.code yX0_takeReports cX0_takeReports 3 none, Cond.methodLink RX0 141 yX0_addPlan, Cond.instanceMethod yX0_addPlan, Cond.selects RX0 yX0_addPlan yX0_addPlan, Cond.code yX0_addPlan cX0_addPlan 2 none, Cond.methodLink RX0 144 yX0_guessedWay, Cond.instanceMethod yX0_guessedWay, Cond.selects RX0 yX0_guessedWay yX0_guessedWay, Cond.code yX0_guessedWay cX0_guessedWay 3 (some .int), Cond.methodLink RX0 125 yX0_doPlans, Cond.instanceMethod yX0_doPlans, Cond.selects RX0 yX0_doPlans yX0_doPlans, Cond.code yX0_doPlans cX0_doPlans 3 none]
def wsX4_goodWithGuess_r4 : List Cond := [Cond.methodLink RX0 147 yX0_useLabel, Cond.instanceMethod yX0_useLabel, Cond.selects RX0 yX0_useLabel yX0_useLabel, Cond.code yX0_useLabel cX0_useLabel 2 none, Cond.methodLink RX0 150 yX1_liesUnder, Cond.instanceMethod yX1_liesUnder, Cond.selects RX1 yX1_liesUnder yX1_liesUnder, Cond.code yX1_liesUnder cX1_liesUnder 2 (some .boolean), Cond.methodLink RX0 153 yX0_markBox, Cond.instanceMethod yX0_markBox, Cond.selects RX0 yX0_markBox yX0_markBox, Cond.code yX0_markBox cX0_markBox 2 none, Cond.fieldLink RX0 156 "BeltMarks$Box" "marked" "Z", Cond.fieldLink RX0 159 "BeltMarks$Box" "twice" "Z", Cond.fieldLink RX0 162 "BeltMarks$Box" "mark" "I", Cond.methodLink RX0 128 yX0_feed, Cond.instanceMethod yX0_feed, Cond.selects RX0 yX0_feed yX0_feed, Cond.code yX0_feed cX0_feed 1 none, Cond.methodLink RX0 165 Lib.Math.min.name, Cond.static Lib.Math.min.name, Cond.initialized "java/lang/Math", Cond.code Lib.Math.min.name Lib.Math.min.code 2 (some .int), Cond.methodLink RX0 131 yX0_letBoxesLeave]
def wsX4_goodWithGuess_r5 : List Cond := [Cond.instanceMethod yX0_letBoxesLeave, Cond.selects RX0 yX0_letBoxesLeave yX0_letBoxesLeave, Cond.code yX0_letBoxesLeave cX0_letBoxesLeave 4 none, Cond.methodLink RX0 75 yX1_back, Cond.instanceMethod yX1_back, Cond.selects RX1 yX1_back yX1_back, Cond.code yX1_back cX1_back 1 (some .int), Cond.methodLink RX0 168 yX0_fate, Cond.instanceMethod yX0_fate, Cond.selects RX0 yX0_fate yX0_fate, Cond.code yX0_fate cX0_fate 3 (some .int), Cond.methodLink RX0 172 Lib.Math.abs.name, Cond.static Lib.Math.abs.name, Cond.code Lib.Math.abs.name Lib.Math.abs.code 1 (some .int), Cond.methodLink RX4 81 yX0_number, Cond.instanceMethod yX0_number, Cond.selects RX0 yX0_number yX0_number, Cond.code yX0_number cX0_number 3 (some .int)]
def wsX4_goodWithGuess : List Cond := .code yX4_goodWithGuess cX4_goodWithGuess 3 (some .int) :: ((wsX4_goodWithGuess_r1 ++ (wsX4_goodWithGuess_r2 ++ (wsX4_goodWithGuess_r3 ++ (wsX4_goodWithGuess_r4 ++ wsX4_goodWithGuess_r5)))) ++ wsX40 ++ wsX00 ++ wsX10)
def wsX4_bestGuess_r1 : List Cond := [Cond.methodLink RX4 84 yX4_canTry, Cond.static yX4_canTry, Cond.initialized RX4, Cond.code yX4_canTry cX4_canTry 1 (some .boolean), Cond.methodLink RX4 99 yX4_goodWithGuess, Cond.instanceMethod yX4_goodWithGuess, Cond.selects RX4 yX4_goodWithGuess yX4_goodWithGuess, Cond.code yX4_goodWithGuess cX4_goodWithGuess 3 (some .int), Cond.fieldLink RX4 16 "BeltMarks" "trial" "LBeltMarks$Belt;", Cond.fieldLink RX4 10 "BeltMarks" "belt" "LBeltMarks$Belt;", Cond.fieldLink RX4 106 "BeltMarks$Belt" "settings" "[I", Cond.methodLink RX4 92 yX0_copyFrom, Cond.instanceMethod yX0_copyFrom, Cond.selects RX0 yX0_copyFrom yX0_copyFrom, Cond.initialized RX0, Cond.code yX0_copyFrom cX0_copyFrom 3 none, Cond.fieldLink RX0 20 "BeltMarks$Belt" "settings" "[I", Cond.methodLink RX0 45 arraycopyName, Cond.native arraycopyName, Cond.static arraycopyName, Cond.initialized "java/lang/System", Cond.fieldLink RX0 23 "BeltMarks$Belt" "tallies" "[I", Cond.fieldLink RX0 51 "BeltMarks$Belt" "boxCount" "I", Cond.fieldLink RX0 28 "BeltMarks$Belt" "boxes" "[LBeltMarks$Box;"]
def wsX4_bestGuess_r2 : List Cond := [Cond.fieldLink RX0 59 "BeltMarks$Belt" "reportCount" "I", Cond.fieldLink RX0 32 "BeltMarks$Belt" "comes" "[I", Cond.fieldLink RX0 35 "BeltMarks$Belt" "excesses" "[I", Cond.fieldLink RX0 62 "BeltMarks$Belt" "planCount" "I", Cond.fieldLink RX0 38 "BeltMarks$Belt" "plans" "[I", Cond.fieldLink RX0 41 "BeltMarks$Belt" "ways" "[I", Cond.methodLink RX0 55 yX1_copyFrom, Cond.instanceMethod yX1_copyFrom, Cond.selects RX1 yX1_copyFrom yX1_copyFrom, Cond.initialized RX1, Cond.code yX1_copyFrom cX1_copyFrom 2 none, Cond.fieldLink RX1 11 "BeltMarks$Box" "front" "I", Cond.fieldLink RX1 15 "BeltMarks$Box" "length" "I", Cond.fieldLink RX1 18 "BeltMarks$Box" "seen" "Z", Cond.fieldLink RX1 22 "BeltMarks$Box" "marked" "Z", Cond.fieldLink RX1 25 "BeltMarks$Box" "mark" "I", Cond.fieldLink RX1 28 "BeltMarks$Box" "twice" "Z", Cond.fieldLink RX1 31 "BeltMarks$Box" "number" "I", Cond.methodLink RX4 95 yX0_tickOn, Cond.instanceMethod yX0_tickOn, Cond.selects RX0 yX0_tickOn yX0_tickOn, Cond.code yX0_tickOn cX0_tickOn 3 none, Cond.methodLink RX0 113 yX0_moveOn, Cond.instanceMethod yX0_moveOn]
def wsX4_bestGuess_r3 : List Cond := [Cond.selects RX0 yX0_moveOn yX0_moveOn, Cond.code yX0_moveOn cX0_moveOn 3 none, Cond.fieldLink RX0 86 "BeltMarks$Box" "front" "I", Cond.methodLink RX0 116 yX0_seeBoxes, Cond.instanceMethod yX0_seeBoxes, Cond.selects RX0 yX0_seeBoxes yX0_seeBoxes, Cond.code yX0_seeBoxes cX0_seeBoxes 3 none, Cond.fieldLink RX0 134 "BeltMarks$Box" "seen" "Z", Cond.methodLink RX0 138 yX0_addReport, Cond.instanceMethod yX0_addReport, Cond.selects RX0 yX0_addReport yX0_addReport, Cond.code yX0_addReport cX0_addReport 2 none, Cond.methodLink RX0 119 yX0_countPlansDown, Cond.instanceMethod yX0_countPlansDown, Cond.selects RX0 yX0_countPlansDown yX0_countPlansDown, Cond.code yX0_countPlansDown cX0_countPlansDown 2 none, Cond.methodLink RX0 122 yX0_takeReports, Cond.instanceMethod yX0_takeReports, Cond.selects RX0 yX0_takeReports yX0_takeReports, Cond.code yX0_takeReports cX0_takeReports 3 none, Cond.methodLink RX0 141 yX0_addPlan, Cond.instanceMethod yX0_addPlan, Cond.selects RX0 yX0_addPlan yX0_addPlan, Cond.code yX0_addPlan cX0_addPlan 2 none]
def wsX4_bestGuess_r4 : List Cond := [Cond.methodLink RX0 144 yX0_guessedWay, Cond.instanceMethod yX0_guessedWay, Cond.selects RX0 yX0_guessedWay yX0_guessedWay, Cond.code yX0_guessedWay cX0_guessedWay 3 (some .int), Cond.methodLink RX0 125 yX0_doPlans, Cond.instanceMethod yX0_doPlans, Cond.selects RX0 yX0_doPlans yX0_doPlans, Cond.code yX0_doPlans cX0_doPlans 3 none, Cond.methodLink RX0 147 yX0_useLabel, Cond.instanceMethod yX0_useLabel, Cond.selects RX0 yX0_useLabel yX0_useLabel, Cond.code yX0_useLabel cX0_useLabel 2 none, Cond.methodLink RX0 150 yX1_liesUnder, Cond.instanceMethod yX1_liesUnder, Cond.selects RX1 yX1_liesUnder yX1_liesUnder, Cond.code yX1_liesUnder cX1_liesUnder 2 (some .boolean), Cond.methodLink RX0 153 yX0_markBox, Cond.instanceMethod yX0_markBox, Cond.selects RX0 yX0_markBox yX0_markBox, Cond.code yX0_markBox cX0_markBox 2 none, Cond.fieldLink RX0 156 "BeltMarks$Box" "marked" "Z", Cond.fieldLink RX0 159 "BeltMarks$Box" "twice" "Z", Cond.fieldLink RX0 162 "BeltMarks$Box" "mark" "I", Cond.methodLink RX0 128 yX0_feed]
def wsX4_bestGuess_r5 : List Cond := [Cond.instanceMethod yX0_feed, Cond.selects RX0 yX0_feed yX0_feed, Cond.code yX0_feed cX0_feed 1 none, Cond.methodLink RX0 165 Lib.Math.min.name, Cond.static Lib.Math.min.name, Cond.initialized "java/lang/Math", Cond.code Lib.Math.min.name Lib.Math.min.code 2 (some .int), Cond.methodLink RX0 131 yX0_letBoxesLeave, Cond.instanceMethod yX0_letBoxesLeave, Cond.selects RX0 yX0_letBoxesLeave yX0_letBoxesLeave, Cond.code yX0_letBoxesLeave cX0_letBoxesLeave 4 none, Cond.methodLink RX0 75 yX1_back, Cond.instanceMethod yX1_back, Cond.selects RX1 yX1_back yX1_back, Cond.code yX1_back cX1_back 1 (some .int), Cond.methodLink RX0 168 yX0_fate, Cond.instanceMethod yX0_fate, Cond.selects RX0 yX0_fate yX0_fate, Cond.code yX0_fate cX0_fate 3 (some .int), Cond.methodLink RX0 172 Lib.Math.abs.name, Cond.static Lib.Math.abs.name, Cond.code Lib.Math.abs.name Lib.Math.abs.code 1 (some .int), Cond.methodLink RX4 81 yX0_number, Cond.instanceMethod yX0_number]
def wsX4_bestGuess_r6 : List Cond := [Cond.selects RX0 yX0_number yX0_number, Cond.code yX0_number cX0_number 3 (some .int)]
def wsX4_bestGuess : List Cond := .code yX4_bestGuess cX4_bestGuess 7 (some .int) :: ((wsX4_bestGuess_r1 ++ (wsX4_bestGuess_r2 ++ (wsX4_bestGuess_r3 ++ (wsX4_bestGuess_r4 ++ (wsX4_bestGuess_r5 ++ wsX4_bestGuess_r6))))) ++ wsX40 ++ wsX00 ++ wsX10)
def wsX4_starvesWithSlack_r1 : List Cond := [Cond.fieldLink RX4 16 "BeltMarks" "trial" "LBeltMarks$Belt;", Cond.fieldLink RX4 10 "BeltMarks" "belt" "LBeltMarks$Belt;", Cond.fieldLink RX4 109 "BeltMarks$Belt" "tallies" "[I", Cond.methodLink RX4 92 yX0_copyFrom, Cond.instanceMethod yX0_copyFrom, Cond.selects RX0 yX0_copyFrom yX0_copyFrom, Cond.initialized RX0, Cond.code yX0_copyFrom cX0_copyFrom 3 none, Cond.fieldLink RX0 20 "BeltMarks$Belt" "settings" "[I", Cond.methodLink RX0 45 arraycopyName, Cond.native arraycopyName, Cond.static arraycopyName, Cond.initialized "java/lang/System", Cond.fieldLink RX0 23 "BeltMarks$Belt" "tallies" "[I", Cond.fieldLink RX0 51 "BeltMarks$Belt" "boxCount" "I", Cond.fieldLink RX0 28 "BeltMarks$Belt" "boxes" "[LBeltMarks$Box;", Cond.fieldLink RX0 59 "BeltMarks$Belt" "reportCount" "I", Cond.fieldLink RX0 32 "BeltMarks$Belt" "comes" "[I", Cond.fieldLink RX0 35 "BeltMarks$Belt" "excesses" "[I", Cond.fieldLink RX0 62 "BeltMarks$Belt" "planCount" "I", Cond.fieldLink RX0 38 "BeltMarks$Belt" "plans" "[I", Cond.fieldLink RX0 41 "BeltMarks$Belt" "ways" "[I", Cond.methodLink RX0 55 yX1_copyFrom, Cond.instanceMethod yX1_copyFrom]
def wsX4_starvesWithSlack_r2 : List Cond := [Cond.selects RX1 yX1_copyFrom yX1_copyFrom, Cond.initialized RX1, Cond.code yX1_copyFrom cX1_copyFrom 2 none, Cond.fieldLink RX1 11 "BeltMarks$Box" "front" "I", Cond.fieldLink RX1 15 "BeltMarks$Box" "length" "I", Cond.fieldLink RX1 18 "BeltMarks$Box" "seen" "Z", Cond.fieldLink RX1 22 "BeltMarks$Box" "marked" "Z", Cond.fieldLink RX1 25 "BeltMarks$Box" "mark" "I", Cond.fieldLink RX1 28 "BeltMarks$Box" "twice" "Z", Cond.fieldLink RX1 31 "BeltMarks$Box" "number" "I", Cond.methodLink RX4 95 yX0_tickOn, Cond.instanceMethod yX0_tickOn, Cond.selects RX0 yX0_tickOn yX0_tickOn, Cond.code yX0_tickOn cX0_tickOn 3 none, Cond.methodLink RX0 113 yX0_moveOn, Cond.instanceMethod yX0_moveOn, Cond.selects RX0 yX0_moveOn yX0_moveOn, Cond.code yX0_moveOn cX0_moveOn 3 none, Cond.fieldLink RX0 86 "BeltMarks$Box" "front" "I", Cond.methodLink RX0 116 yX0_seeBoxes, Cond.instanceMethod yX0_seeBoxes, Cond.selects RX0 yX0_seeBoxes yX0_seeBoxes, Cond.code yX0_seeBoxes cX0_seeBoxes 3 none, Cond.fieldLink RX0 134 "BeltMarks$Box" "seen" "Z"]
def wsX4_starvesWithSlack_r3 : List Cond := [Cond.methodLink RX0 138 yX0_addReport, Cond.instanceMethod yX0_addReport, Cond.selects RX0 yX0_addReport yX0_addReport, Cond.code yX0_addReport cX0_addReport 2 none, Cond.methodLink RX0 119 yX0_countPlansDown, Cond.instanceMethod yX0_countPlansDown, Cond.selects RX0 yX0_countPlansDown yX0_countPlansDown, Cond.code yX0_countPlansDown cX0_countPlansDown 2 none, Cond.methodLink RX0 122 yX0_takeReports, Cond.instanceMethod yX0_takeReports, Cond.selects RX0 yX0_takeReports yX0_takeReports, Cond.code yX0_takeReports cX0_takeReports 3 none, Cond.methodLink RX0 141 yX0_addPlan, Cond.instanceMethod yX0_addPlan, Cond.selects RX0 yX0_addPlan yX0_addPlan, Cond.code yX0_addPlan cX0_addPlan 2 none, Cond.methodLink RX0 144 yX0_guessedWay, Cond.instanceMethod yX0_guessedWay, Cond.selects RX0 yX0_guessedWay yX0_guessedWay, Cond.code yX0_guessedWay cX0_guessedWay 3 (some .int), Cond.methodLink RX0 125 yX0_doPlans, Cond.instanceMethod yX0_doPlans, Cond.selects RX0 yX0_doPlans yX0_doPlans, Cond.code yX0_doPlans cX0_doPlans 3 none]
def wsX4_starvesWithSlack_r4 : List Cond := [Cond.methodLink RX0 147 yX0_useLabel, Cond.instanceMethod yX0_useLabel, Cond.selects RX0 yX0_useLabel yX0_useLabel, Cond.code yX0_useLabel cX0_useLabel 2 none, Cond.methodLink RX0 150 yX1_liesUnder, Cond.instanceMethod yX1_liesUnder, Cond.selects RX1 yX1_liesUnder yX1_liesUnder, Cond.code yX1_liesUnder cX1_liesUnder 2 (some .boolean), Cond.methodLink RX0 153 yX0_markBox, Cond.instanceMethod yX0_markBox, Cond.selects RX0 yX0_markBox yX0_markBox, Cond.code yX0_markBox cX0_markBox 2 none, Cond.fieldLink RX0 156 "BeltMarks$Box" "marked" "Z", Cond.fieldLink RX0 159 "BeltMarks$Box" "twice" "Z", Cond.fieldLink RX0 162 "BeltMarks$Box" "mark" "I", Cond.methodLink RX0 128 yX0_feed, Cond.instanceMethod yX0_feed, Cond.selects RX0 yX0_feed yX0_feed, Cond.code yX0_feed cX0_feed 1 none, Cond.methodLink RX0 165 Lib.Math.min.name, Cond.static Lib.Math.min.name, Cond.initialized "java/lang/Math", Cond.code Lib.Math.min.name Lib.Math.min.code 2 (some .int), Cond.methodLink RX0 131 yX0_letBoxesLeave]
def wsX4_starvesWithSlack_r5 : List Cond := [Cond.instanceMethod yX0_letBoxesLeave, Cond.selects RX0 yX0_letBoxesLeave yX0_letBoxesLeave, Cond.code yX0_letBoxesLeave cX0_letBoxesLeave 4 none, Cond.methodLink RX0 75 yX1_back, Cond.instanceMethod yX1_back, Cond.selects RX1 yX1_back yX1_back, Cond.code yX1_back cX1_back 1 (some .int), Cond.methodLink RX0 168 yX0_fate, Cond.instanceMethod yX0_fate, Cond.selects RX0 yX0_fate yX0_fate, Cond.code yX0_fate cX0_fate 3 (some .int), Cond.methodLink RX0 172 Lib.Math.abs.name, Cond.static Lib.Math.abs.name, Cond.code Lib.Math.abs.name Lib.Math.abs.code 1 (some .int), Cond.methodLink RX4 81 yX0_number, Cond.instanceMethod yX0_number, Cond.selects RX0 yX0_number yX0_number, Cond.code yX0_number cX0_number 3 (some .int)]
def wsX4_starvesWithSlack : List Cond := .code yX4_starvesWithSlack cX4_starvesWithSlack 3 (some .boolean) :: ((wsX4_starvesWithSlack_r1 ++ (wsX4_starvesWithSlack_r2 ++ (wsX4_starvesWithSlack_r3 ++ (wsX4_starvesWithSlack_r4 ++ wsX4_starvesWithSlack_r5)))) ++ wsX40 ++ wsX00 ++ wsX10)
def wsX4_neededSlack_r1 : List Cond := [Cond.methodLink RX4 84 yX4_canTry, Cond.static yX4_canTry, Cond.initialized RX4, Cond.code yX4_canTry cX4_canTry 1 (some .boolean), Cond.methodLink RX4 102 yX4_starvesWithSlack, Cond.instanceMethod yX4_starvesWithSlack, Cond.selects RX4 yX4_starvesWithSlack yX4_starvesWithSlack, Cond.code yX4_starvesWithSlack cX4_starvesWithSlack 3 (some .boolean), Cond.fieldLink RX4 16 "BeltMarks" "trial" "LBeltMarks$Belt;", Cond.fieldLink RX4 10 "BeltMarks" "belt" "LBeltMarks$Belt;", Cond.fieldLink RX4 109 "BeltMarks$Belt" "tallies" "[I", Cond.methodLink RX4 92 yX0_copyFrom, Cond.instanceMethod yX0_copyFrom, Cond.selects RX0 yX0_copyFrom yX0_copyFrom, Cond.initialized RX0, Cond.code yX0_copyFrom cX0_copyFrom 3 none, Cond.fieldLink RX0 20 "BeltMarks$Belt" "settings" "[I", Cond.methodLink RX0 45 arraycopyName, Cond.native arraycopyName, Cond.static arraycopyName, Cond.initialized "java/lang/System", Cond.fieldLink RX0 23 "BeltMarks$Belt" "tallies" "[I", Cond.fieldLink RX0 51 "BeltMarks$Belt" "boxCount" "I", Cond.fieldLink RX0 28 "BeltMarks$Belt" "boxes" "[LBeltMarks$Box;"]
def wsX4_neededSlack_r2 : List Cond := [Cond.fieldLink RX0 59 "BeltMarks$Belt" "reportCount" "I", Cond.fieldLink RX0 32 "BeltMarks$Belt" "comes" "[I", Cond.fieldLink RX0 35 "BeltMarks$Belt" "excesses" "[I", Cond.fieldLink RX0 62 "BeltMarks$Belt" "planCount" "I", Cond.fieldLink RX0 38 "BeltMarks$Belt" "plans" "[I", Cond.fieldLink RX0 41 "BeltMarks$Belt" "ways" "[I", Cond.methodLink RX0 55 yX1_copyFrom, Cond.instanceMethod yX1_copyFrom, Cond.selects RX1 yX1_copyFrom yX1_copyFrom, Cond.initialized RX1, Cond.code yX1_copyFrom cX1_copyFrom 2 none, Cond.fieldLink RX1 11 "BeltMarks$Box" "front" "I", Cond.fieldLink RX1 15 "BeltMarks$Box" "length" "I", Cond.fieldLink RX1 18 "BeltMarks$Box" "seen" "Z", Cond.fieldLink RX1 22 "BeltMarks$Box" "marked" "Z", Cond.fieldLink RX1 25 "BeltMarks$Box" "mark" "I", Cond.fieldLink RX1 28 "BeltMarks$Box" "twice" "Z", Cond.fieldLink RX1 31 "BeltMarks$Box" "number" "I", Cond.methodLink RX4 95 yX0_tickOn, Cond.instanceMethod yX0_tickOn, Cond.selects RX0 yX0_tickOn yX0_tickOn, Cond.code yX0_tickOn cX0_tickOn 3 none, Cond.methodLink RX0 113 yX0_moveOn, Cond.instanceMethod yX0_moveOn]
def wsX4_neededSlack_r3 : List Cond := [Cond.selects RX0 yX0_moveOn yX0_moveOn, Cond.code yX0_moveOn cX0_moveOn 3 none, Cond.fieldLink RX0 86 "BeltMarks$Box" "front" "I", Cond.methodLink RX0 116 yX0_seeBoxes, Cond.instanceMethod yX0_seeBoxes, Cond.selects RX0 yX0_seeBoxes yX0_seeBoxes, Cond.code yX0_seeBoxes cX0_seeBoxes 3 none, Cond.fieldLink RX0 134 "BeltMarks$Box" "seen" "Z", Cond.methodLink RX0 138 yX0_addReport, Cond.instanceMethod yX0_addReport, Cond.selects RX0 yX0_addReport yX0_addReport, Cond.code yX0_addReport cX0_addReport 2 none, Cond.methodLink RX0 119 yX0_countPlansDown, Cond.instanceMethod yX0_countPlansDown, Cond.selects RX0 yX0_countPlansDown yX0_countPlansDown, Cond.code yX0_countPlansDown cX0_countPlansDown 2 none, Cond.methodLink RX0 122 yX0_takeReports, Cond.instanceMethod yX0_takeReports, Cond.selects RX0 yX0_takeReports yX0_takeReports, Cond.code yX0_takeReports cX0_takeReports 3 none, Cond.methodLink RX0 141 yX0_addPlan, Cond.instanceMethod yX0_addPlan, Cond.selects RX0 yX0_addPlan yX0_addPlan, Cond.code yX0_addPlan cX0_addPlan 2 none]
def wsX4_neededSlack_r4 : List Cond := [Cond.methodLink RX0 144 yX0_guessedWay, Cond.instanceMethod yX0_guessedWay, Cond.selects RX0 yX0_guessedWay yX0_guessedWay, Cond.code yX0_guessedWay cX0_guessedWay 3 (some .int), Cond.methodLink RX0 125 yX0_doPlans, Cond.instanceMethod yX0_doPlans, Cond.selects RX0 yX0_doPlans yX0_doPlans, Cond.code yX0_doPlans cX0_doPlans 3 none, Cond.methodLink RX0 147 yX0_useLabel, Cond.instanceMethod yX0_useLabel, Cond.selects RX0 yX0_useLabel yX0_useLabel, Cond.code yX0_useLabel cX0_useLabel 2 none, Cond.methodLink RX0 150 yX1_liesUnder, Cond.instanceMethod yX1_liesUnder, Cond.selects RX1 yX1_liesUnder yX1_liesUnder, Cond.code yX1_liesUnder cX1_liesUnder 2 (some .boolean), Cond.methodLink RX0 153 yX0_markBox, Cond.instanceMethod yX0_markBox, Cond.selects RX0 yX0_markBox yX0_markBox, Cond.code yX0_markBox cX0_markBox 2 none, Cond.fieldLink RX0 156 "BeltMarks$Box" "marked" "Z", Cond.fieldLink RX0 159 "BeltMarks$Box" "twice" "Z", Cond.fieldLink RX0 162 "BeltMarks$Box" "mark" "I", Cond.methodLink RX0 128 yX0_feed]
def wsX4_neededSlack_r5 : List Cond := [Cond.instanceMethod yX0_feed, Cond.selects RX0 yX0_feed yX0_feed, Cond.code yX0_feed cX0_feed 1 none, Cond.methodLink RX0 165 Lib.Math.min.name, Cond.static Lib.Math.min.name, Cond.initialized "java/lang/Math", Cond.code Lib.Math.min.name Lib.Math.min.code 2 (some .int), Cond.methodLink RX0 131 yX0_letBoxesLeave, Cond.instanceMethod yX0_letBoxesLeave, Cond.selects RX0 yX0_letBoxesLeave yX0_letBoxesLeave, Cond.code yX0_letBoxesLeave cX0_letBoxesLeave 4 none, Cond.methodLink RX0 75 yX1_back, Cond.instanceMethod yX1_back, Cond.selects RX1 yX1_back yX1_back, Cond.code yX1_back cX1_back 1 (some .int), Cond.methodLink RX0 168 yX0_fate, Cond.instanceMethod yX0_fate, Cond.selects RX0 yX0_fate yX0_fate, Cond.code yX0_fate cX0_fate 3 (some .int), Cond.methodLink RX0 172 Lib.Math.abs.name, Cond.static Lib.Math.abs.name, Cond.code Lib.Math.abs.name Lib.Math.abs.code 1 (some .int), Cond.methodLink RX4 81 yX0_number, Cond.instanceMethod yX0_number]
def wsX4_neededSlack_r6 : List Cond := [Cond.selects RX0 yX0_number yX0_number, Cond.code yX0_number cX0_number 3 (some .int)]
def wsX4_neededSlack : List Cond := .code yX4_neededSlack cX4_neededSlack 5 (some .int) :: ((wsX4_neededSlack_r1 ++ (wsX4_neededSlack_r2 ++ (wsX4_neededSlack_r3 ++ (wsX4_neededSlack_r4 ++ (wsX4_neededSlack_r5 ++ wsX4_neededSlack_r6))))) ++ wsX40 ++ wsX00 ++ wsX10)
def wsX4_put : List Cond := .code yX4_put cX4_put 3 (some .int) :: ([.fieldLink RX4 37 "BeltMarks" "pad" "LBeltMarks$Pad;", .methodLink RX4 112 yX3_append, .instanceMethod yX3_append, .selects RX3 yX3_append yX3_append, .initialized RX3, .code yX3_append cX3_append 5 (some .int), .fieldLink RX3 19 "BeltMarks$Pad" "length" "I", .fieldLink RX3 11 "BeltMarks$Pad" "signs" "[C", .methodLink RX3 15 yX3_howMany, .static yX3_howMany, .code yX3_howMany cX3_howMany 4 (some .int), .methodLink RX3 23 yX3_codeAt, .static yX3_codeAt, .code yX3_codeAt cX3_codeAt 3 (some .int)] ++ wsX40 ++ wsX30)
def wsX4_wipe : List Cond := .code yX4_wipe cX4_wipe 1 (some .int) :: ([.fieldLink RX4 37 "BeltMarks" "pad" "LBeltMarks$Pad;", .methodLink RX4 116 yX3_empty, .instanceMethod yX3_empty, .selects RX3 yX3_empty yX3_empty, .initialized RX3, .code yX3_empty cX3_empty 2 (some .int), .fieldLink RX3 19 "BeltMarks$Pad" "length" "I"] ++ wsX40 ++ wsX30)
def wsX4_fault : List Cond := .code yX4_fault cX4_fault 1 (some .int) :: ([.fieldLink RX4 37 "BeltMarks" "pad" "LBeltMarks$Pad;", .methodLink RX4 120 yX3_firstFault, .instanceMethod yX3_firstFault, .selects RX3 yX3_firstFault yX3_firstFault, .initialized RX3, .code yX3_firstFault cX3_firstFault 3 (some .int), .fieldLink RX3 19 "BeltMarks$Pad" "length" "I", .fieldLink RX3 11 "BeltMarks$Pad" "signs" "[C", .methodLink RX3 27 yX3_dueBehind, .static yX3_dueBehind, .code yX3_dueBehind cX3_dueBehind 2 (some .int), .methodLink RX3 31 yX3_behindOrder, .static yX3_behindOrder, .code yX3_behindOrder cX3_behindOrder 1 (some .int), .methodLink RX3 35 yX3_isDigit, .static yX3_isDigit, .code yX3_isDigit cX3_isDigit 1 (some .boolean)] ++ wsX40 ++ wsX30)
def wsX4_follow_r1 : List Cond := [Cond.fieldLink RX4 37 "BeltMarks" "pad" "LBeltMarks$Pad;", Cond.fieldLink RX4 10 "BeltMarks" "belt" "LBeltMarks$Belt;", Cond.methodLink RX4 129 yX3_signAt, Cond.instanceMethod yX3_signAt, Cond.selects RX3 yX3_signAt yX3_signAt, Cond.initialized RX3, Cond.code yX3_signAt cX3_signAt 2 (some .char), Cond.fieldLink RX3 19 "BeltMarks$Pad" "length" "I", Cond.fieldLink RX3 11 "BeltMarks$Pad" "signs" "[C", Cond.methodLink RX4 133 yX3_numberAt, Cond.instanceMethod yX3_numberAt, Cond.selects RX3 yX3_numberAt yX3_numberAt, Cond.code yX3_numberAt cX3_numberAt 4 (some .int), Cond.methodLink RX3 39 yX3_signAt, Cond.methodLink RX3 35 yX3_isDigit, Cond.static yX3_isDigit, Cond.code yX3_isDigit cX3_isDigit 1 (some .boolean), Cond.methodLink RX4 53 yX0_takeBox, Cond.instanceMethod yX0_takeBox, Cond.selects RX0 yX0_takeBox yX0_takeBox, Cond.initialized RX0, Cond.code yX0_takeBox cX0_takeBox 2 (some .int), Cond.fieldLink RX0 51 "BeltMarks$Belt" "boxCount" "I", Cond.fieldLink RX0 28 "BeltMarks$Belt" "boxes" "[LBeltMarks$Box;"]
def wsX4_follow_r2 : List Cond := [Cond.fieldLink RX0 23 "BeltMarks$Belt" "tallies" "[I", Cond.methodLink RX0 71 yX1_canHave, Cond.static yX1_canHave, Cond.initialized RX1, Cond.code yX1_canHave cX1_canHave 1 (some .boolean), Cond.methodLink RX0 75 yX1_back, Cond.instanceMethod yX1_back, Cond.selects RX1 yX1_back yX1_back, Cond.code yX1_back cX1_back 1 (some .int), Cond.fieldLink RX1 11 "BeltMarks$Box" "front" "I", Cond.fieldLink RX1 15 "BeltMarks$Box" "length" "I", Cond.methodLink RX0 79 yX1_begin, Cond.instanceMethod yX1_begin, Cond.selects RX1 yX1_begin yX1_begin, Cond.code yX1_begin cX1_begin 3 none, Cond.fieldLink RX1 18 "BeltMarks$Box" "seen" "Z", Cond.fieldLink RX1 22 "BeltMarks$Box" "marked" "Z", Cond.fieldLink RX1 25 "BeltMarks$Box" "mark" "I", Cond.fieldLink RX1 28 "BeltMarks$Box" "twice" "Z", Cond.fieldLink RX1 31 "BeltMarks$Box" "number" "I", Cond.methodLink RX4 59 yX0_letPass, Cond.instanceMethod yX0_letPass, Cond.selects RX0 yX0_letPass yX0_letPass, Cond.code yX0_letPass cX0_letPass 3 (some .int)]
def wsX4_follow_r3 : List Cond := [Cond.methodLink RX0 102 yX0_howManyLeft, Cond.instanceMethod yX0_howManyLeft, Cond.selects RX0 yX0_howManyLeft yX0_howManyLeft, Cond.code yX0_howManyLeft cX0_howManyLeft 1 (some .int), Cond.methodLink RX0 105 yX0_tickOn, Cond.instanceMethod yX0_tickOn, Cond.selects RX0 yX0_tickOn yX0_tickOn, Cond.code yX0_tickOn cX0_tickOn 3 none, Cond.methodLink RX0 113 yX0_moveOn, Cond.instanceMethod yX0_moveOn, Cond.selects RX0 yX0_moveOn yX0_moveOn, Cond.code yX0_moveOn cX0_moveOn 3 none, Cond.fieldLink RX0 20 "BeltMarks$Belt" "settings" "[I", Cond.fieldLink RX0 86 "BeltMarks$Box" "front" "I", Cond.fieldLink RX0 41 "BeltMarks$Belt" "ways" "[I", Cond.methodLink RX0 116 yX0_seeBoxes, Cond.instanceMethod yX0_seeBoxes, Cond.selects RX0 yX0_seeBoxes yX0_seeBoxes, Cond.code yX0_seeBoxes cX0_seeBoxes 3 none, Cond.fieldLink RX0 134 "BeltMarks$Box" "seen" "Z", Cond.methodLink RX0 138 yX0_addReport, Cond.instanceMethod yX0_addReport, Cond.selects RX0 yX0_addReport yX0_addReport, Cond.code yX0_addReport cX0_addReport 2 none]
def wsX4_follow_r4 : List Cond := [Cond.fieldLink RX0 59 "BeltMarks$Belt" "reportCount" "I", Cond.fieldLink RX0 32 "BeltMarks$Belt" "comes" "[I", Cond.fieldLink RX0 35 "BeltMarks$Belt" "excesses" "[I", Cond.methodLink RX0 119 yX0_countPlansDown, Cond.instanceMethod yX0_countPlansDown, Cond.selects RX0 yX0_countPlansDown yX0_countPlansDown, Cond.code yX0_countPlansDown cX0_countPlansDown 2 none, Cond.fieldLink RX0 62 "BeltMarks$Belt" "planCount" "I", Cond.fieldLink RX0 38 "BeltMarks$Belt" "plans" "[I", Cond.methodLink RX0 122 yX0_takeReports, Cond.instanceMethod yX0_takeReports, Cond.selects RX0 yX0_takeReports yX0_takeReports, Cond.code yX0_takeReports cX0_takeReports 3 none, Cond.methodLink RX0 141 yX0_addPlan, Cond.instanceMethod yX0_addPlan, Cond.selects RX0 yX0_addPlan yX0_addPlan, Cond.code yX0_addPlan cX0_addPlan 2 none, Cond.methodLink RX0 144 yX0_guessedWay, Cond.instanceMethod yX0_guessedWay, Cond.selects RX0 yX0_guessedWay yX0_guessedWay, Cond.code yX0_guessedWay cX0_guessedWay 3 (some .int), Cond.methodLink RX0 125 yX0_doPlans, Cond.instanceMethod yX0_doPlans, Cond.selects RX0 yX0_doPlans yX0_doPlans]
def wsX4_follow_r5 : List Cond := [Cond.code yX0_doPlans cX0_doPlans 3 none, Cond.methodLink RX0 147 yX0_useLabel, Cond.instanceMethod yX0_useLabel, Cond.selects RX0 yX0_useLabel yX0_useLabel, Cond.code yX0_useLabel cX0_useLabel 2 none, Cond.methodLink RX0 150 yX1_liesUnder, Cond.instanceMethod yX1_liesUnder, Cond.selects RX1 yX1_liesUnder yX1_liesUnder, Cond.code yX1_liesUnder cX1_liesUnder 2 (some .boolean), Cond.methodLink RX0 153 yX0_markBox, Cond.instanceMethod yX0_markBox, Cond.selects RX0 yX0_markBox yX0_markBox, Cond.code yX0_markBox cX0_markBox 2 none, Cond.fieldLink RX0 156 "BeltMarks$Box" "marked" "Z", Cond.fieldLink RX0 159 "BeltMarks$Box" "twice" "Z", Cond.fieldLink RX0 162 "BeltMarks$Box" "mark" "I", Cond.methodLink RX0 128 yX0_feed, Cond.instanceMethod yX0_feed, Cond.selects RX0 yX0_feed yX0_feed, Cond.code yX0_feed cX0_feed 1 none, Cond.methodLink RX0 165 Lib.Math.min.name, Cond.static Lib.Math.min.name, Cond.initialized "java/lang/Math", Cond.code Lib.Math.min.name Lib.Math.min.code 2 (some .int)]
def wsX4_follow_r6 : List Cond := [Cond.methodLink RX0 131 yX0_letBoxesLeave, Cond.instanceMethod yX0_letBoxesLeave, Cond.selects RX0 yX0_letBoxesLeave yX0_letBoxesLeave, Cond.code yX0_letBoxesLeave cX0_letBoxesLeave 4 none, Cond.methodLink RX0 168 yX0_fate, Cond.instanceMethod yX0_fate, Cond.selects RX0 yX0_fate yX0_fate, Cond.code yX0_fate cX0_fate 3 (some .int), Cond.methodLink RX0 172 Lib.Math.abs.name, Cond.static Lib.Math.abs.name, Cond.code Lib.Math.abs.name Lib.Math.abs.code 1 (some .int), Cond.methodLink RX4 45 yX0_choose, Cond.instanceMethod yX0_choose, Cond.selects RX0 yX0_choose yX0_choose, Cond.code yX0_choose cX0_choose 4 (some .int), Cond.fieldLink RX0 65 "BeltMarks$Belt" "LOWEST" "[I", Cond.fieldLink RX0 68 "BeltMarks$Belt" "HIGHEST" "[I", Cond.methodLink RX4 56 yX0_turnBox, Cond.instanceMethod yX0_turnBox, Cond.selects RX0 yX0_turnBox yX0_turnBox, Cond.code yX0_turnBox cX0_turnBox 5 (some .int), Cond.fieldLink RX0 89 "BeltMarks$Box" "length" "I", Cond.methodLink RX0 83 yX0_isBox, Cond.instanceMethod yX0_isBox]
def wsX4_follow_r7 : List Cond := [Cond.selects RX0 yX0_isBox yX0_isBox, Cond.code yX0_isBox cX0_isBox 2 (some .boolean), Cond.methodLink RX0 92 yJ9_floorDiv_7cf53, Cond.static yJ9_floorDiv_7cf53, Cond.initialized RJ9, Cond.code yJ9_floorDiv_7cf53 cJ9_floorDiv_7cf53 3 (some .int), Cond.methodLink RX0 98 yX0_hasRoom, Cond.instanceMethod yX0_hasRoom, Cond.selects RX0 yX0_hasRoom yX0_hasRoom, Cond.code yX0_hasRoom cX0_hasRoom 4 (some .boolean)]
def wsX4_follow : List Cond := .code yX4_follow cX4_follow 2 (some .int) :: ((wsX4_follow_r1 ++ (wsX4_follow_r2 ++ (wsX4_follow_r3 ++ (wsX4_follow_r4 ++ (wsX4_follow_r5 ++ (wsX4_follow_r6 ++ wsX4_follow_r7)))))) ++ wsX40 ++ wsX30 ++ wsX00 ++ wsX10)
def wsX4_carryOut_r1 : List Cond := [Cond.fieldLink RX4 37 "BeltMarks" "pad" "LBeltMarks$Pad;", Cond.fieldLink RX4 22 "BeltMarks" "history" "LBeltMarks$History;", Cond.fieldLink RX4 10 "BeltMarks" "belt" "LBeltMarks$Belt;", Cond.fieldLink RX4 74 "BeltMarks$Pad" "length" "I", Cond.methodLink RX4 120 yX3_firstFault, Cond.instanceMethod yX3_firstFault, Cond.selects RX3 yX3_firstFault yX3_firstFault, Cond.initialized RX3, Cond.code yX3_firstFault cX3_firstFault 3 (some .int), Cond.fieldLink RX3 19 "BeltMarks$Pad" "length" "I", Cond.fieldLink RX3 11 "BeltMarks$Pad" "signs" "[C", Cond.methodLink RX3 27 yX3_dueBehind, Cond.static yX3_dueBehind, Cond.code yX3_dueBehind cX3_dueBehind 2 (some .int), Cond.methodLink RX3 31 yX3_behindOrder, Cond.static yX3_behindOrder, Cond.code yX3_behindOrder cX3_behindOrder 1 (some .int), Cond.methodLink RX3 35 yX3_isDigit, Cond.static yX3_isDigit, Cond.code yX3_isDigit cX3_isDigit 1 (some .boolean), Cond.methodLink RX4 41 yX2_note, Cond.instanceMethod yX2_note, Cond.selects RX2 yX2_note yX2_note, Cond.initialized RX2]
def wsX4_carryOut_r2 : List Cond := [Cond.code yX2_note cX2_note 2 none, Cond.fieldLink RX2 26 "BeltMarks$History" "size" "I", Cond.methodLink RX2 29 yX2_stateAt, Cond.instanceMethod yX2_stateAt, Cond.selects RX2 yX2_stateAt yX2_stateAt, Cond.code yX2_stateAt cX2_stateAt 2 (some (.object "BeltMarks$Belt")), Cond.fieldLink RX2 11 "BeltMarks$History" "states" "[LBeltMarks$Belt;", Cond.fieldLink RX2 16 "BeltMarks$History" "oldest" "I", Cond.methodLink RX2 20 yJ9_floorMod_7cf53, Cond.static yJ9_floorMod_7cf53, Cond.initialized RJ9, Cond.code yJ9_floorMod_7cf53 cJ9_floorMod_7cf53 3 (some .int), Cond.methodLink RX2 33 yX0_copyFrom, Cond.instanceMethod yX0_copyFrom, Cond.selects RX0 yX0_copyFrom yX0_copyFrom, Cond.initialized RX0, Cond.code yX0_copyFrom cX0_copyFrom 3 none, Cond.fieldLink RX0 20 "BeltMarks$Belt" "settings" "[I", Cond.methodLink RX0 45 arraycopyName, Cond.native arraycopyName, Cond.static arraycopyName, Cond.initialized "java/lang/System", Cond.fieldLink RX0 23 "BeltMarks$Belt" "tallies" "[I", Cond.fieldLink RX0 51 "BeltMarks$Belt" "boxCount" "I"]
def wsX4_carryOut_r3 : List Cond := [Cond.fieldLink RX0 28 "BeltMarks$Belt" "boxes" "[LBeltMarks$Box;", Cond.fieldLink RX0 59 "BeltMarks$Belt" "reportCount" "I", Cond.fieldLink RX0 32 "BeltMarks$Belt" "comes" "[I", Cond.fieldLink RX0 35 "BeltMarks$Belt" "excesses" "[I", Cond.fieldLink RX0 62 "BeltMarks$Belt" "planCount" "I", Cond.fieldLink RX0 38 "BeltMarks$Belt" "plans" "[I", Cond.fieldLink RX0 41 "BeltMarks$Belt" "ways" "[I", Cond.methodLink RX0 55 yX1_copyFrom, Cond.instanceMethod yX1_copyFrom, Cond.selects RX1 yX1_copyFrom yX1_copyFrom, Cond.initialized RX1, Cond.code yX1_copyFrom cX1_copyFrom 2 none, Cond.fieldLink RX1 11 "BeltMarks$Box" "front" "I", Cond.fieldLink RX1 15 "BeltMarks$Box" "length" "I", Cond.fieldLink RX1 18 "BeltMarks$Box" "seen" "Z", Cond.fieldLink RX1 22 "BeltMarks$Box" "marked" "Z", Cond.fieldLink RX1 25 "BeltMarks$Box" "mark" "I", Cond.fieldLink RX1 28 "BeltMarks$Box" "twice" "Z", Cond.fieldLink RX1 31 "BeltMarks$Box" "number" "I", Cond.methodLink RX4 123 yX3_isOrder, Cond.instanceMethod yX3_isOrder, Cond.selects RX3 yX3_isOrder yX3_isOrder, Cond.code yX3_isOrder cX3_isOrder 2 (some .boolean), Cond.methodLink RX3 39 yX3_signAt]
def wsX4_carryOut_r4 : List Cond := [Cond.instanceMethod yX3_signAt, Cond.selects RX3 yX3_signAt yX3_signAt, Cond.code yX3_signAt cX3_signAt 2 (some .char), Cond.methodLink RX4 126 yX4_follow, Cond.instanceMethod yX4_follow, Cond.selects RX4 yX4_follow yX4_follow, Cond.initialized RX4, Cond.code yX4_follow cX4_follow 2 (some .int), Cond.methodLink RX4 129 yX3_signAt, Cond.methodLink RX4 133 yX3_numberAt, Cond.instanceMethod yX3_numberAt, Cond.selects RX3 yX3_numberAt yX3_numberAt, Cond.code yX3_numberAt cX3_numberAt 4 (some .int), Cond.methodLink RX4 53 yX0_takeBox, Cond.instanceMethod yX0_takeBox, Cond.selects RX0 yX0_takeBox yX0_takeBox, Cond.code yX0_takeBox cX0_takeBox 2 (some .int), Cond.methodLink RX0 71 yX1_canHave, Cond.static yX1_canHave, Cond.code yX1_canHave cX1_canHave 1 (some .boolean), Cond.methodLink RX0 75 yX1_back, Cond.instanceMethod yX1_back, Cond.selects RX1 yX1_back yX1_back, Cond.code yX1_back cX1_back 1 (some .int)]
def wsX4_carryOut_r5 : List Cond := [Cond.methodLink RX0 79 yX1_begin, Cond.instanceMethod yX1_begin, Cond.selects RX1 yX1_begin yX1_begin, Cond.code yX1_begin cX1_begin 3 none, Cond.methodLink RX4 59 yX0_letPass, Cond.instanceMethod yX0_letPass, Cond.selects RX0 yX0_letPass yX0_letPass, Cond.code yX0_letPass cX0_letPass 3 (some .int), Cond.methodLink RX0 102 yX0_howManyLeft, Cond.instanceMethod yX0_howManyLeft, Cond.selects RX0 yX0_howManyLeft yX0_howManyLeft, Cond.code yX0_howManyLeft cX0_howManyLeft 1 (some .int), Cond.methodLink RX0 105 yX0_tickOn, Cond.instanceMethod yX0_tickOn, Cond.selects RX0 yX0_tickOn yX0_tickOn, Cond.code yX0_tickOn cX0_tickOn 3 none, Cond.methodLink RX0 113 yX0_moveOn, Cond.instanceMethod yX0_moveOn, Cond.selects RX0 yX0_moveOn yX0_moveOn, Cond.code yX0_moveOn cX0_moveOn 3 none, Cond.fieldLink RX0 86 "BeltMarks$Box" "front" "I", Cond.methodLink RX0 116 yX0_seeBoxes, Cond.instanceMethod yX0_seeBoxes, Cond.selects RX0 yX0_seeBoxes yX0_seeBoxes]
def wsX4_carryOut_r6 : List Cond := [Cond.code yX0_seeBoxes cX0_seeBoxes 3 none, Cond.fieldLink RX0 134 "BeltMarks$Box" "seen" "Z", Cond.methodLink RX0 138 yX0_addReport, Cond.instanceMethod yX0_addReport, Cond.selects RX0 yX0_addReport yX0_addReport, Cond.code yX0_addReport cX0_addReport 2 none, Cond.methodLink RX0 119 yX0_countPlansDown, Cond.instanceMethod yX0_countPlansDown, Cond.selects RX0 yX0_countPlansDown yX0_countPlansDown, Cond.code yX0_countPlansDown cX0_countPlansDown 2 none, Cond.methodLink RX0 122 yX0_takeReports, Cond.instanceMethod yX0_takeReports, Cond.selects RX0 yX0_takeReports yX0_takeReports, Cond.code yX0_takeReports cX0_takeReports 3 none, Cond.methodLink RX0 141 yX0_addPlan, Cond.instanceMethod yX0_addPlan, Cond.selects RX0 yX0_addPlan yX0_addPlan, Cond.code yX0_addPlan cX0_addPlan 2 none, Cond.methodLink RX0 144 yX0_guessedWay, Cond.instanceMethod yX0_guessedWay, Cond.selects RX0 yX0_guessedWay yX0_guessedWay, Cond.code yX0_guessedWay cX0_guessedWay 3 (some .int), Cond.methodLink RX0 125 yX0_doPlans, Cond.instanceMethod yX0_doPlans]
def wsX4_carryOut_r7 : List Cond := [Cond.selects RX0 yX0_doPlans yX0_doPlans, Cond.code yX0_doPlans cX0_doPlans 3 none, Cond.methodLink RX0 147 yX0_useLabel, Cond.instanceMethod yX0_useLabel, Cond.selects RX0 yX0_useLabel yX0_useLabel, Cond.code yX0_useLabel cX0_useLabel 2 none, Cond.methodLink RX0 150 yX1_liesUnder, Cond.instanceMethod yX1_liesUnder, Cond.selects RX1 yX1_liesUnder yX1_liesUnder, Cond.code yX1_liesUnder cX1_liesUnder 2 (some .boolean), Cond.methodLink RX0 153 yX0_markBox, Cond.instanceMethod yX0_markBox, Cond.selects RX0 yX0_markBox yX0_markBox, Cond.code yX0_markBox cX0_markBox 2 none, Cond.fieldLink RX0 156 "BeltMarks$Box" "marked" "Z", Cond.fieldLink RX0 159 "BeltMarks$Box" "twice" "Z", Cond.fieldLink RX0 162 "BeltMarks$Box" "mark" "I", Cond.methodLink RX0 128 yX0_feed, Cond.instanceMethod yX0_feed, Cond.selects RX0 yX0_feed yX0_feed, Cond.code yX0_feed cX0_feed 1 none, Cond.methodLink RX0 165 Lib.Math.min.name, Cond.static Lib.Math.min.name, Cond.initialized "java/lang/Math"]
def wsX4_carryOut_r8 : List Cond := [Cond.code Lib.Math.min.name Lib.Math.min.code 2 (some .int), Cond.methodLink RX0 131 yX0_letBoxesLeave, Cond.instanceMethod yX0_letBoxesLeave, Cond.selects RX0 yX0_letBoxesLeave yX0_letBoxesLeave, Cond.code yX0_letBoxesLeave cX0_letBoxesLeave 4 none, Cond.methodLink RX0 168 yX0_fate, Cond.instanceMethod yX0_fate, Cond.selects RX0 yX0_fate yX0_fate, Cond.code yX0_fate cX0_fate 3 (some .int), Cond.methodLink RX0 172 Lib.Math.abs.name, Cond.static Lib.Math.abs.name, Cond.code Lib.Math.abs.name Lib.Math.abs.code 1 (some .int), Cond.methodLink RX4 45 yX0_choose, Cond.instanceMethod yX0_choose, Cond.selects RX0 yX0_choose yX0_choose, Cond.code yX0_choose cX0_choose 4 (some .int), Cond.fieldLink RX0 65 "BeltMarks$Belt" "LOWEST" "[I", Cond.fieldLink RX0 68 "BeltMarks$Belt" "HIGHEST" "[I", Cond.methodLink RX4 56 yX0_turnBox, Cond.instanceMethod yX0_turnBox, Cond.selects RX0 yX0_turnBox yX0_turnBox, Cond.code yX0_turnBox cX0_turnBox 5 (some .int), Cond.fieldLink RX0 89 "BeltMarks$Box" "length" "I", Cond.methodLink RX0 83 yX0_isBox]
def wsX4_carryOut_r9 : List Cond := [Cond.instanceMethod yX0_isBox, Cond.selects RX0 yX0_isBox yX0_isBox, Cond.code yX0_isBox cX0_isBox 2 (some .boolean), Cond.methodLink RX0 92 yJ9_floorDiv_7cf53, Cond.static yJ9_floorDiv_7cf53, Cond.code yJ9_floorDiv_7cf53 cJ9_floorDiv_7cf53 3 (some .int), Cond.methodLink RX0 98 yX0_hasRoom, Cond.instanceMethod yX0_hasRoom, Cond.selects RX0 yX0_hasRoom yX0_hasRoom, Cond.code yX0_hasRoom cX0_hasRoom 4 (some .boolean), Cond.methodLink RX4 116 yX3_empty, Cond.instanceMethod yX3_empty, Cond.selects RX3 yX3_empty yX3_empty, Cond.code yX3_empty cX3_empty 2 (some .int), Cond.methodLink RX4 49 yX4_recorded, Cond.instanceMethod yX4_recorded, Cond.selects RX4 yX4_recorded yX4_recorded, Cond.code yX4_recorded cX4_recorded 2 (some .int), Cond.methodLink RX4 62 yX2_keepNoted, Cond.instanceMethod yX2_keepNoted, Cond.selects RX2 yX2_keepNoted yX2_keepNoted, Cond.code yX2_keepNoted cX2_keepNoted 1 none]
def wsX4_carryOut : List Cond := .code yX4_carryOut cX4_carryOut 3 (some .int) :: ((wsX4_carryOut_r1 ++ (wsX4_carryOut_r2 ++ (wsX4_carryOut_r3 ++ (wsX4_carryOut_r4 ++ (wsX4_carryOut_r5 ++ (wsX4_carryOut_r6 ++ (wsX4_carryOut_r7 ++ (wsX4_carryOut_r8 ++ wsX4_carryOut_r9)))))))) ++ wsX40 ++ wsX30 ++ wsX20 ++ wsX00 ++ wsX10)
def wsX4_undo_r1 : List Cond := [Cond.fieldLink RX4 22 "BeltMarks" "history" "LBeltMarks$History;", Cond.fieldLink RX4 78 "BeltMarks$History" "size" "I", Cond.fieldLink RX4 10 "BeltMarks" "belt" "LBeltMarks$Belt;", Cond.methodLink RX4 136 yX2_takeBack, Cond.instanceMethod yX2_takeBack, Cond.selects RX2 yX2_takeBack yX2_takeBack, Cond.initialized RX2, Cond.code yX2_takeBack cX2_takeBack 2 none, Cond.fieldLink RX2 26 "BeltMarks$History" "size" "I", Cond.methodLink RX2 29 yX2_stateAt, Cond.instanceMethod yX2_stateAt, Cond.selects RX2 yX2_stateAt yX2_stateAt, Cond.code yX2_stateAt cX2_stateAt 2 (some (.object "BeltMarks$Belt")), Cond.fieldLink RX2 11 "BeltMarks$History" "states" "[LBeltMarks$Belt;", Cond.fieldLink RX2 16 "BeltMarks$History" "oldest" "I", Cond.methodLink RX2 20 yJ9_floorMod_7cf53, Cond.static yJ9_floorMod_7cf53, Cond.initialized RJ9, Cond.code yJ9_floorMod_7cf53 cJ9_floorMod_7cf53 3 (some .int), Cond.methodLink RX2 33 yX0_copyFrom, Cond.instanceMethod yX0_copyFrom, Cond.selects RX0 yX0_copyFrom yX0_copyFrom, Cond.initialized RX0, Cond.code yX0_copyFrom cX0_copyFrom 3 none]
def wsX4_undo_r2 : List Cond := [Cond.fieldLink RX0 20 "BeltMarks$Belt" "settings" "[I", Cond.methodLink RX0 45 arraycopyName, Cond.native arraycopyName, Cond.static arraycopyName, Cond.initialized "java/lang/System", Cond.fieldLink RX0 23 "BeltMarks$Belt" "tallies" "[I", Cond.fieldLink RX0 51 "BeltMarks$Belt" "boxCount" "I", Cond.fieldLink RX0 28 "BeltMarks$Belt" "boxes" "[LBeltMarks$Box;", Cond.fieldLink RX0 59 "BeltMarks$Belt" "reportCount" "I", Cond.fieldLink RX0 32 "BeltMarks$Belt" "comes" "[I", Cond.fieldLink RX0 35 "BeltMarks$Belt" "excesses" "[I", Cond.fieldLink RX0 62 "BeltMarks$Belt" "planCount" "I", Cond.fieldLink RX0 38 "BeltMarks$Belt" "plans" "[I", Cond.fieldLink RX0 41 "BeltMarks$Belt" "ways" "[I", Cond.methodLink RX0 55 yX1_copyFrom, Cond.instanceMethod yX1_copyFrom, Cond.selects RX1 yX1_copyFrom yX1_copyFrom, Cond.initialized RX1, Cond.code yX1_copyFrom cX1_copyFrom 2 none, Cond.fieldLink RX1 11 "BeltMarks$Box" "front" "I", Cond.fieldLink RX1 15 "BeltMarks$Box" "length" "I", Cond.fieldLink RX1 18 "BeltMarks$Box" "seen" "Z", Cond.fieldLink RX1 22 "BeltMarks$Box" "marked" "Z", Cond.fieldLink RX1 25 "BeltMarks$Box" "mark" "I"]
def wsX4_undo_r3 : List Cond := [Cond.fieldLink RX1 28 "BeltMarks$Box" "twice" "Z", Cond.fieldLink RX1 31 "BeltMarks$Box" "number" "I"]
def wsX4_undo : List Cond := .code yX4_undo cX4_undo 1 (some .int) :: ((wsX4_undo_r1 ++ (wsX4_undo_r2 ++ wsX4_undo_r3)) ++ wsX40 ++ wsX20 ++ wsX00 ++ wsX10)
def wsX4_isSlot : List Cond := .code yX4_isSlot cX4_isSlot 2 (some .boolean) :: ([.fieldLink RX4 26 "BeltMarks" "slots" "[LBeltMarks$Belt;"] ++ wsX40)
def wsX4_save_r1 : List Cond := [Cond.fieldLink RX4 26 "BeltMarks" "slots" "[LBeltMarks$Belt;", Cond.fieldLink RX4 10 "BeltMarks" "belt" "LBeltMarks$Belt;", Cond.fieldLink RX4 30 "BeltMarks" "saved" "[Z", Cond.methodLink RX4 139 yX4_isSlot, Cond.instanceMethod yX4_isSlot, Cond.selects RX4 yX4_isSlot yX4_isSlot, Cond.initialized RX4, Cond.code yX4_isSlot cX4_isSlot 2 (some .boolean), Cond.methodLink RX4 92 yX0_copyFrom, Cond.instanceMethod yX0_copyFrom, Cond.selects RX0 yX0_copyFrom yX0_copyFrom, Cond.initialized RX0, Cond.code yX0_copyFrom cX0_copyFrom 3 none, Cond.fieldLink RX0 20 "BeltMarks$Belt" "settings" "[I", Cond.methodLink RX0 45 arraycopyName, Cond.native arraycopyName, Cond.static arraycopyName, Cond.initialized "java/lang/System", Cond.fieldLink RX0 23 "BeltMarks$Belt" "tallies" "[I", Cond.fieldLink RX0 51 "BeltMarks$Belt" "boxCount" "I", Cond.fieldLink RX0 28 "BeltMarks$Belt" "boxes" "[LBeltMarks$Box;", Cond.fieldLink RX0 59 "BeltMarks$Belt" "reportCount" "I", Cond.fieldLink RX0 32 "BeltMarks$Belt" "comes" "[I", Cond.fieldLink RX0 35 "BeltMarks$Belt" "excesses" "[I"]
def wsX4_save_r2 : List Cond := [Cond.fieldLink RX0 62 "BeltMarks$Belt" "planCount" "I", Cond.fieldLink RX0 38 "BeltMarks$Belt" "plans" "[I", Cond.fieldLink RX0 41 "BeltMarks$Belt" "ways" "[I", Cond.methodLink RX0 55 yX1_copyFrom, Cond.instanceMethod yX1_copyFrom, Cond.selects RX1 yX1_copyFrom yX1_copyFrom, Cond.initialized RX1, Cond.code yX1_copyFrom cX1_copyFrom 2 none, Cond.fieldLink RX1 11 "BeltMarks$Box" "front" "I", Cond.fieldLink RX1 15 "BeltMarks$Box" "length" "I", Cond.fieldLink RX1 18 "BeltMarks$Box" "seen" "Z", Cond.fieldLink RX1 22 "BeltMarks$Box" "marked" "Z", Cond.fieldLink RX1 25 "BeltMarks$Box" "mark" "I", Cond.fieldLink RX1 28 "BeltMarks$Box" "twice" "Z", Cond.fieldLink RX1 31 "BeltMarks$Box" "number" "I", Cond.methodLink RX4 81 yX0_number, Cond.instanceMethod yX0_number, Cond.selects RX0 yX0_number yX0_number, Cond.code yX0_number cX0_number 3 (some .int)]
def wsX4_save : List Cond := .code yX4_save cX4_save 2 (some .int) :: ((wsX4_save_r1 ++ wsX4_save_r2) ++ wsX40 ++ wsX00 ++ wsX10)
def wsX4_restore_r1 : List Cond := [Cond.fieldLink RX4 30 "BeltMarks" "saved" "[Z", Cond.fieldLink RX4 22 "BeltMarks" "history" "LBeltMarks$History;", Cond.fieldLink RX4 10 "BeltMarks" "belt" "LBeltMarks$Belt;", Cond.fieldLink RX4 26 "BeltMarks" "slots" "[LBeltMarks$Belt;", Cond.methodLink RX4 139 yX4_isSlot, Cond.instanceMethod yX4_isSlot, Cond.selects RX4 yX4_isSlot yX4_isSlot, Cond.initialized RX4, Cond.code yX4_isSlot cX4_isSlot 2 (some .boolean), Cond.methodLink RX4 41 yX2_note, Cond.instanceMethod yX2_note, Cond.selects RX2 yX2_note yX2_note, Cond.initialized RX2, Cond.code yX2_note cX2_note 2 none, Cond.fieldLink RX2 26 "BeltMarks$History" "size" "I", Cond.methodLink RX2 29 yX2_stateAt, Cond.instanceMethod yX2_stateAt, Cond.selects RX2 yX2_stateAt yX2_stateAt, Cond.code yX2_stateAt cX2_stateAt 2 (some (.object "BeltMarks$Belt")), Cond.fieldLink RX2 11 "BeltMarks$History" "states" "[LBeltMarks$Belt;", Cond.fieldLink RX2 16 "BeltMarks$History" "oldest" "I", Cond.methodLink RX2 20 yJ9_floorMod_7cf53, Cond.static yJ9_floorMod_7cf53, Cond.initialized RJ9]
def wsX4_restore_r2 : List Cond := [Cond.code yJ9_floorMod_7cf53 cJ9_floorMod_7cf53 3 (some .int), Cond.methodLink RX2 33 yX0_copyFrom, Cond.instanceMethod yX0_copyFrom, Cond.selects RX0 yX0_copyFrom yX0_copyFrom, Cond.initialized RX0, Cond.code yX0_copyFrom cX0_copyFrom 3 none, Cond.fieldLink RX0 20 "BeltMarks$Belt" "settings" "[I", Cond.methodLink RX0 45 arraycopyName, Cond.native arraycopyName, Cond.static arraycopyName, Cond.initialized "java/lang/System", Cond.fieldLink RX0 23 "BeltMarks$Belt" "tallies" "[I", Cond.fieldLink RX0 51 "BeltMarks$Belt" "boxCount" "I", Cond.fieldLink RX0 28 "BeltMarks$Belt" "boxes" "[LBeltMarks$Box;", Cond.fieldLink RX0 59 "BeltMarks$Belt" "reportCount" "I", Cond.fieldLink RX0 32 "BeltMarks$Belt" "comes" "[I", Cond.fieldLink RX0 35 "BeltMarks$Belt" "excesses" "[I", Cond.fieldLink RX0 62 "BeltMarks$Belt" "planCount" "I", Cond.fieldLink RX0 38 "BeltMarks$Belt" "plans" "[I", Cond.fieldLink RX0 41 "BeltMarks$Belt" "ways" "[I", Cond.methodLink RX0 55 yX1_copyFrom, Cond.instanceMethod yX1_copyFrom, Cond.selects RX1 yX1_copyFrom yX1_copyFrom, Cond.initialized RX1]
def wsX4_restore_r3 : List Cond := [Cond.code yX1_copyFrom cX1_copyFrom 2 none, Cond.fieldLink RX1 11 "BeltMarks$Box" "front" "I", Cond.fieldLink RX1 15 "BeltMarks$Box" "length" "I", Cond.fieldLink RX1 18 "BeltMarks$Box" "seen" "Z", Cond.fieldLink RX1 22 "BeltMarks$Box" "marked" "Z", Cond.fieldLink RX1 25 "BeltMarks$Box" "mark" "I", Cond.fieldLink RX1 28 "BeltMarks$Box" "twice" "Z", Cond.fieldLink RX1 31 "BeltMarks$Box" "number" "I", Cond.methodLink RX4 92 yX0_copyFrom, Cond.methodLink RX4 81 yX0_number, Cond.instanceMethod yX0_number, Cond.selects RX0 yX0_number yX0_number, Cond.code yX0_number cX0_number 3 (some .int), Cond.methodLink RX4 49 yX4_recorded, Cond.instanceMethod yX4_recorded, Cond.selects RX4 yX4_recorded yX4_recorded, Cond.code yX4_recorded cX4_recorded 2 (some .int), Cond.methodLink RX4 62 yX2_keepNoted, Cond.instanceMethod yX2_keepNoted, Cond.selects RX2 yX2_keepNoted yX2_keepNoted, Cond.code yX2_keepNoted cX2_keepNoted 1 none]
def wsX4_restore : List Cond := .code yX4_restore cX4_restore 2 (some .int) :: ((wsX4_restore_r1 ++ (wsX4_restore_r2 ++ wsX4_restore_r3)) ++ wsX40 ++ wsX20 ++ wsX00 ++ wsX10)
def wsX5_init : List Cond := .code yX5_init cX5_init 1 none :: ([.methodLink RX5 1 objectInit, .instanceMethod objectInit, .code objectInit ⟨#[0xb1]⟩ 1 none, .arrayClass .int, .fieldLink RX5 7 "BeltMarksModel" "all" "[I", .fieldLink RX5 13 "BeltMarksModel" "kept" "[I", .fieldLink RX5 16 "BeltMarksModel" "history" "[I", .fieldLink RX5 19 "BeltMarksModel" "slots" "[I", .fieldLink RX5 22 "BeltMarksModel" "isSaved" "[I", .fieldLink RX5 25 "BeltMarksModel" "pad" "[I"] ++ wsX50)
def wsX5_in : List Cond := .code yX5_in cX5_in 6 (some .boolean) :: ([])
def wsX5_keep : List Cond := .code yX5_keep cX5_keep 2 none :: ([.fieldLink RX5 13 "BeltMarksModel" "kept" "[I", .fieldLink RX5 7 "BeltMarksModel" "all" "[I"] ++ wsX50)
def wsX5_giveBack : List Cond := .code yX5_giveBack cX5_giveBack 2 none :: ([.fieldLink RX5 7 "BeltMarksModel" "all" "[I", .fieldLink RX5 13 "BeltMarksModel" "kept" "[I"] ++ wsX50)
def wsX5_changed : List Cond := .code yX5_changed cX5_changed 3 (some .int) :: ([.fieldLink RX5 28 "BeltMarksModel" "historyLong" "I", .fieldLink RX5 16 "BeltMarksModel" "history" "[I", .fieldLink RX5 13 "BeltMarksModel" "kept" "[I"] ++ wsX50)
def wsX5_get : List Cond := .code yX5_get cX5_get 3 (some .int) :: ([.fieldLink RX5 7 "BeltMarksModel" "all" "[I"] ++ wsX50)
def wsX5_put : List Cond := .code yX5_put cX5_put 4 none :: ([.fieldLink RX5 7 "BeltMarksModel" "all" "[I"] ++ wsX50)
def wsX5_back : List Cond := .code yX5_back cX5_back 2 (some .int) :: ([.methodLink RX5 32 yX5_get, .instanceMethod yX5_get, .selects RX5 yX5_get yX5_get, .initialized RX5, .code yX5_get cX5_get 3 (some .int), .fieldLink RX5 7 "BeltMarksModel" "all" "[I"] ++ wsX50)
def wsX5_isBox : List Cond := .code yX5_isBox cX5_isBox 2 (some .boolean) :: ([.fieldLink RX5 7 "BeltMarksModel" "all" "[I", .methodLink RX5 36 yX5_in, .static yX5_in, .initialized RX5, .code yX5_in cX5_in 6 (some .boolean)] ++ wsX50)
def wsX5_isLength : List Cond := .code yX5_isLength cX5_isLength 1 (some .boolean) :: ([.constantLong RX5 40 (4), .constantLong RX5 42 (30), .methodLink RX5 36 yX5_in, .static yX5_in, .initialized RX5, .code yX5_in cX5_in 6 (some .boolean)])
def wsX5_takesOut : List Cond := .code yX5_takesOut cX5_takesOut 6 none :: ([.fieldLink RX5 7 "BeltMarksModel" "all" "[I"] ++ wsX50)
def wsX5_moves : List Cond := .code yX5_moves cX5_moves 2 none :: ([.fieldLink RX5 7 "BeltMarksModel" "all" "[I", .methodLink RX5 32 yX5_get, .instanceMethod yX5_get, .selects RX5 yX5_get yX5_get, .initialized RX5, .code yX5_get cX5_get 3 (some .int), .methodLink RX5 44 yX5_put, .instanceMethod yX5_put, .selects RX5 yX5_put yX5_put, .code yX5_put cX5_put 4 none] ++ wsX50)
def wsX5_sees : List Cond := .code yX5_sees cX5_sees 2 none :: ([.fieldLink RX5 7 "BeltMarksModel" "all" "[I", .methodLink RX5 32 yX5_get, .instanceMethod yX5_get, .selects RX5 yX5_get yX5_get, .initialized RX5, .code yX5_get cX5_get 3 (some .int), .methodLink RX5 44 yX5_put, .instanceMethod yX5_put, .selects RX5 yX5_put yX5_put, .code yX5_put cX5_put 4 none] ++ wsX50)
def wsX5_guessedWay : List Cond := .code yX5_guessedWay cX5_guessedWay 3 (some .int) :: ([.fieldLink RX5 7 "BeltMarksModel" "all" "[I"] ++ wsX50)
def wsX5_plans : List Cond := .code yX5_plans cX5_plans 2 none :: ([.fieldLink RX5 7 "BeltMarksModel" "all" "[I", .methodLink RX5 48 yX5_guessedWay, .instanceMethod yX5_guessedWay, .selects RX5 yX5_guessedWay yX5_guessedWay, .initialized RX5, .code yX5_guessedWay cX5_guessedWay 3 (some .int), .methodLink RX5 52 yX5_takesOut, .instanceMethod yX5_takesOut, .selects RX5 yX5_takesOut yX5_takesOut, .code yX5_takesOut cX5_takesOut 6 none] ++ wsX50)
def wsX5_under : List Cond := .code yX5_under cX5_under 3 (some .int) :: ([.fieldLink RX5 7 "BeltMarksModel" "all" "[I", .methodLink RX5 32 yX5_get, .instanceMethod yX5_get, .selects RX5 yX5_get yX5_get, .initialized RX5, .code yX5_get cX5_get 3 (some .int), .methodLink RX5 56 yX5_back, .instanceMethod yX5_back, .selects RX5 yX5_back yX5_back, .code yX5_back cX5_back 2 (some .int)] ++ wsX50)
def wsX5_marks : List Cond := .code yX5_marks cX5_marks 2 none :: ([.fieldLink RX5 7 "BeltMarksModel" "all" "[I", .methodLink RX5 60 yX5_under, .instanceMethod yX5_under, .selects RX5 yX5_under yX5_under, .initialized RX5, .code yX5_under cX5_under 3 (some .int), .methodLink RX5 32 yX5_get, .instanceMethod yX5_get, .selects RX5 yX5_get yX5_get, .code yX5_get cX5_get 3 (some .int), .methodLink RX5 56 yX5_back, .instanceMethod yX5_back, .selects RX5 yX5_back yX5_back, .code yX5_back cX5_back 2 (some .int), .methodLink RX5 44 yX5_put, .instanceMethod yX5_put, .selects RX5 yX5_put yX5_put, .code yX5_put cX5_put 4 none] ++ wsX50)
def wsX5_doesPlans_r1 : List Cond := [Cond.fieldLink RX5 7 "BeltMarksModel" "all" "[I", Cond.methodLink RX5 52 yX5_takesOut, Cond.instanceMethod yX5_takesOut, Cond.selects RX5 yX5_takesOut yX5_takesOut, Cond.initialized RX5, Cond.code yX5_takesOut cX5_takesOut 6 none, Cond.methodLink RX5 63 yX5_marks, Cond.instanceMethod yX5_marks, Cond.selects RX5 yX5_marks yX5_marks, Cond.code yX5_marks cX5_marks 2 none, Cond.methodLink RX5 60 yX5_under, Cond.instanceMethod yX5_under, Cond.selects RX5 yX5_under yX5_under, Cond.code yX5_under cX5_under 3 (some .int), Cond.methodLink RX5 32 yX5_get, Cond.instanceMethod yX5_get, Cond.selects RX5 yX5_get yX5_get, Cond.code yX5_get cX5_get 3 (some .int), Cond.methodLink RX5 56 yX5_back, Cond.instanceMethod yX5_back, Cond.selects RX5 yX5_back yX5_back, Cond.code yX5_back cX5_back 2 (some .int), Cond.methodLink RX5 44 yX5_put, Cond.instanceMethod yX5_put]
def wsX5_doesPlans_r2 : List Cond := [Cond.selects RX5 yX5_put yX5_put, Cond.code yX5_put cX5_put 4 none]
def wsX5_doesPlans : List Cond := .code yX5_doesPlans cX5_doesPlans 2 none :: ((wsX5_doesPlans_r1 ++ wsX5_doesPlans_r2) ++ wsX50)
def wsX5_judges : List Cond := .code yX5_judges cX5_judges 4 none :: ([.fieldLink RX5 7 "BeltMarksModel" "all" "[I", .methodLink RX5 32 yX5_get, .instanceMethod yX5_get, .selects RX5 yX5_get yX5_get, .initialized RX5, .code yX5_get cX5_get 3 (some .int), .methodLink RX5 36 yX5_in, .static yX5_in, .code yX5_in cX5_in 6 (some .boolean)] ++ wsX50)
def wsX5_ticksOn_r1 : List Cond := [Cond.fieldLink RX5 7 "BeltMarksModel" "all" "[I", Cond.methodLink RX5 66 yX5_moves, Cond.instanceMethod yX5_moves, Cond.selects RX5 yX5_moves yX5_moves, Cond.initialized RX5, Cond.code yX5_moves cX5_moves 2 none, Cond.methodLink RX5 32 yX5_get, Cond.instanceMethod yX5_get, Cond.selects RX5 yX5_get yX5_get, Cond.code yX5_get cX5_get 3 (some .int), Cond.methodLink RX5 44 yX5_put, Cond.instanceMethod yX5_put, Cond.selects RX5 yX5_put yX5_put, Cond.code yX5_put cX5_put 4 none, Cond.methodLink RX5 69 yX5_sees, Cond.instanceMethod yX5_sees, Cond.selects RX5 yX5_sees yX5_sees, Cond.code yX5_sees cX5_sees 2 none, Cond.methodLink RX5 72 yX5_plans, Cond.instanceMethod yX5_plans, Cond.selects RX5 yX5_plans yX5_plans, Cond.code yX5_plans cX5_plans 2 none, Cond.methodLink RX5 48 yX5_guessedWay, Cond.instanceMethod yX5_guessedWay]
def wsX5_ticksOn_r2 : List Cond := [Cond.selects RX5 yX5_guessedWay yX5_guessedWay, Cond.code yX5_guessedWay cX5_guessedWay 3 (some .int), Cond.methodLink RX5 52 yX5_takesOut, Cond.instanceMethod yX5_takesOut, Cond.selects RX5 yX5_takesOut yX5_takesOut, Cond.code yX5_takesOut cX5_takesOut 6 none, Cond.methodLink RX5 75 yX5_doesPlans, Cond.instanceMethod yX5_doesPlans, Cond.selects RX5 yX5_doesPlans yX5_doesPlans, Cond.code yX5_doesPlans cX5_doesPlans 2 none, Cond.methodLink RX5 63 yX5_marks, Cond.instanceMethod yX5_marks, Cond.selects RX5 yX5_marks yX5_marks, Cond.code yX5_marks cX5_marks 2 none, Cond.methodLink RX5 60 yX5_under, Cond.instanceMethod yX5_under, Cond.selects RX5 yX5_under yX5_under, Cond.code yX5_under cX5_under 3 (some .int), Cond.methodLink RX5 56 yX5_back, Cond.instanceMethod yX5_back, Cond.selects RX5 yX5_back yX5_back, Cond.code yX5_back cX5_back 2 (some .int), Cond.methodLink RX5 78 yX5_judges, Cond.instanceMethod yX5_judges]
def wsX5_ticksOn_r3 : List Cond := [Cond.selects RX5 yX5_judges yX5_judges, Cond.code yX5_judges cX5_judges 4 none, Cond.methodLink RX5 36 yX5_in, Cond.static yX5_in, Cond.code yX5_in cX5_in 6 (some .boolean)]
def wsX5_ticksOn : List Cond := .code yX5_ticksOn cX5_ticksOn 4 (some .int) :: ((wsX5_ticksOn_r1 ++ (wsX5_ticksOn_r2 ++ wsX5_ticksOn_r3)) ++ wsX50)
def wsX5_passes_r1 : List Cond := [Cond.methodLink RX5 82 yX5_ticksOn, Cond.instanceMethod yX5_ticksOn, Cond.selects RX5 yX5_ticksOn yX5_ticksOn, Cond.initialized RX5, Cond.code yX5_ticksOn cX5_ticksOn 4 (some .int), Cond.fieldLink RX5 7 "BeltMarksModel" "all" "[I", Cond.methodLink RX5 66 yX5_moves, Cond.instanceMethod yX5_moves, Cond.selects RX5 yX5_moves yX5_moves, Cond.code yX5_moves cX5_moves 2 none, Cond.methodLink RX5 32 yX5_get, Cond.instanceMethod yX5_get, Cond.selects RX5 yX5_get yX5_get, Cond.code yX5_get cX5_get 3 (some .int), Cond.methodLink RX5 44 yX5_put, Cond.instanceMethod yX5_put, Cond.selects RX5 yX5_put yX5_put, Cond.code yX5_put cX5_put 4 none, Cond.methodLink RX5 69 yX5_sees, Cond.instanceMethod yX5_sees, Cond.selects RX5 yX5_sees yX5_sees, Cond.code yX5_sees cX5_sees 2 none, Cond.methodLink RX5 72 yX5_plans, Cond.instanceMethod yX5_plans]
def wsX5_passes_r2 : List Cond := [Cond.selects RX5 yX5_plans yX5_plans, Cond.code yX5_plans cX5_plans 2 none, Cond.methodLink RX5 48 yX5_guessedWay, Cond.instanceMethod yX5_guessedWay, Cond.selects RX5 yX5_guessedWay yX5_guessedWay, Cond.code yX5_guessedWay cX5_guessedWay 3 (some .int), Cond.methodLink RX5 52 yX5_takesOut, Cond.instanceMethod yX5_takesOut, Cond.selects RX5 yX5_takesOut yX5_takesOut, Cond.code yX5_takesOut cX5_takesOut 6 none, Cond.methodLink RX5 75 yX5_doesPlans, Cond.instanceMethod yX5_doesPlans, Cond.selects RX5 yX5_doesPlans yX5_doesPlans, Cond.code yX5_doesPlans cX5_doesPlans 2 none, Cond.methodLink RX5 63 yX5_marks, Cond.instanceMethod yX5_marks, Cond.selects RX5 yX5_marks yX5_marks, Cond.code yX5_marks cX5_marks 2 none, Cond.methodLink RX5 60 yX5_under, Cond.instanceMethod yX5_under, Cond.selects RX5 yX5_under yX5_under, Cond.code yX5_under cX5_under 3 (some .int), Cond.methodLink RX5 56 yX5_back, Cond.instanceMethod yX5_back]
def wsX5_passes_r3 : List Cond := [Cond.selects RX5 yX5_back yX5_back, Cond.code yX5_back cX5_back 2 (some .int), Cond.methodLink RX5 78 yX5_judges, Cond.instanceMethod yX5_judges, Cond.selects RX5 yX5_judges yX5_judges, Cond.code yX5_judges cX5_judges 4 none, Cond.methodLink RX5 36 yX5_in, Cond.static yX5_in, Cond.code yX5_in cX5_in 6 (some .boolean)]
def wsX5_passes : List Cond := .code yX5_passes cX5_passes 4 (some .int) :: ((wsX5_passes_r1 ++ (wsX5_passes_r2 ++ wsX5_passes_r3)) ++ wsX50)
def wsX5_isSetting : List Cond := .code yX5_isSetting cX5_isSetting 2 (some .boolean) :: ([.constantLong RX5 85 (9), .constantLong RX5 87 (5), .constantLong RX5 89 (20), .constantLong RX5 91 (60), .methodLink RX5 36 yX5_in, .static yX5_in, .initialized RX5, .code yX5_in cX5_in 6 (some .boolean)])
def wsX5_doSet : List Cond := .code yX5_doSet cX5_doSet 4 (some .int) :: ([.fieldLink RX5 7 "BeltMarksModel" "all" "[I", .methodLink RX5 93 yX5_isSetting, .static yX5_isSetting, .initialized RX5, .code yX5_isSetting cX5_isSetting 2 (some .boolean), .constantLong RX5 85 (9), .constantLong RX5 87 (5), .constantLong RX5 89 (20), .constantLong RX5 91 (60), .methodLink RX5 36 yX5_in, .static yX5_in, .code yX5_in cX5_in 6 (some .boolean)] ++ wsX50)
def wsX5_doArrive : List Cond := .code yX5_doArrive cX5_doArrive 3 (some .int) :: ([.fieldLink RX5 7 "BeltMarksModel" "all" "[I", .methodLink RX5 97 yX5_isLength, .static yX5_isLength, .initialized RX5, .code yX5_isLength cX5_isLength 1 (some .boolean), .constantLong RX5 40 (4), .constantLong RX5 42 (30), .methodLink RX5 36 yX5_in, .static yX5_in, .code yX5_in cX5_in 6 (some .boolean), .methodLink RX5 56 yX5_back, .instanceMethod yX5_back, .selects RX5 yX5_back yX5_back, .code yX5_back cX5_back 2 (some .int), .methodLink RX5 32 yX5_get, .instanceMethod yX5_get, .selects RX5 yX5_get yX5_get, .code yX5_get cX5_get 3 (some .int), .methodLink RX5 44 yX5_put, .instanceMethod yX5_put, .selects RX5 yX5_put yX5_put, .code yX5_put cX5_put 4 none] ++ wsX50)
def wsX5_doTurn_r1 : List Cond := [Cond.fieldLink RX5 7 "BeltMarksModel" "all" "[I", Cond.methodLink RX5 101 yX5_isBox, Cond.instanceMethod yX5_isBox, Cond.selects RX5 yX5_isBox yX5_isBox, Cond.initialized RX5, Cond.code yX5_isBox cX5_isBox 2 (some .boolean), Cond.methodLink RX5 36 yX5_in, Cond.static yX5_in, Cond.code yX5_in cX5_in 6 (some .boolean), Cond.methodLink RX5 97 yX5_isLength, Cond.static yX5_isLength, Cond.code yX5_isLength cX5_isLength 1 (some .boolean), Cond.constantLong RX5 40 (4), Cond.constantLong RX5 42 (30), Cond.methodLink RX5 32 yX5_get, Cond.instanceMethod yX5_get, Cond.selects RX5 yX5_get yX5_get, Cond.code yX5_get cX5_get 3 (some .int), Cond.methodLink RX5 56 yX5_back, Cond.instanceMethod yX5_back, Cond.selects RX5 yX5_back yX5_back, Cond.code yX5_back cX5_back 2 (some .int), Cond.methodLink RX5 44 yX5_put, Cond.instanceMethod yX5_put]
def wsX5_doTurn_r2 : List Cond := [Cond.selects RX5 yX5_put yX5_put, Cond.code yX5_put cX5_put 4 none]
def wsX5_doTurn : List Cond := .code yX5_doTurn cX5_doTurn 7 (some .int) :: ((wsX5_doTurn_r1 ++ wsX5_doTurn_r2) ++ wsX50)
def wsX5_areTicks : List Cond := .code yX5_areTicks cX5_areTicks 1 (some .boolean) :: ([.constantLong RX5 104 (99), .methodLink RX5 36 yX5_in, .static yX5_in, .initialized RX5, .code yX5_in cX5_in 6 (some .boolean)])
def wsX5_doPass_r1 : List Cond := [Cond.fieldLink RX5 7 "BeltMarksModel" "all" "[I", Cond.methodLink RX5 106 yX5_areTicks, Cond.static yX5_areTicks, Cond.initialized RX5, Cond.code yX5_areTicks cX5_areTicks 1 (some .boolean), Cond.constantLong RX5 104 (99), Cond.methodLink RX5 36 yX5_in, Cond.static yX5_in, Cond.code yX5_in cX5_in 6 (some .boolean), Cond.methodLink RX5 109 yX5_passes, Cond.instanceMethod yX5_passes, Cond.selects RX5 yX5_passes yX5_passes, Cond.code yX5_passes cX5_passes 4 (some .int), Cond.methodLink RX5 82 yX5_ticksOn, Cond.instanceMethod yX5_ticksOn, Cond.selects RX5 yX5_ticksOn yX5_ticksOn, Cond.code yX5_ticksOn cX5_ticksOn 4 (some .int), Cond.methodLink RX5 66 yX5_moves, Cond.instanceMethod yX5_moves, Cond.selects RX5 yX5_moves yX5_moves, Cond.code yX5_moves cX5_moves 2 none, Cond.methodLink RX5 32 yX5_get, Cond.instanceMethod yX5_get, Cond.selects RX5 yX5_get yX5_get]
def wsX5_doPass_r2 : List Cond := [Cond.code yX5_get cX5_get 3 (some .int), Cond.methodLink RX5 44 yX5_put, Cond.instanceMethod yX5_put, Cond.selects RX5 yX5_put yX5_put, Cond.code yX5_put cX5_put 4 none, Cond.methodLink RX5 69 yX5_sees, Cond.instanceMethod yX5_sees, Cond.selects RX5 yX5_sees yX5_sees, Cond.code yX5_sees cX5_sees 2 none, Cond.methodLink RX5 72 yX5_plans, Cond.instanceMethod yX5_plans, Cond.selects RX5 yX5_plans yX5_plans, Cond.code yX5_plans cX5_plans 2 none, Cond.methodLink RX5 48 yX5_guessedWay, Cond.instanceMethod yX5_guessedWay, Cond.selects RX5 yX5_guessedWay yX5_guessedWay, Cond.code yX5_guessedWay cX5_guessedWay 3 (some .int), Cond.methodLink RX5 52 yX5_takesOut, Cond.instanceMethod yX5_takesOut, Cond.selects RX5 yX5_takesOut yX5_takesOut, Cond.code yX5_takesOut cX5_takesOut 6 none, Cond.methodLink RX5 75 yX5_doesPlans, Cond.instanceMethod yX5_doesPlans, Cond.selects RX5 yX5_doesPlans yX5_doesPlans]
def wsX5_doPass_r3 : List Cond := [Cond.code yX5_doesPlans cX5_doesPlans 2 none, Cond.methodLink RX5 63 yX5_marks, Cond.instanceMethod yX5_marks, Cond.selects RX5 yX5_marks yX5_marks, Cond.code yX5_marks cX5_marks 2 none, Cond.methodLink RX5 60 yX5_under, Cond.instanceMethod yX5_under, Cond.selects RX5 yX5_under yX5_under, Cond.code yX5_under cX5_under 3 (some .int), Cond.methodLink RX5 56 yX5_back, Cond.instanceMethod yX5_back, Cond.selects RX5 yX5_back yX5_back, Cond.code yX5_back cX5_back 2 (some .int), Cond.methodLink RX5 78 yX5_judges, Cond.instanceMethod yX5_judges, Cond.selects RX5 yX5_judges yX5_judges, Cond.code yX5_judges cX5_judges 4 none]
def wsX5_doPass : List Cond := .code yX5_doPass cX5_doPass 2 (some .int) :: ((wsX5_doPass_r1 ++ (wsX5_doPass_r2 ++ wsX5_doPass_r3)) ++ wsX50)
def wsX5_set_r1 : List Cond := [Cond.methodLink RX5 112 yX5_keep, Cond.instanceMethod yX5_keep, Cond.selects RX5 yX5_keep yX5_keep, Cond.initialized RX5, Cond.code yX5_keep cX5_keep 2 none, Cond.fieldLink RX5 13 "BeltMarksModel" "kept" "[I", Cond.fieldLink RX5 7 "BeltMarksModel" "all" "[I", Cond.methodLink RX5 115 yX5_doSet, Cond.instanceMethod yX5_doSet, Cond.selects RX5 yX5_doSet yX5_doSet, Cond.code yX5_doSet cX5_doSet 4 (some .int), Cond.methodLink RX5 93 yX5_isSetting, Cond.static yX5_isSetting, Cond.code yX5_isSetting cX5_isSetting 2 (some .boolean), Cond.constantLong RX5 85 (9), Cond.constantLong RX5 87 (5), Cond.constantLong RX5 89 (20), Cond.constantLong RX5 91 (60), Cond.methodLink RX5 36 yX5_in, Cond.static yX5_in, Cond.code yX5_in cX5_in 6 (some .boolean), Cond.methodLink RX5 118 yX5_changed, Cond.instanceMethod yX5_changed, Cond.selects RX5 yX5_changed yX5_changed]
def wsX5_set_r2 : List Cond := [Cond.code yX5_changed cX5_changed 3 (some .int), Cond.fieldLink RX5 28 "BeltMarksModel" "historyLong" "I", Cond.fieldLink RX5 16 "BeltMarksModel" "history" "[I"]
def wsX5_set : List Cond := .code yX5_set cX5_set 3 (some .int) :: ((wsX5_set_r1 ++ wsX5_set_r2) ++ wsX50)
def wsX5_arrive_r1 : List Cond := [Cond.methodLink RX5 112 yX5_keep, Cond.instanceMethod yX5_keep, Cond.selects RX5 yX5_keep yX5_keep, Cond.initialized RX5, Cond.code yX5_keep cX5_keep 2 none, Cond.fieldLink RX5 13 "BeltMarksModel" "kept" "[I", Cond.fieldLink RX5 7 "BeltMarksModel" "all" "[I", Cond.methodLink RX5 121 yX5_doArrive, Cond.instanceMethod yX5_doArrive, Cond.selects RX5 yX5_doArrive yX5_doArrive, Cond.code yX5_doArrive cX5_doArrive 3 (some .int), Cond.methodLink RX5 97 yX5_isLength, Cond.static yX5_isLength, Cond.code yX5_isLength cX5_isLength 1 (some .boolean), Cond.constantLong RX5 40 (4), Cond.constantLong RX5 42 (30), Cond.methodLink RX5 36 yX5_in, Cond.static yX5_in, Cond.code yX5_in cX5_in 6 (some .boolean), Cond.methodLink RX5 56 yX5_back, Cond.instanceMethod yX5_back, Cond.selects RX5 yX5_back yX5_back, Cond.code yX5_back cX5_back 2 (some .int), Cond.methodLink RX5 32 yX5_get]
def wsX5_arrive_r2 : List Cond := [Cond.instanceMethod yX5_get, Cond.selects RX5 yX5_get yX5_get, Cond.code yX5_get cX5_get 3 (some .int), Cond.methodLink RX5 44 yX5_put, Cond.instanceMethod yX5_put, Cond.selects RX5 yX5_put yX5_put, Cond.code yX5_put cX5_put 4 none, Cond.methodLink RX5 118 yX5_changed, Cond.instanceMethod yX5_changed, Cond.selects RX5 yX5_changed yX5_changed, Cond.code yX5_changed cX5_changed 3 (some .int), Cond.fieldLink RX5 28 "BeltMarksModel" "historyLong" "I", Cond.fieldLink RX5 16 "BeltMarksModel" "history" "[I"]
def wsX5_arrive : List Cond := .code yX5_arrive cX5_arrive 2 (some .int) :: ((wsX5_arrive_r1 ++ wsX5_arrive_r2) ++ wsX50)
def wsX5_turn_r1 : List Cond := [Cond.methodLink RX5 112 yX5_keep, Cond.instanceMethod yX5_keep, Cond.selects RX5 yX5_keep yX5_keep, Cond.initialized RX5, Cond.code yX5_keep cX5_keep 2 none, Cond.fieldLink RX5 13 "BeltMarksModel" "kept" "[I", Cond.fieldLink RX5 7 "BeltMarksModel" "all" "[I", Cond.methodLink RX5 124 yX5_doTurn, Cond.instanceMethod yX5_doTurn, Cond.selects RX5 yX5_doTurn yX5_doTurn, Cond.code yX5_doTurn cX5_doTurn 7 (some .int), Cond.methodLink RX5 101 yX5_isBox, Cond.instanceMethod yX5_isBox, Cond.selects RX5 yX5_isBox yX5_isBox, Cond.code yX5_isBox cX5_isBox 2 (some .boolean), Cond.methodLink RX5 36 yX5_in, Cond.static yX5_in, Cond.code yX5_in cX5_in 6 (some .boolean), Cond.methodLink RX5 97 yX5_isLength, Cond.static yX5_isLength, Cond.code yX5_isLength cX5_isLength 1 (some .boolean), Cond.constantLong RX5 40 (4), Cond.constantLong RX5 42 (30), Cond.methodLink RX5 32 yX5_get]
def wsX5_turn_r2 : List Cond := [Cond.instanceMethod yX5_get, Cond.selects RX5 yX5_get yX5_get, Cond.code yX5_get cX5_get 3 (some .int), Cond.methodLink RX5 56 yX5_back, Cond.instanceMethod yX5_back, Cond.selects RX5 yX5_back yX5_back, Cond.code yX5_back cX5_back 2 (some .int), Cond.methodLink RX5 44 yX5_put, Cond.instanceMethod yX5_put, Cond.selects RX5 yX5_put yX5_put, Cond.code yX5_put cX5_put 4 none, Cond.methodLink RX5 118 yX5_changed, Cond.instanceMethod yX5_changed, Cond.selects RX5 yX5_changed yX5_changed, Cond.code yX5_changed cX5_changed 3 (some .int), Cond.fieldLink RX5 28 "BeltMarksModel" "historyLong" "I", Cond.fieldLink RX5 16 "BeltMarksModel" "history" "[I"]
def wsX5_turn : List Cond := .code yX5_turn cX5_turn 3 (some .int) :: ((wsX5_turn_r1 ++ wsX5_turn_r2) ++ wsX50)
def wsX5_pass_r1 : List Cond := [Cond.methodLink RX5 112 yX5_keep, Cond.instanceMethod yX5_keep, Cond.selects RX5 yX5_keep yX5_keep, Cond.initialized RX5, Cond.code yX5_keep cX5_keep 2 none, Cond.fieldLink RX5 13 "BeltMarksModel" "kept" "[I", Cond.fieldLink RX5 7 "BeltMarksModel" "all" "[I", Cond.methodLink RX5 127 yX5_doPass, Cond.instanceMethod yX5_doPass, Cond.selects RX5 yX5_doPass yX5_doPass, Cond.code yX5_doPass cX5_doPass 2 (some .int), Cond.methodLink RX5 106 yX5_areTicks, Cond.static yX5_areTicks, Cond.code yX5_areTicks cX5_areTicks 1 (some .boolean), Cond.constantLong RX5 104 (99), Cond.methodLink RX5 36 yX5_in, Cond.static yX5_in, Cond.code yX5_in cX5_in 6 (some .boolean), Cond.methodLink RX5 109 yX5_passes, Cond.instanceMethod yX5_passes, Cond.selects RX5 yX5_passes yX5_passes, Cond.code yX5_passes cX5_passes 4 (some .int), Cond.methodLink RX5 82 yX5_ticksOn, Cond.instanceMethod yX5_ticksOn]
def wsX5_pass_r2 : List Cond := [Cond.selects RX5 yX5_ticksOn yX5_ticksOn, Cond.code yX5_ticksOn cX5_ticksOn 4 (some .int), Cond.methodLink RX5 66 yX5_moves, Cond.instanceMethod yX5_moves, Cond.selects RX5 yX5_moves yX5_moves, Cond.code yX5_moves cX5_moves 2 none, Cond.methodLink RX5 32 yX5_get, Cond.instanceMethod yX5_get, Cond.selects RX5 yX5_get yX5_get, Cond.code yX5_get cX5_get 3 (some .int), Cond.methodLink RX5 44 yX5_put, Cond.instanceMethod yX5_put, Cond.selects RX5 yX5_put yX5_put, Cond.code yX5_put cX5_put 4 none, Cond.methodLink RX5 69 yX5_sees, Cond.instanceMethod yX5_sees, Cond.selects RX5 yX5_sees yX5_sees, Cond.code yX5_sees cX5_sees 2 none, Cond.methodLink RX5 72 yX5_plans, Cond.instanceMethod yX5_plans, Cond.selects RX5 yX5_plans yX5_plans, Cond.code yX5_plans cX5_plans 2 none, Cond.methodLink RX5 48 yX5_guessedWay, Cond.instanceMethod yX5_guessedWay]
def wsX5_pass_r3 : List Cond := [Cond.selects RX5 yX5_guessedWay yX5_guessedWay, Cond.code yX5_guessedWay cX5_guessedWay 3 (some .int), Cond.methodLink RX5 52 yX5_takesOut, Cond.instanceMethod yX5_takesOut, Cond.selects RX5 yX5_takesOut yX5_takesOut, Cond.code yX5_takesOut cX5_takesOut 6 none, Cond.methodLink RX5 75 yX5_doesPlans, Cond.instanceMethod yX5_doesPlans, Cond.selects RX5 yX5_doesPlans yX5_doesPlans, Cond.code yX5_doesPlans cX5_doesPlans 2 none, Cond.methodLink RX5 63 yX5_marks, Cond.instanceMethod yX5_marks, Cond.selects RX5 yX5_marks yX5_marks, Cond.code yX5_marks cX5_marks 2 none, Cond.methodLink RX5 60 yX5_under, Cond.instanceMethod yX5_under, Cond.selects RX5 yX5_under yX5_under, Cond.code yX5_under cX5_under 3 (some .int), Cond.methodLink RX5 56 yX5_back, Cond.instanceMethod yX5_back, Cond.selects RX5 yX5_back yX5_back, Cond.code yX5_back cX5_back 2 (some .int), Cond.methodLink RX5 78 yX5_judges, Cond.instanceMethod yX5_judges]
def wsX5_pass_r4 : List Cond := [Cond.selects RX5 yX5_judges yX5_judges, Cond.code yX5_judges cX5_judges 4 none, Cond.methodLink RX5 118 yX5_changed, Cond.instanceMethod yX5_changed, Cond.selects RX5 yX5_changed yX5_changed, Cond.code yX5_changed cX5_changed 3 (some .int), Cond.fieldLink RX5 28 "BeltMarksModel" "historyLong" "I", Cond.fieldLink RX5 16 "BeltMarksModel" "history" "[I"]
def wsX5_pass : List Cond := .code yX5_pass cX5_pass 2 (some .int) :: ((wsX5_pass_r1 ++ (wsX5_pass_r2 ++ (wsX5_pass_r3 ++ wsX5_pass_r4))) ++ wsX50)
def wsX5_box : List Cond := .code yX5_box cX5_box 3 (some .int) :: ([.constantLong RX5 87 (5), .methodLink RX5 101 yX5_isBox, .instanceMethod yX5_isBox, .selects RX5 yX5_isBox yX5_isBox, .initialized RX5, .code yX5_isBox cX5_isBox 2 (some .boolean), .fieldLink RX5 7 "BeltMarksModel" "all" "[I", .methodLink RX5 36 yX5_in, .static yX5_in, .code yX5_in cX5_in 6 (some .boolean), .methodLink RX5 32 yX5_get, .instanceMethod yX5_get, .selects RX5 yX5_get yX5_get, .code yX5_get cX5_get 3 (some .int)] ++ wsX50)
def wsX5_plan : List Cond := .code yX5_plan cX5_plan 2 (some .int) :: ([.fieldLink RX5 7 "BeltMarksModel" "all" "[I", .methodLink RX5 36 yX5_in, .static yX5_in, .initialized RX5, .code yX5_in cX5_in 6 (some .boolean)] ++ wsX50)
def wsX5_report : List Cond := .code yX5_report cX5_report 3 (some .int) :: ([.fieldLink RX5 7 "BeltMarksModel" "all" "[I", .methodLink RX5 36 yX5_in, .static yX5_in, .initialized RX5, .code yX5_in cX5_in 6 (some .boolean)] ++ wsX50)
def wsX5_count : List Cond := .code yX5_count cX5_count 2 (some .int) :: ([.constantLong RX5 130 (13), .fieldLink RX5 7 "BeltMarksModel" "all" "[I", .constantLong RX5 132 (14), .constantLong RX5 134 (21), .fieldLink RX5 136 "BeltMarksModel" "padLong" "I", .fieldLink RX5 28 "BeltMarksModel" "historyLong" "I", .methodLink RX5 36 yX5_in, .static yX5_in, .initialized RX5, .code yX5_in cX5_in 6 (some .boolean)] ++ wsX50)
def wsX5_brings_r1 : List Cond := [Cond.fieldLink RX5 7 "BeltMarksModel" "all" "[I", Cond.methodLink RX5 112 yX5_keep, Cond.instanceMethod yX5_keep, Cond.selects RX5 yX5_keep yX5_keep, Cond.initialized RX5, Cond.code yX5_keep cX5_keep 2 none, Cond.fieldLink RX5 13 "BeltMarksModel" "kept" "[I", Cond.methodLink RX5 109 yX5_passes, Cond.instanceMethod yX5_passes, Cond.selects RX5 yX5_passes yX5_passes, Cond.code yX5_passes cX5_passes 4 (some .int), Cond.methodLink RX5 82 yX5_ticksOn, Cond.instanceMethod yX5_ticksOn, Cond.selects RX5 yX5_ticksOn yX5_ticksOn, Cond.code yX5_ticksOn cX5_ticksOn 4 (some .int), Cond.methodLink RX5 66 yX5_moves, Cond.instanceMethod yX5_moves, Cond.selects RX5 yX5_moves yX5_moves, Cond.code yX5_moves cX5_moves 2 none, Cond.methodLink RX5 32 yX5_get, Cond.instanceMethod yX5_get, Cond.selects RX5 yX5_get yX5_get, Cond.code yX5_get cX5_get 3 (some .int), Cond.methodLink RX5 44 yX5_put]
def wsX5_brings_r2 : List Cond := [Cond.instanceMethod yX5_put, Cond.selects RX5 yX5_put yX5_put, Cond.code yX5_put cX5_put 4 none, Cond.methodLink RX5 69 yX5_sees, Cond.instanceMethod yX5_sees, Cond.selects RX5 yX5_sees yX5_sees, Cond.code yX5_sees cX5_sees 2 none, Cond.methodLink RX5 72 yX5_plans, Cond.instanceMethod yX5_plans, Cond.selects RX5 yX5_plans yX5_plans, Cond.code yX5_plans cX5_plans 2 none, Cond.methodLink RX5 48 yX5_guessedWay, Cond.instanceMethod yX5_guessedWay, Cond.selects RX5 yX5_guessedWay yX5_guessedWay, Cond.code yX5_guessedWay cX5_guessedWay 3 (some .int), Cond.methodLink RX5 52 yX5_takesOut, Cond.instanceMethod yX5_takesOut, Cond.selects RX5 yX5_takesOut yX5_takesOut, Cond.code yX5_takesOut cX5_takesOut 6 none, Cond.methodLink RX5 75 yX5_doesPlans, Cond.instanceMethod yX5_doesPlans, Cond.selects RX5 yX5_doesPlans yX5_doesPlans, Cond.code yX5_doesPlans cX5_doesPlans 2 none, Cond.methodLink RX5 63 yX5_marks]
def wsX5_brings_r3 : List Cond := [Cond.instanceMethod yX5_marks, Cond.selects RX5 yX5_marks yX5_marks, Cond.code yX5_marks cX5_marks 2 none, Cond.methodLink RX5 60 yX5_under, Cond.instanceMethod yX5_under, Cond.selects RX5 yX5_under yX5_under, Cond.code yX5_under cX5_under 3 (some .int), Cond.methodLink RX5 56 yX5_back, Cond.instanceMethod yX5_back, Cond.selects RX5 yX5_back yX5_back, Cond.code yX5_back cX5_back 2 (some .int), Cond.methodLink RX5 78 yX5_judges, Cond.instanceMethod yX5_judges, Cond.selects RX5 yX5_judges yX5_judges, Cond.code yX5_judges cX5_judges 4 none, Cond.methodLink RX5 36 yX5_in, Cond.static yX5_in, Cond.code yX5_in cX5_in 6 (some .boolean), Cond.methodLink RX5 139 yX5_giveBack, Cond.instanceMethod yX5_giveBack, Cond.selects RX5 yX5_giveBack yX5_giveBack, Cond.code yX5_giveBack cX5_giveBack 2 none]
def wsX5_brings : List Cond := .code yX5_brings cX5_brings 6 (some .int) :: ((wsX5_brings_r1 ++ (wsX5_brings_r2 ++ wsX5_brings_r3)) ++ wsX50)
def wsX5_ifPass_r1 : List Cond := [Cond.constantLong RX5 142 (6), Cond.fieldLink RX5 7 "BeltMarksModel" "all" "[I", Cond.methodLink RX5 106 yX5_areTicks, Cond.static yX5_areTicks, Cond.initialized RX5, Cond.code yX5_areTicks cX5_areTicks 1 (some .boolean), Cond.constantLong RX5 104 (99), Cond.methodLink RX5 36 yX5_in, Cond.static yX5_in, Cond.code yX5_in cX5_in 6 (some .boolean), Cond.methodLink RX5 144 yX5_brings, Cond.instanceMethod yX5_brings, Cond.selects RX5 yX5_brings yX5_brings, Cond.code yX5_brings cX5_brings 6 (some .int), Cond.methodLink RX5 112 yX5_keep, Cond.instanceMethod yX5_keep, Cond.selects RX5 yX5_keep yX5_keep, Cond.code yX5_keep cX5_keep 2 none, Cond.fieldLink RX5 13 "BeltMarksModel" "kept" "[I", Cond.methodLink RX5 109 yX5_passes, Cond.instanceMethod yX5_passes, Cond.selects RX5 yX5_passes yX5_passes, Cond.code yX5_passes cX5_passes 4 (some .int), Cond.methodLink RX5 82 yX5_ticksOn]
def wsX5_ifPass_r2 : List Cond := [Cond.instanceMethod yX5_ticksOn, Cond.selects RX5 yX5_ticksOn yX5_ticksOn, Cond.code yX5_ticksOn cX5_ticksOn 4 (some .int), Cond.methodLink RX5 66 yX5_moves, Cond.instanceMethod yX5_moves, Cond.selects RX5 yX5_moves yX5_moves, Cond.code yX5_moves cX5_moves 2 none, Cond.methodLink RX5 32 yX5_get, Cond.instanceMethod yX5_get, Cond.selects RX5 yX5_get yX5_get, Cond.code yX5_get cX5_get 3 (some .int), Cond.methodLink RX5 44 yX5_put, Cond.instanceMethod yX5_put, Cond.selects RX5 yX5_put yX5_put, Cond.code yX5_put cX5_put 4 none, Cond.methodLink RX5 69 yX5_sees, Cond.instanceMethod yX5_sees, Cond.selects RX5 yX5_sees yX5_sees, Cond.code yX5_sees cX5_sees 2 none, Cond.methodLink RX5 72 yX5_plans, Cond.instanceMethod yX5_plans, Cond.selects RX5 yX5_plans yX5_plans, Cond.code yX5_plans cX5_plans 2 none, Cond.methodLink RX5 48 yX5_guessedWay]
def wsX5_ifPass_r3 : List Cond := [Cond.instanceMethod yX5_guessedWay, Cond.selects RX5 yX5_guessedWay yX5_guessedWay, Cond.code yX5_guessedWay cX5_guessedWay 3 (some .int), Cond.methodLink RX5 52 yX5_takesOut, Cond.instanceMethod yX5_takesOut, Cond.selects RX5 yX5_takesOut yX5_takesOut, Cond.code yX5_takesOut cX5_takesOut 6 none, Cond.methodLink RX5 75 yX5_doesPlans, Cond.instanceMethod yX5_doesPlans, Cond.selects RX5 yX5_doesPlans yX5_doesPlans, Cond.code yX5_doesPlans cX5_doesPlans 2 none, Cond.methodLink RX5 63 yX5_marks, Cond.instanceMethod yX5_marks, Cond.selects RX5 yX5_marks yX5_marks, Cond.code yX5_marks cX5_marks 2 none, Cond.methodLink RX5 60 yX5_under, Cond.instanceMethod yX5_under, Cond.selects RX5 yX5_under yX5_under, Cond.code yX5_under cX5_under 3 (some .int), Cond.methodLink RX5 56 yX5_back, Cond.instanceMethod yX5_back, Cond.selects RX5 yX5_back yX5_back, Cond.code yX5_back cX5_back 2 (some .int), Cond.methodLink RX5 78 yX5_judges]
def wsX5_ifPass_r4 : List Cond := [Cond.instanceMethod yX5_judges, Cond.selects RX5 yX5_judges yX5_judges, Cond.code yX5_judges cX5_judges 4 none, Cond.methodLink RX5 139 yX5_giveBack, Cond.instanceMethod yX5_giveBack, Cond.selects RX5 yX5_giveBack yX5_giveBack, Cond.code yX5_giveBack cX5_giveBack 2 none]
def wsX5_ifPass : List Cond := .code yX5_ifPass cX5_ifPass 3 (some .int) :: ((wsX5_ifPass_r1 ++ (wsX5_ifPass_r2 ++ (wsX5_ifPass_r3 ++ wsX5_ifPass_r4))) ++ wsX50)
def wsX5_bestGuess_r1 : List Cond := [Cond.fieldLink RX5 7 "BeltMarksModel" "all" "[I", Cond.methodLink RX5 106 yX5_areTicks, Cond.static yX5_areTicks, Cond.initialized RX5, Cond.code yX5_areTicks cX5_areTicks 1 (some .boolean), Cond.constantLong RX5 104 (99), Cond.methodLink RX5 36 yX5_in, Cond.static yX5_in, Cond.code yX5_in cX5_in 6 (some .boolean), Cond.methodLink RX5 144 yX5_brings, Cond.instanceMethod yX5_brings, Cond.selects RX5 yX5_brings yX5_brings, Cond.code yX5_brings cX5_brings 6 (some .int), Cond.methodLink RX5 112 yX5_keep, Cond.instanceMethod yX5_keep, Cond.selects RX5 yX5_keep yX5_keep, Cond.code yX5_keep cX5_keep 2 none, Cond.fieldLink RX5 13 "BeltMarksModel" "kept" "[I", Cond.methodLink RX5 109 yX5_passes, Cond.instanceMethod yX5_passes, Cond.selects RX5 yX5_passes yX5_passes, Cond.code yX5_passes cX5_passes 4 (some .int), Cond.methodLink RX5 82 yX5_ticksOn, Cond.instanceMethod yX5_ticksOn]
def wsX5_bestGuess_r2 : List Cond := [Cond.selects RX5 yX5_ticksOn yX5_ticksOn, Cond.code yX5_ticksOn cX5_ticksOn 4 (some .int), Cond.methodLink RX5 66 yX5_moves, Cond.instanceMethod yX5_moves, Cond.selects RX5 yX5_moves yX5_moves, Cond.code yX5_moves cX5_moves 2 none, Cond.methodLink RX5 32 yX5_get, Cond.instanceMethod yX5_get, Cond.selects RX5 yX5_get yX5_get, Cond.code yX5_get cX5_get 3 (some .int), Cond.methodLink RX5 44 yX5_put, Cond.instanceMethod yX5_put, Cond.selects RX5 yX5_put yX5_put, Cond.code yX5_put cX5_put 4 none, Cond.methodLink RX5 69 yX5_sees, Cond.instanceMethod yX5_sees, Cond.selects RX5 yX5_sees yX5_sees, Cond.code yX5_sees cX5_sees 2 none, Cond.methodLink RX5 72 yX5_plans, Cond.instanceMethod yX5_plans, Cond.selects RX5 yX5_plans yX5_plans, Cond.code yX5_plans cX5_plans 2 none, Cond.methodLink RX5 48 yX5_guessedWay, Cond.instanceMethod yX5_guessedWay]
def wsX5_bestGuess_r3 : List Cond := [Cond.selects RX5 yX5_guessedWay yX5_guessedWay, Cond.code yX5_guessedWay cX5_guessedWay 3 (some .int), Cond.methodLink RX5 52 yX5_takesOut, Cond.instanceMethod yX5_takesOut, Cond.selects RX5 yX5_takesOut yX5_takesOut, Cond.code yX5_takesOut cX5_takesOut 6 none, Cond.methodLink RX5 75 yX5_doesPlans, Cond.instanceMethod yX5_doesPlans, Cond.selects RX5 yX5_doesPlans yX5_doesPlans, Cond.code yX5_doesPlans cX5_doesPlans 2 none, Cond.methodLink RX5 63 yX5_marks, Cond.instanceMethod yX5_marks, Cond.selects RX5 yX5_marks yX5_marks, Cond.code yX5_marks cX5_marks 2 none, Cond.methodLink RX5 60 yX5_under, Cond.instanceMethod yX5_under, Cond.selects RX5 yX5_under yX5_under, Cond.code yX5_under cX5_under 3 (some .int), Cond.methodLink RX5 56 yX5_back, Cond.instanceMethod yX5_back, Cond.selects RX5 yX5_back yX5_back, Cond.code yX5_back cX5_back 2 (some .int), Cond.methodLink RX5 78 yX5_judges, Cond.instanceMethod yX5_judges]
def wsX5_bestGuess_r4 : List Cond := [Cond.selects RX5 yX5_judges yX5_judges, Cond.code yX5_judges cX5_judges 4 none, Cond.methodLink RX5 139 yX5_giveBack, Cond.instanceMethod yX5_giveBack, Cond.selects RX5 yX5_giveBack yX5_giveBack, Cond.code yX5_giveBack cX5_giveBack 2 none]
def wsX5_bestGuess : List Cond := .code yX5_bestGuess cX5_bestGuess 8 (some .int) :: ((wsX5_bestGuess_r1 ++ (wsX5_bestGuess_r2 ++ (wsX5_bestGuess_r3 ++ wsX5_bestGuess_r4))) ++ wsX50)
def wsX5_neededSlack_r1 : List Cond := [Cond.fieldLink RX5 7 "BeltMarksModel" "all" "[I", Cond.methodLink RX5 106 yX5_areTicks, Cond.static yX5_areTicks, Cond.initialized RX5, Cond.code yX5_areTicks cX5_areTicks 1 (some .boolean), Cond.constantLong RX5 104 (99), Cond.methodLink RX5 36 yX5_in, Cond.static yX5_in, Cond.code yX5_in cX5_in 6 (some .boolean), Cond.methodLink RX5 144 yX5_brings, Cond.instanceMethod yX5_brings, Cond.selects RX5 yX5_brings yX5_brings, Cond.code yX5_brings cX5_brings 6 (some .int), Cond.methodLink RX5 112 yX5_keep, Cond.instanceMethod yX5_keep, Cond.selects RX5 yX5_keep yX5_keep, Cond.code yX5_keep cX5_keep 2 none, Cond.fieldLink RX5 13 "BeltMarksModel" "kept" "[I", Cond.methodLink RX5 109 yX5_passes, Cond.instanceMethod yX5_passes, Cond.selects RX5 yX5_passes yX5_passes, Cond.code yX5_passes cX5_passes 4 (some .int), Cond.methodLink RX5 82 yX5_ticksOn, Cond.instanceMethod yX5_ticksOn]
def wsX5_neededSlack_r2 : List Cond := [Cond.selects RX5 yX5_ticksOn yX5_ticksOn, Cond.code yX5_ticksOn cX5_ticksOn 4 (some .int), Cond.methodLink RX5 66 yX5_moves, Cond.instanceMethod yX5_moves, Cond.selects RX5 yX5_moves yX5_moves, Cond.code yX5_moves cX5_moves 2 none, Cond.methodLink RX5 32 yX5_get, Cond.instanceMethod yX5_get, Cond.selects RX5 yX5_get yX5_get, Cond.code yX5_get cX5_get 3 (some .int), Cond.methodLink RX5 44 yX5_put, Cond.instanceMethod yX5_put, Cond.selects RX5 yX5_put yX5_put, Cond.code yX5_put cX5_put 4 none, Cond.methodLink RX5 69 yX5_sees, Cond.instanceMethod yX5_sees, Cond.selects RX5 yX5_sees yX5_sees, Cond.code yX5_sees cX5_sees 2 none, Cond.methodLink RX5 72 yX5_plans, Cond.instanceMethod yX5_plans, Cond.selects RX5 yX5_plans yX5_plans, Cond.code yX5_plans cX5_plans 2 none, Cond.methodLink RX5 48 yX5_guessedWay, Cond.instanceMethod yX5_guessedWay]
def wsX5_neededSlack_r3 : List Cond := [Cond.selects RX5 yX5_guessedWay yX5_guessedWay, Cond.code yX5_guessedWay cX5_guessedWay 3 (some .int), Cond.methodLink RX5 52 yX5_takesOut, Cond.instanceMethod yX5_takesOut, Cond.selects RX5 yX5_takesOut yX5_takesOut, Cond.code yX5_takesOut cX5_takesOut 6 none, Cond.methodLink RX5 75 yX5_doesPlans, Cond.instanceMethod yX5_doesPlans, Cond.selects RX5 yX5_doesPlans yX5_doesPlans, Cond.code yX5_doesPlans cX5_doesPlans 2 none, Cond.methodLink RX5 63 yX5_marks, Cond.instanceMethod yX5_marks, Cond.selects RX5 yX5_marks yX5_marks, Cond.code yX5_marks cX5_marks 2 none, Cond.methodLink RX5 60 yX5_under, Cond.instanceMethod yX5_under, Cond.selects RX5 yX5_under yX5_under, Cond.code yX5_under cX5_under 3 (some .int), Cond.methodLink RX5 56 yX5_back, Cond.instanceMethod yX5_back, Cond.selects RX5 yX5_back yX5_back, Cond.code yX5_back cX5_back 2 (some .int), Cond.methodLink RX5 78 yX5_judges, Cond.instanceMethod yX5_judges]
def wsX5_neededSlack_r4 : List Cond := [Cond.selects RX5 yX5_judges yX5_judges, Cond.code yX5_judges cX5_judges 4 none, Cond.methodLink RX5 139 yX5_giveBack, Cond.instanceMethod yX5_giveBack, Cond.selects RX5 yX5_giveBack yX5_giveBack, Cond.code yX5_giveBack cX5_giveBack 2 none]
def wsX5_neededSlack : List Cond := .code yX5_neededSlack cX5_neededSlack 5 (some .int) :: ((wsX5_neededSlack_r1 ++ (wsX5_neededSlack_r2 ++ (wsX5_neededSlack_r3 ++ wsX5_neededSlack_r4))) ++ wsX50)
def wsX5_put_ : List Cond := .code yX5_put_ cX5_put_ 8 (some .int) :: ([.constantLong RX5 147 (255), .constantLong RX5 149 (33), .constantLong RX5 151 (126), .fieldLink RX5 136 "BeltMarksModel" "padLong" "I", .fieldLink RX5 25 "BeltMarksModel" "pad" "[I", .methodLink RX5 36 yX5_in, .static yX5_in, .initialized RX5, .code yX5_in cX5_in 6 (some .boolean)] ++ wsX50)
def wsX5_wipe : List Cond := .code yX5_wipe cX5_wipe 2 (some .int) :: ([.fieldLink RX5 136 "BeltMarksModel" "padLong" "I"] ++ wsX50)
def wsX5_isHere : List Cond := .code yX5_isHere cX5_isHere 3 (some .boolean) :: ([.fieldLink RX5 153 "BeltMarksModel" "spot" "I", .fieldLink RX5 136 "BeltMarksModel" "padLong" "I", .fieldLink RX5 25 "BeltMarksModel" "pad" "[I", .methodLink RX5 36 yX5_in, .static yX5_in, .initialized RX5, .code yX5_in cX5_in 6 (some .boolean)] ++ wsX50)
def wsX5_takes : List Cond := .code yX5_takes cX5_takes 3 (some .boolean) :: ([.fieldLink RX5 153 "BeltMarksModel" "spot" "I", .methodLink RX5 156 yX5_isHere, .instanceMethod yX5_isHere, .selects RX5 yX5_isHere yX5_isHere, .initialized RX5, .code yX5_isHere cX5_isHere 3 (some .boolean), .fieldLink RX5 136 "BeltMarksModel" "padLong" "I", .fieldLink RX5 25 "BeltMarksModel" "pad" "[I", .methodLink RX5 36 yX5_in, .static yX5_in, .code yX5_in cX5_in 6 (some .boolean)] ++ wsX50)
def wsX5_readsNumber : List Cond := .code yX5_readsNumber cX5_readsNumber 1 (some .boolean) :: ([.fieldLink RX5 25 "BeltMarksModel" "pad" "[I", .fieldLink RX5 153 "BeltMarksModel" "spot" "I", .fieldLink RX5 159 "BeltMarksModel" "number" "I", .methodLink RX5 156 yX5_isHere, .instanceMethod yX5_isHere, .selects RX5 yX5_isHere yX5_isHere, .initialized RX5, .code yX5_isHere cX5_isHere 3 (some .boolean), .fieldLink RX5 136 "BeltMarksModel" "padLong" "I", .methodLink RX5 36 yX5_in, .static yX5_in, .code yX5_in cX5_in 6 (some .boolean)] ++ wsX50)
def wsX5_readsOrder : List Cond := .code yX5_readsOrder cX5_readsOrder 1 (some .boolean) :: ([.fieldLink RX5 153 "BeltMarksModel" "spot" "I", .fieldLink RX5 136 "BeltMarksModel" "padLong" "I", .fieldLink RX5 25 "BeltMarksModel" "pad" "[I", .fieldLink RX5 162 "BeltMarksModel" "order" "I", .fieldLink RX5 165 "BeltMarksModel" "whichBox" "I", .methodLink RX5 156 yX5_isHere, .instanceMethod yX5_isHere, .selects RX5 yX5_isHere yX5_isHere, .initialized RX5, .code yX5_isHere cX5_isHere 3 (some .boolean), .methodLink RX5 36 yX5_in, .static yX5_in, .code yX5_in cX5_in 6 (some .boolean), .methodLink RX5 168 yX5_takes, .instanceMethod yX5_takes, .selects RX5 yX5_takes yX5_takes, .code yX5_takes cX5_takes 3 (some .boolean), .methodLink RX5 171 yX5_readsNumber, .instanceMethod yX5_readsNumber, .selects RX5 yX5_readsNumber yX5_readsNumber, .code yX5_readsNumber cX5_readsNumber 1 (some .boolean), .fieldLink RX5 159 "BeltMarksModel" "number" "I"] ++ wsX50)
def wsX5_fault_r1 : List Cond := [Cond.fieldLink RX5 153 "BeltMarksModel" "spot" "I", Cond.fieldLink RX5 136 "BeltMarksModel" "padLong" "I", Cond.methodLink RX5 175 yX5_readsOrder, Cond.instanceMethod yX5_readsOrder, Cond.selects RX5 yX5_readsOrder yX5_readsOrder, Cond.initialized RX5, Cond.code yX5_readsOrder cX5_readsOrder 1 (some .boolean), Cond.fieldLink RX5 25 "BeltMarksModel" "pad" "[I", Cond.fieldLink RX5 162 "BeltMarksModel" "order" "I", Cond.fieldLink RX5 165 "BeltMarksModel" "whichBox" "I", Cond.methodLink RX5 156 yX5_isHere, Cond.instanceMethod yX5_isHere, Cond.selects RX5 yX5_isHere yX5_isHere, Cond.code yX5_isHere cX5_isHere 3 (some .boolean), Cond.methodLink RX5 36 yX5_in, Cond.static yX5_in, Cond.code yX5_in cX5_in 6 (some .boolean), Cond.methodLink RX5 168 yX5_takes, Cond.instanceMethod yX5_takes, Cond.selects RX5 yX5_takes yX5_takes, Cond.code yX5_takes cX5_takes 3 (some .boolean), Cond.methodLink RX5 171 yX5_readsNumber, Cond.instanceMethod yX5_readsNumber, Cond.selects RX5 yX5_readsNumber yX5_readsNumber]
def wsX5_fault_r2 : List Cond := [Cond.code yX5_readsNumber cX5_readsNumber 1 (some .boolean), Cond.fieldLink RX5 159 "BeltMarksModel" "number" "I"]
def wsX5_fault : List Cond := .code yX5_fault cX5_fault 2 (some .int) :: ((wsX5_fault_r1 ++ wsX5_fault_r2) ++ wsX50)
def wsX5_doOrder_r1 : List Cond := [Cond.fieldLink RX5 162 "BeltMarksModel" "order" "I", Cond.fieldLink RX5 159 "BeltMarksModel" "number" "I", Cond.fieldLink RX5 165 "BeltMarksModel" "whichBox" "I", Cond.methodLink RX5 121 yX5_doArrive, Cond.instanceMethod yX5_doArrive, Cond.selects RX5 yX5_doArrive yX5_doArrive, Cond.initialized RX5, Cond.code yX5_doArrive cX5_doArrive 3 (some .int), Cond.fieldLink RX5 7 "BeltMarksModel" "all" "[I", Cond.methodLink RX5 97 yX5_isLength, Cond.static yX5_isLength, Cond.code yX5_isLength cX5_isLength 1 (some .boolean), Cond.constantLong RX5 40 (4), Cond.constantLong RX5 42 (30), Cond.methodLink RX5 36 yX5_in, Cond.static yX5_in, Cond.code yX5_in cX5_in 6 (some .boolean), Cond.methodLink RX5 56 yX5_back, Cond.instanceMethod yX5_back, Cond.selects RX5 yX5_back yX5_back, Cond.code yX5_back cX5_back 2 (some .int), Cond.methodLink RX5 32 yX5_get, Cond.instanceMethod yX5_get, Cond.selects RX5 yX5_get yX5_get]
def wsX5_doOrder_r2 : List Cond := [Cond.code yX5_get cX5_get 3 (some .int), Cond.methodLink RX5 44 yX5_put, Cond.instanceMethod yX5_put, Cond.selects RX5 yX5_put yX5_put, Cond.code yX5_put cX5_put 4 none, Cond.methodLink RX5 127 yX5_doPass, Cond.instanceMethod yX5_doPass, Cond.selects RX5 yX5_doPass yX5_doPass, Cond.code yX5_doPass cX5_doPass 2 (some .int), Cond.methodLink RX5 106 yX5_areTicks, Cond.static yX5_areTicks, Cond.code yX5_areTicks cX5_areTicks 1 (some .boolean), Cond.constantLong RX5 104 (99), Cond.methodLink RX5 109 yX5_passes, Cond.instanceMethod yX5_passes, Cond.selects RX5 yX5_passes yX5_passes, Cond.code yX5_passes cX5_passes 4 (some .int), Cond.methodLink RX5 82 yX5_ticksOn, Cond.instanceMethod yX5_ticksOn, Cond.selects RX5 yX5_ticksOn yX5_ticksOn, Cond.code yX5_ticksOn cX5_ticksOn 4 (some .int), Cond.methodLink RX5 66 yX5_moves, Cond.instanceMethod yX5_moves, Cond.selects RX5 yX5_moves yX5_moves]
def wsX5_doOrder_r3 : List Cond := [Cond.code yX5_moves cX5_moves 2 none, Cond.methodLink RX5 69 yX5_sees, Cond.instanceMethod yX5_sees, Cond.selects RX5 yX5_sees yX5_sees, Cond.code yX5_sees cX5_sees 2 none, Cond.methodLink RX5 72 yX5_plans, Cond.instanceMethod yX5_plans, Cond.selects RX5 yX5_plans yX5_plans, Cond.code yX5_plans cX5_plans 2 none, Cond.methodLink RX5 48 yX5_guessedWay, Cond.instanceMethod yX5_guessedWay, Cond.selects RX5 yX5_guessedWay yX5_guessedWay, Cond.code yX5_guessedWay cX5_guessedWay 3 (some .int), Cond.methodLink RX5 52 yX5_takesOut, Cond.instanceMethod yX5_takesOut, Cond.selects RX5 yX5_takesOut yX5_takesOut, Cond.code yX5_takesOut cX5_takesOut 6 none, Cond.methodLink RX5 75 yX5_doesPlans, Cond.instanceMethod yX5_doesPlans, Cond.selects RX5 yX5_doesPlans yX5_doesPlans, Cond.code yX5_doesPlans cX5_doesPlans 2 none, Cond.methodLink RX5 63 yX5_marks, Cond.instanceMethod yX5_marks, Cond.selects RX5 yX5_marks yX5_marks]
def wsX5_doOrder_r4 : List Cond := [Cond.code yX5_marks cX5_marks 2 none, Cond.methodLink RX5 60 yX5_under, Cond.instanceMethod yX5_under, Cond.selects RX5 yX5_under yX5_under, Cond.code yX5_under cX5_under 3 (some .int), Cond.methodLink RX5 78 yX5_judges, Cond.instanceMethod yX5_judges, Cond.selects RX5 yX5_judges yX5_judges, Cond.code yX5_judges cX5_judges 4 none, Cond.methodLink RX5 115 yX5_doSet, Cond.instanceMethod yX5_doSet, Cond.selects RX5 yX5_doSet yX5_doSet, Cond.code yX5_doSet cX5_doSet 4 (some .int), Cond.methodLink RX5 93 yX5_isSetting, Cond.static yX5_isSetting, Cond.code yX5_isSetting cX5_isSetting 2 (some .boolean), Cond.constantLong RX5 85 (9), Cond.constantLong RX5 87 (5), Cond.constantLong RX5 89 (20), Cond.constantLong RX5 91 (60), Cond.methodLink RX5 124 yX5_doTurn, Cond.instanceMethod yX5_doTurn, Cond.selects RX5 yX5_doTurn yX5_doTurn, Cond.code yX5_doTurn cX5_doTurn 7 (some .int)]
def wsX5_doOrder_r5 : List Cond := [Cond.methodLink RX5 101 yX5_isBox, Cond.instanceMethod yX5_isBox, Cond.selects RX5 yX5_isBox yX5_isBox, Cond.code yX5_isBox cX5_isBox 2 (some .boolean)]
def wsX5_doOrder : List Cond := .code yX5_doOrder cX5_doOrder 1 (some .int) :: ((wsX5_doOrder_r1 ++ (wsX5_doOrder_r2 ++ (wsX5_doOrder_r3 ++ (wsX5_doOrder_r4 ++ wsX5_doOrder_r5)))) ++ wsX50)
def wsX5_carryOut_r1 : List Cond := [Cond.fieldLink RX5 153 "BeltMarksModel" "spot" "I", Cond.fieldLink RX5 136 "BeltMarksModel" "padLong" "I", Cond.methodLink RX5 178 yX5_fault, Cond.instanceMethod yX5_fault, Cond.selects RX5 yX5_fault yX5_fault, Cond.initialized RX5, Cond.code yX5_fault cX5_fault 2 (some .int), Cond.methodLink RX5 175 yX5_readsOrder, Cond.instanceMethod yX5_readsOrder, Cond.selects RX5 yX5_readsOrder yX5_readsOrder, Cond.code yX5_readsOrder cX5_readsOrder 1 (some .boolean), Cond.fieldLink RX5 25 "BeltMarksModel" "pad" "[I", Cond.fieldLink RX5 162 "BeltMarksModel" "order" "I", Cond.fieldLink RX5 165 "BeltMarksModel" "whichBox" "I", Cond.methodLink RX5 156 yX5_isHere, Cond.instanceMethod yX5_isHere, Cond.selects RX5 yX5_isHere yX5_isHere, Cond.code yX5_isHere cX5_isHere 3 (some .boolean), Cond.methodLink RX5 36 yX5_in, Cond.static yX5_in, Cond.code yX5_in cX5_in 6 (some .boolean), Cond.methodLink RX5 168 yX5_takes, Cond.instanceMethod yX5_takes, Cond.selects RX5 yX5_takes yX5_takes]
def wsX5_carryOut_r2 : List Cond := [Cond.code yX5_takes cX5_takes 3 (some .boolean), Cond.methodLink RX5 171 yX5_readsNumber, Cond.instanceMethod yX5_readsNumber, Cond.selects RX5 yX5_readsNumber yX5_readsNumber, Cond.code yX5_readsNumber cX5_readsNumber 1 (some .boolean), Cond.fieldLink RX5 159 "BeltMarksModel" "number" "I", Cond.methodLink RX5 112 yX5_keep, Cond.instanceMethod yX5_keep, Cond.selects RX5 yX5_keep yX5_keep, Cond.code yX5_keep cX5_keep 2 none, Cond.fieldLink RX5 13 "BeltMarksModel" "kept" "[I", Cond.fieldLink RX5 7 "BeltMarksModel" "all" "[I", Cond.methodLink RX5 181 yX5_doOrder, Cond.instanceMethod yX5_doOrder, Cond.selects RX5 yX5_doOrder yX5_doOrder, Cond.code yX5_doOrder cX5_doOrder 1 (some .int), Cond.methodLink RX5 121 yX5_doArrive, Cond.instanceMethod yX5_doArrive, Cond.selects RX5 yX5_doArrive yX5_doArrive, Cond.code yX5_doArrive cX5_doArrive 3 (some .int), Cond.methodLink RX5 97 yX5_isLength, Cond.static yX5_isLength, Cond.code yX5_isLength cX5_isLength 1 (some .boolean), Cond.constantLong RX5 40 (4)]
def wsX5_carryOut_r3 : List Cond := [Cond.constantLong RX5 42 (30), Cond.methodLink RX5 56 yX5_back, Cond.instanceMethod yX5_back, Cond.selects RX5 yX5_back yX5_back, Cond.code yX5_back cX5_back 2 (some .int), Cond.methodLink RX5 32 yX5_get, Cond.instanceMethod yX5_get, Cond.selects RX5 yX5_get yX5_get, Cond.code yX5_get cX5_get 3 (some .int), Cond.methodLink RX5 44 yX5_put, Cond.instanceMethod yX5_put, Cond.selects RX5 yX5_put yX5_put, Cond.code yX5_put cX5_put 4 none, Cond.methodLink RX5 127 yX5_doPass, Cond.instanceMethod yX5_doPass, Cond.selects RX5 yX5_doPass yX5_doPass, Cond.code yX5_doPass cX5_doPass 2 (some .int), Cond.methodLink RX5 106 yX5_areTicks, Cond.static yX5_areTicks, Cond.code yX5_areTicks cX5_areTicks 1 (some .boolean), Cond.constantLong RX5 104 (99), Cond.methodLink RX5 109 yX5_passes, Cond.instanceMethod yX5_passes, Cond.selects RX5 yX5_passes yX5_passes]
def wsX5_carryOut_r4 : List Cond := [Cond.code yX5_passes cX5_passes 4 (some .int), Cond.methodLink RX5 82 yX5_ticksOn, Cond.instanceMethod yX5_ticksOn, Cond.selects RX5 yX5_ticksOn yX5_ticksOn, Cond.code yX5_ticksOn cX5_ticksOn 4 (some .int), Cond.methodLink RX5 66 yX5_moves, Cond.instanceMethod yX5_moves, Cond.selects RX5 yX5_moves yX5_moves, Cond.code yX5_moves cX5_moves 2 none, Cond.methodLink RX5 69 yX5_sees, Cond.instanceMethod yX5_sees, Cond.selects RX5 yX5_sees yX5_sees, Cond.code yX5_sees cX5_sees 2 none, Cond.methodLink RX5 72 yX5_plans, Cond.instanceMethod yX5_plans, Cond.selects RX5 yX5_plans yX5_plans, Cond.code yX5_plans cX5_plans 2 none, Cond.methodLink RX5 48 yX5_guessedWay, Cond.instanceMethod yX5_guessedWay, Cond.selects RX5 yX5_guessedWay yX5_guessedWay, Cond.code yX5_guessedWay cX5_guessedWay 3 (some .int), Cond.methodLink RX5 52 yX5_takesOut, Cond.instanceMethod yX5_takesOut, Cond.selects RX5 yX5_takesOut yX5_takesOut]
def wsX5_carryOut_r5 : List Cond := [Cond.code yX5_takesOut cX5_takesOut 6 none, Cond.methodLink RX5 75 yX5_doesPlans, Cond.instanceMethod yX5_doesPlans, Cond.selects RX5 yX5_doesPlans yX5_doesPlans, Cond.code yX5_doesPlans cX5_doesPlans 2 none, Cond.methodLink RX5 63 yX5_marks, Cond.instanceMethod yX5_marks, Cond.selects RX5 yX5_marks yX5_marks, Cond.code yX5_marks cX5_marks 2 none, Cond.methodLink RX5 60 yX5_under, Cond.instanceMethod yX5_under, Cond.selects RX5 yX5_under yX5_under, Cond.code yX5_under cX5_under 3 (some .int), Cond.methodLink RX5 78 yX5_judges, Cond.instanceMethod yX5_judges, Cond.selects RX5 yX5_judges yX5_judges, Cond.code yX5_judges cX5_judges 4 none, Cond.methodLink RX5 115 yX5_doSet, Cond.instanceMethod yX5_doSet, Cond.selects RX5 yX5_doSet yX5_doSet, Cond.code yX5_doSet cX5_doSet 4 (some .int), Cond.methodLink RX5 93 yX5_isSetting, Cond.static yX5_isSetting, Cond.code yX5_isSetting cX5_isSetting 2 (some .boolean)]
def wsX5_carryOut_r6 : List Cond := [Cond.constantLong RX5 85 (9), Cond.constantLong RX5 87 (5), Cond.constantLong RX5 89 (20), Cond.constantLong RX5 91 (60), Cond.methodLink RX5 124 yX5_doTurn, Cond.instanceMethod yX5_doTurn, Cond.selects RX5 yX5_doTurn yX5_doTurn, Cond.code yX5_doTurn cX5_doTurn 7 (some .int), Cond.methodLink RX5 101 yX5_isBox, Cond.instanceMethod yX5_isBox, Cond.selects RX5 yX5_isBox yX5_isBox, Cond.code yX5_isBox cX5_isBox 2 (some .boolean), Cond.methodLink RX5 118 yX5_changed, Cond.instanceMethod yX5_changed, Cond.selects RX5 yX5_changed yX5_changed, Cond.code yX5_changed cX5_changed 3 (some .int), Cond.fieldLink RX5 28 "BeltMarksModel" "historyLong" "I", Cond.fieldLink RX5 16 "BeltMarksModel" "history" "[I"]
def wsX5_carryOut : List Cond := .code yX5_carryOut cX5_carryOut 3 (some .int) :: ((wsX5_carryOut_r1 ++ (wsX5_carryOut_r2 ++ (wsX5_carryOut_r3 ++ (wsX5_carryOut_r4 ++ (wsX5_carryOut_r5 ++ wsX5_carryOut_r6))))) ++ wsX50)
def wsX5_undo : List Cond := .code yX5_undo cX5_undo 2 (some .int) :: ([.fieldLink RX5 28 "BeltMarksModel" "historyLong" "I", .fieldLink RX5 7 "BeltMarksModel" "all" "[I", .fieldLink RX5 16 "BeltMarksModel" "history" "[I"] ++ wsX50)
def wsX5_save : List Cond := .code yX5_save cX5_save 3 (some .int) :: ([.fieldLink RX5 19 "BeltMarksModel" "slots" "[I", .fieldLink RX5 7 "BeltMarksModel" "all" "[I", .fieldLink RX5 22 "BeltMarksModel" "isSaved" "[I", .methodLink RX5 36 yX5_in, .static yX5_in, .initialized RX5, .code yX5_in cX5_in 6 (some .boolean)] ++ wsX50)
def wsX5_restore : List Cond := .code yX5_restore cX5_restore 3 (some .int) :: ([.fieldLink RX5 22 "BeltMarksModel" "isSaved" "[I", .fieldLink RX5 7 "BeltMarksModel" "all" "[I", .fieldLink RX5 19 "BeltMarksModel" "slots" "[I", .methodLink RX5 36 yX5_in, .static yX5_in, .initialized RX5, .code yX5_in cX5_in 6 (some .boolean), .methodLink RX5 112 yX5_keep, .instanceMethod yX5_keep, .selects RX5 yX5_keep yX5_keep, .code yX5_keep cX5_keep 2 none, .fieldLink RX5 13 "BeltMarksModel" "kept" "[I", .methodLink RX5 118 yX5_changed, .instanceMethod yX5_changed, .selects RX5 yX5_changed yX5_changed, .code yX5_changed cX5_changed 3 (some .int), .fieldLink RX5 28 "BeltMarksModel" "historyLong" "I", .fieldLink RX5 16 "BeltMarksModel" "history" "[I"] ++ wsX50)
def wsJ9_abs_0f7a4 : List Cond := .code yJ9_abs_0f7a4 cJ9_abs_0f7a4 1 (some .int) :: ([])
def wsJ9_min_7cf53 : List Cond := .code yJ9_min_7cf53 cJ9_min_7cf53 2 (some .int) :: ([])
def wsL_law_r1 : List Cond := [Cond.classLink RL 7 RX4, Cond.instantiable RX4 6, Cond.initialized RX4, Cond.classLink RL 10 RX5, Cond.instantiable RX5 12, Cond.initialized RX5, Cond.constantLong RL 59 (4294967295), Cond.methodLink RL 9 yX4_init, Cond.instanceMethod yX4_init, Cond.code yX4_init cX4_init 1 none, Cond.methodLink RX4 1 objectInit, Cond.instanceMethod objectInit, Cond.code objectInit ⟨#[0xb1]⟩ 1 none, Cond.classLink RX4 7 RX0, Cond.instantiable RX0 10, Cond.initialized RX0, Cond.fieldLink RX4 10 "BeltMarks" "belt" "LBeltMarks$Belt;", Cond.fieldLink RX4 16 "BeltMarks" "trial" "LBeltMarks$Belt;", Cond.classLink RX4 19 RX2, Cond.instantiable RX2 3, Cond.initialized RX2, Cond.fieldLink RX4 22 "BeltMarks" "history" "LBeltMarks$History;", Cond.fieldLink RX4 26 "BeltMarks" "slots" "[LBeltMarks$Belt;", Cond.arrayClass .boolean]
def wsL_law_r2 : List Cond := [Cond.fieldLink RX4 30 "BeltMarks" "saved" "[Z", Cond.classLink RX4 34 RX3, Cond.instantiable RX3 2, Cond.initialized RX3, Cond.fieldLink RX4 37 "BeltMarks" "pad" "LBeltMarks$Pad;", Cond.methodLink RX4 9 yX0_init, Cond.instanceMethod yX0_init, Cond.code yX0_init cX0_init 2 none, Cond.methodLink RX0 5 objectInit, Cond.fieldLink RX0 11 "BeltMarks$Belt" "AT_FIRST" "[I", Cond.methodLink RX0 15 ⟨"[I", "clone", "()Ljava/lang/Object;"⟩, Cond.sameMethod "[I" "java/lang/Object" "clone" "()Ljava/lang/Object;", Cond.native ⟨"java/lang/Object", "clone", "()Ljava/lang/Object;"⟩, Cond.instanceMethod ⟨"java/lang/Object", "clone", "()Ljava/lang/Object;"⟩, Cond.selects "[I" ⟨"[I", "clone", "()Ljava/lang/Object;"⟩ ⟨"java/lang/Object", "clone", "()Ljava/lang/Object;"⟩, Cond.classLink RX0 16 "[I", Cond.fieldLink RX0 20 "BeltMarks$Belt" "settings" "[I", Cond.arrayClass .int, Cond.fieldLink RX0 23 "BeltMarks$Belt" "tallies" "[I", Cond.classLink RX0 26 RX1, Cond.fieldLink RX0 28 "BeltMarks$Belt" "boxes" "[LBeltMarks$Box;", Cond.fieldLink RX0 32 "BeltMarks$Belt" "comes" "[I", Cond.fieldLink RX0 35 "BeltMarks$Belt" "excesses" "[I", Cond.fieldLink RX0 38 "BeltMarks$Belt" "plans" "[I"]
def wsL_law_r3 : List Cond := [Cond.fieldLink RX0 41 "BeltMarks$Belt" "ways" "[I", Cond.instantiable RX1 7, Cond.initialized RX1, Cond.instanceMethod yX1_init, Cond.code yX1_init cX1_init 1 none, Cond.methodLink RX1 3 objectInit, Cond.methodLink RX4 21 yX2_init, Cond.instanceMethod yX2_init, Cond.code yX2_init cX2_init 2 none, Cond.methodLink RX2 3 objectInit, Cond.classLink RX2 9 RX0, Cond.fieldLink RX2 11 "BeltMarks$History" "states" "[LBeltMarks$Belt;", Cond.methodLink RX2 15 yX0_init, Cond.instanceMethod yX3_init, Cond.code yX3_init cX3_init 1 none, Cond.methodLink RX3 3 objectInit, Cond.arrayClass .char, Cond.fieldLink RX3 11 "BeltMarks$Pad" "signs" "[C", Cond.methodLink RL 12 yX5_init, Cond.instanceMethod yX5_init, Cond.code yX5_init cX5_init 1 none, Cond.methodLink RX5 1 objectInit, Cond.fieldLink RX5 7 "BeltMarksModel" "all" "[I", Cond.fieldLink RX5 13 "BeltMarksModel" "kept" "[I"]
def wsL_law_r4 : List Cond := [Cond.fieldLink RX5 16 "BeltMarksModel" "history" "[I", Cond.fieldLink RX5 19 "BeltMarksModel" "slots" "[I", Cond.fieldLink RX5 22 "BeltMarksModel" "isSaved" "[I", Cond.fieldLink RX5 25 "BeltMarksModel" "pad" "[I", Cond.methodLink RL 13 yX4_set, Cond.instanceMethod yX4_set, Cond.selects RX4 yX4_set yX4_set, Cond.code yX4_set cX4_set 3 (some .int), Cond.methodLink RX4 41 yX2_note, Cond.instanceMethod yX2_note, Cond.selects RX2 yX2_note yX2_note, Cond.code yX2_note cX2_note 2 none, Cond.fieldLink RX2 26 "BeltMarks$History" "size" "I", Cond.methodLink RX2 29 yX2_stateAt, Cond.instanceMethod yX2_stateAt, Cond.selects RX2 yX2_stateAt yX2_stateAt, Cond.code yX2_stateAt cX2_stateAt 2 (some (.object "BeltMarks$Belt")), Cond.fieldLink RX2 16 "BeltMarks$History" "oldest" "I", Cond.methodLink RX2 20 yJ9_floorMod_7cf53, Cond.static yJ9_floorMod_7cf53, Cond.initialized RJ9, Cond.code yJ9_floorMod_7cf53 cJ9_floorMod_7cf53 3 (some .int), Cond.methodLink RX2 33 yX0_copyFrom, Cond.instanceMethod yX0_copyFrom]
def wsL_law_r5 : List Cond := [Cond.selects RX0 yX0_copyFrom yX0_copyFrom, Cond.code yX0_copyFrom cX0_copyFrom 3 none, Cond.methodLink RX0 45 arraycopyName, Cond.native arraycopyName, Cond.static arraycopyName, Cond.initialized "java/lang/System", Cond.fieldLink RX0 51 "BeltMarks$Belt" "boxCount" "I", Cond.fieldLink RX0 59 "BeltMarks$Belt" "reportCount" "I", Cond.fieldLink RX0 62 "BeltMarks$Belt" "planCount" "I", Cond.methodLink RX0 55 yX1_copyFrom, Cond.instanceMethod yX1_copyFrom, Cond.selects RX1 yX1_copyFrom yX1_copyFrom, Cond.code yX1_copyFrom cX1_copyFrom 2 none, Cond.fieldLink RX1 11 "BeltMarks$Box" "front" "I", Cond.fieldLink RX1 15 "BeltMarks$Box" "length" "I", Cond.fieldLink RX1 18 "BeltMarks$Box" "seen" "Z", Cond.fieldLink RX1 22 "BeltMarks$Box" "marked" "Z", Cond.fieldLink RX1 25 "BeltMarks$Box" "mark" "I", Cond.fieldLink RX1 28 "BeltMarks$Box" "twice" "Z", Cond.fieldLink RX1 31 "BeltMarks$Box" "number" "I", Cond.methodLink RX4 45 yX0_choose, Cond.instanceMethod yX0_choose, Cond.selects RX0 yX0_choose yX0_choose, Cond.code yX0_choose cX0_choose 4 (some .int)]
def wsL_law_r6 : List Cond := [Cond.fieldLink RX0 65 "BeltMarks$Belt" "LOWEST" "[I", Cond.fieldLink RX0 68 "BeltMarks$Belt" "HIGHEST" "[I", Cond.methodLink RX4 49 yX4_recorded, Cond.instanceMethod yX4_recorded, Cond.selects RX4 yX4_recorded yX4_recorded, Cond.code yX4_recorded cX4_recorded 2 (some .int), Cond.methodLink RX4 62 yX2_keepNoted, Cond.instanceMethod yX2_keepNoted, Cond.selects RX2 yX2_keepNoted yX2_keepNoted, Cond.code yX2_keepNoted cX2_keepNoted 1 none, Cond.methodLink RL 17 yX5_set, Cond.instanceMethod yX5_set, Cond.selects RX5 yX5_set yX5_set, Cond.code yX5_set cX5_set 3 (some .int), Cond.methodLink RX5 112 yX5_keep, Cond.instanceMethod yX5_keep, Cond.selects RX5 yX5_keep yX5_keep, Cond.code yX5_keep cX5_keep 2 none, Cond.methodLink RX5 115 yX5_doSet, Cond.instanceMethod yX5_doSet, Cond.selects RX5 yX5_doSet yX5_doSet, Cond.code yX5_doSet cX5_doSet 4 (some .int), Cond.methodLink RX5 93 yX5_isSetting, Cond.static yX5_isSetting]
def wsL_law_r7 : List Cond := [Cond.code yX5_isSetting cX5_isSetting 2 (some .boolean), Cond.constantLong RX5 85 (9), Cond.constantLong RX5 87 (5), Cond.constantLong RX5 89 (20), Cond.constantLong RX5 91 (60), Cond.methodLink RX5 36 yX5_in, Cond.static yX5_in, Cond.code yX5_in cX5_in 6 (some .boolean), Cond.methodLink RX5 118 yX5_changed, Cond.instanceMethod yX5_changed, Cond.selects RX5 yX5_changed yX5_changed, Cond.code yX5_changed cX5_changed 3 (some .int), Cond.fieldLink RX5 28 "BeltMarksModel" "historyLong" "I", Cond.methodLink RL 18 yX4_arrive, Cond.instanceMethod yX4_arrive, Cond.selects RX4 yX4_arrive yX4_arrive, Cond.code yX4_arrive cX4_arrive 2 (some .int), Cond.methodLink RX4 53 yX0_takeBox, Cond.instanceMethod yX0_takeBox, Cond.selects RX0 yX0_takeBox yX0_takeBox, Cond.code yX0_takeBox cX0_takeBox 2 (some .int), Cond.methodLink RX0 71 yX1_canHave, Cond.static yX1_canHave, Cond.code yX1_canHave cX1_canHave 1 (some .boolean)]
def wsL_law_r8 : List Cond := [Cond.methodLink RX0 75 yX1_back, Cond.instanceMethod yX1_back, Cond.selects RX1 yX1_back yX1_back, Cond.code yX1_back cX1_back 1 (some .int), Cond.methodLink RX0 79 yX1_begin, Cond.instanceMethod yX1_begin, Cond.selects RX1 yX1_begin yX1_begin, Cond.code yX1_begin cX1_begin 3 none, Cond.methodLink RL 22 yX5_arrive, Cond.instanceMethod yX5_arrive, Cond.selects RX5 yX5_arrive yX5_arrive, Cond.code yX5_arrive cX5_arrive 2 (some .int), Cond.methodLink RX5 121 yX5_doArrive, Cond.instanceMethod yX5_doArrive, Cond.selects RX5 yX5_doArrive yX5_doArrive, Cond.code yX5_doArrive cX5_doArrive 3 (some .int), Cond.methodLink RX5 97 yX5_isLength, Cond.static yX5_isLength, Cond.code yX5_isLength cX5_isLength 1 (some .boolean), Cond.constantLong RX5 40 (4), Cond.constantLong RX5 42 (30), Cond.methodLink RX5 56 yX5_back, Cond.instanceMethod yX5_back, Cond.selects RX5 yX5_back yX5_back]
def wsL_law_r9 : List Cond := [Cond.code yX5_back cX5_back 2 (some .int), Cond.methodLink RX5 32 yX5_get, Cond.instanceMethod yX5_get, Cond.selects RX5 yX5_get yX5_get, Cond.code yX5_get cX5_get 3 (some .int), Cond.methodLink RX5 44 yX5_put, Cond.instanceMethod yX5_put, Cond.selects RX5 yX5_put yX5_put, Cond.code yX5_put cX5_put 4 none, Cond.methodLink RL 23 yX4_turn, Cond.instanceMethod yX4_turn, Cond.selects RX4 yX4_turn yX4_turn, Cond.code yX4_turn cX4_turn 3 (some .int), Cond.methodLink RX4 56 yX0_turnBox, Cond.instanceMethod yX0_turnBox, Cond.selects RX0 yX0_turnBox yX0_turnBox, Cond.code yX0_turnBox cX0_turnBox 5 (some .int), Cond.fieldLink RX0 86 "BeltMarks$Box" "front" "I", Cond.fieldLink RX0 89 "BeltMarks$Box" "length" "I", Cond.methodLink RX0 83 yX0_isBox, Cond.instanceMethod yX0_isBox, Cond.selects RX0 yX0_isBox yX0_isBox, Cond.code yX0_isBox cX0_isBox 2 (some .boolean), Cond.methodLink RX0 92 yJ9_floorDiv_7cf53]
def wsL_law_r10 : List Cond := [Cond.static yJ9_floorDiv_7cf53, Cond.code yJ9_floorDiv_7cf53 cJ9_floorDiv_7cf53 3 (some .int), Cond.methodLink RX0 98 yX0_hasRoom, Cond.instanceMethod yX0_hasRoom, Cond.selects RX0 yX0_hasRoom yX0_hasRoom, Cond.code yX0_hasRoom cX0_hasRoom 4 (some .boolean), Cond.methodLink RL 26 yX5_turn, Cond.instanceMethod yX5_turn, Cond.selects RX5 yX5_turn yX5_turn, Cond.code yX5_turn cX5_turn 3 (some .int), Cond.methodLink RX5 124 yX5_doTurn, Cond.instanceMethod yX5_doTurn, Cond.selects RX5 yX5_doTurn yX5_doTurn, Cond.code yX5_doTurn cX5_doTurn 7 (some .int), Cond.methodLink RX5 101 yX5_isBox, Cond.instanceMethod yX5_isBox, Cond.selects RX5 yX5_isBox yX5_isBox, Cond.code yX5_isBox cX5_isBox 2 (some .boolean), Cond.methodLink RL 27 yX4_pass, Cond.instanceMethod yX4_pass, Cond.selects RX4 yX4_pass yX4_pass, Cond.code yX4_pass cX4_pass 2 (some .int), Cond.methodLink RX4 59 yX0_letPass, Cond.instanceMethod yX0_letPass]
def wsL_law_r11 : List Cond := [Cond.selects RX0 yX0_letPass yX0_letPass, Cond.code yX0_letPass cX0_letPass 3 (some .int), Cond.methodLink RX0 102 yX0_howManyLeft, Cond.instanceMethod yX0_howManyLeft, Cond.selects RX0 yX0_howManyLeft yX0_howManyLeft, Cond.code yX0_howManyLeft cX0_howManyLeft 1 (some .int), Cond.methodLink RX0 105 yX0_tickOn, Cond.instanceMethod yX0_tickOn, Cond.selects RX0 yX0_tickOn yX0_tickOn, Cond.code yX0_tickOn cX0_tickOn 3 none, Cond.methodLink RX0 113 yX0_moveOn, Cond.instanceMethod yX0_moveOn, Cond.selects RX0 yX0_moveOn yX0_moveOn, Cond.code yX0_moveOn cX0_moveOn 3 none, Cond.methodLink RX0 116 yX0_seeBoxes, Cond.instanceMethod yX0_seeBoxes, Cond.selects RX0 yX0_seeBoxes yX0_seeBoxes, Cond.code yX0_seeBoxes cX0_seeBoxes 3 none, Cond.fieldLink RX0 134 "BeltMarks$Box" "seen" "Z", Cond.methodLink RX0 138 yX0_addReport, Cond.instanceMethod yX0_addReport, Cond.selects RX0 yX0_addReport yX0_addReport, Cond.code yX0_addReport cX0_addReport 2 none, Cond.methodLink RX0 119 yX0_countPlansDown]
def wsL_law_r12 : List Cond := [Cond.instanceMethod yX0_countPlansDown, Cond.selects RX0 yX0_countPlansDown yX0_countPlansDown, Cond.code yX0_countPlansDown cX0_countPlansDown 2 none, Cond.methodLink RX0 122 yX0_takeReports, Cond.instanceMethod yX0_takeReports, Cond.selects RX0 yX0_takeReports yX0_takeReports, Cond.code yX0_takeReports cX0_takeReports 3 none, Cond.methodLink RX0 141 yX0_addPlan, Cond.instanceMethod yX0_addPlan, Cond.selects RX0 yX0_addPlan yX0_addPlan, Cond.code yX0_addPlan cX0_addPlan 2 none, Cond.methodLink RX0 144 yX0_guessedWay, Cond.instanceMethod yX0_guessedWay, Cond.selects RX0 yX0_guessedWay yX0_guessedWay, Cond.code yX0_guessedWay cX0_guessedWay 3 (some .int), Cond.methodLink RX0 125 yX0_doPlans, Cond.instanceMethod yX0_doPlans, Cond.selects RX0 yX0_doPlans yX0_doPlans, Cond.code yX0_doPlans cX0_doPlans 3 none, Cond.methodLink RX0 147 yX0_useLabel, Cond.instanceMethod yX0_useLabel, Cond.selects RX0 yX0_useLabel yX0_useLabel, Cond.code yX0_useLabel cX0_useLabel 2 none, Cond.methodLink RX0 150 yX1_liesUnder]
def wsL_law_r13 : List Cond := [Cond.instanceMethod yX1_liesUnder, Cond.selects RX1 yX1_liesUnder yX1_liesUnder, Cond.code yX1_liesUnder cX1_liesUnder 2 (some .boolean), Cond.methodLink RX0 153 yX0_markBox, Cond.instanceMethod yX0_markBox, Cond.selects RX0 yX0_markBox yX0_markBox, Cond.code yX0_markBox cX0_markBox 2 none, Cond.fieldLink RX0 156 "BeltMarks$Box" "marked" "Z", Cond.fieldLink RX0 159 "BeltMarks$Box" "twice" "Z", Cond.fieldLink RX0 162 "BeltMarks$Box" "mark" "I", Cond.methodLink RX0 128 yX0_feed, Cond.instanceMethod yX0_feed, Cond.selects RX0 yX0_feed yX0_feed, Cond.code yX0_feed cX0_feed 1 none, Cond.methodLink RX0 165 Lib.Math.min.name, Cond.static Lib.Math.min.name, Cond.initialized "java/lang/Math", Cond.code Lib.Math.min.name Lib.Math.min.code 2 (some .int), Cond.methodLink RX0 131 yX0_letBoxesLeave, Cond.instanceMethod yX0_letBoxesLeave, Cond.selects RX0 yX0_letBoxesLeave yX0_letBoxesLeave, Cond.code yX0_letBoxesLeave cX0_letBoxesLeave 4 none, Cond.methodLink RX0 168 yX0_fate, Cond.instanceMethod yX0_fate]
def wsL_law_r14 : List Cond := [Cond.selects RX0 yX0_fate yX0_fate, Cond.code yX0_fate cX0_fate 3 (some .int), Cond.methodLink RX0 172 Lib.Math.abs.name, Cond.static Lib.Math.abs.name, Cond.code Lib.Math.abs.name Lib.Math.abs.code 1 (some .int), Cond.methodLink RL 30 yX5_pass, Cond.instanceMethod yX5_pass, Cond.selects RX5 yX5_pass yX5_pass, Cond.code yX5_pass cX5_pass 2 (some .int), Cond.methodLink RX5 127 yX5_doPass, Cond.instanceMethod yX5_doPass, Cond.selects RX5 yX5_doPass yX5_doPass, Cond.code yX5_doPass cX5_doPass 2 (some .int), Cond.methodLink RX5 106 yX5_areTicks, Cond.static yX5_areTicks, Cond.code yX5_areTicks cX5_areTicks 1 (some .boolean), Cond.constantLong RX5 104 (99), Cond.methodLink RX5 109 yX5_passes, Cond.instanceMethod yX5_passes, Cond.selects RX5 yX5_passes yX5_passes, Cond.code yX5_passes cX5_passes 4 (some .int), Cond.methodLink RX5 82 yX5_ticksOn, Cond.instanceMethod yX5_ticksOn, Cond.selects RX5 yX5_ticksOn yX5_ticksOn]
def wsL_law_r15 : List Cond := [Cond.code yX5_ticksOn cX5_ticksOn 4 (some .int), Cond.methodLink RX5 66 yX5_moves, Cond.instanceMethod yX5_moves, Cond.selects RX5 yX5_moves yX5_moves, Cond.code yX5_moves cX5_moves 2 none, Cond.methodLink RX5 69 yX5_sees, Cond.instanceMethod yX5_sees, Cond.selects RX5 yX5_sees yX5_sees, Cond.code yX5_sees cX5_sees 2 none, Cond.methodLink RX5 72 yX5_plans, Cond.instanceMethod yX5_plans, Cond.selects RX5 yX5_plans yX5_plans, Cond.code yX5_plans cX5_plans 2 none, Cond.methodLink RX5 48 yX5_guessedWay, Cond.instanceMethod yX5_guessedWay, Cond.selects RX5 yX5_guessedWay yX5_guessedWay, Cond.code yX5_guessedWay cX5_guessedWay 3 (some .int), Cond.methodLink RX5 52 yX5_takesOut, Cond.instanceMethod yX5_takesOut, Cond.selects RX5 yX5_takesOut yX5_takesOut, Cond.code yX5_takesOut cX5_takesOut 6 none, Cond.methodLink RX5 75 yX5_doesPlans, Cond.instanceMethod yX5_doesPlans, Cond.selects RX5 yX5_doesPlans yX5_doesPlans]
def wsL_law_r16 : List Cond := [Cond.code yX5_doesPlans cX5_doesPlans 2 none, Cond.methodLink RX5 63 yX5_marks, Cond.instanceMethod yX5_marks, Cond.selects RX5 yX5_marks yX5_marks, Cond.code yX5_marks cX5_marks 2 none, Cond.methodLink RX5 60 yX5_under, Cond.instanceMethod yX5_under, Cond.selects RX5 yX5_under yX5_under, Cond.code yX5_under cX5_under 3 (some .int), Cond.methodLink RX5 78 yX5_judges, Cond.instanceMethod yX5_judges, Cond.selects RX5 yX5_judges yX5_judges, Cond.code yX5_judges cX5_judges 4 none, Cond.methodLink RL 31 yX4_box, Cond.instanceMethod yX4_box, Cond.selects RX4 yX4_box yX4_box, Cond.code yX4_box cX4_box 3 (some .int), Cond.methodLink RX4 65 yX0_aboutBox, Cond.instanceMethod yX0_aboutBox, Cond.selects RX0 yX0_aboutBox yX0_aboutBox, Cond.code yX0_aboutBox cX0_aboutBox 3 (some .int), Cond.methodLink RX0 109 yX1_tell, Cond.instanceMethod yX1_tell, Cond.selects RX1 yX1_tell yX1_tell]
def wsL_law_r17 : List Cond := [Cond.code yX1_tell cX1_tell 2 (some .int), Cond.methodLink RL 34 yX5_box, Cond.instanceMethod yX5_box, Cond.selects RX5 yX5_box yX5_box, Cond.code yX5_box cX5_box 3 (some .int), Cond.methodLink RL 35 yX4_plan, Cond.instanceMethod yX4_plan, Cond.selects RX4 yX4_plan yX4_plan, Cond.code yX4_plan cX4_plan 2 (some .int), Cond.methodLink RX4 68 yX0_planAt, Cond.instanceMethod yX0_planAt, Cond.selects RX0 yX0_planAt yX0_planAt, Cond.code yX0_planAt cX0_planAt 2 (some .int), Cond.methodLink RL 38 yX5_plan, Cond.instanceMethod yX5_plan, Cond.selects RX5 yX5_plan yX5_plan, Cond.code yX5_plan cX5_plan 2 (some .int), Cond.methodLink RL 39 yX4_report, Cond.instanceMethod yX4_report, Cond.selects RX4 yX4_report yX4_report, Cond.code yX4_report cX4_report 3 (some .int), Cond.methodLink RX4 71 yX0_aboutReport, Cond.instanceMethod yX0_aboutReport, Cond.selects RX0 yX0_aboutReport yX0_aboutReport]
def wsL_law_r18 : List Cond := [Cond.code yX0_aboutReport cX0_aboutReport 3 (some .int), Cond.methodLink RL 42 yX5_report, Cond.instanceMethod yX5_report, Cond.selects RX5 yX5_report yX5_report, Cond.code yX5_report cX5_report 3 (some .int), Cond.methodLink RL 43 yX4_count, Cond.instanceMethod yX4_count, Cond.selects RX4 yX4_count yX4_count, Cond.code yX4_count cX4_count 2 (some .int), Cond.fieldLink RX4 74 "BeltMarks$Pad" "length" "I", Cond.fieldLink RX4 78 "BeltMarks$History" "size" "I", Cond.methodLink RX4 81 yX0_number, Cond.instanceMethod yX0_number, Cond.selects RX0 yX0_number yX0_number, Cond.code yX0_number cX0_number 3 (some .int), Cond.methodLink RL 46 yX5_count, Cond.instanceMethod yX5_count, Cond.selects RX5 yX5_count yX5_count, Cond.code yX5_count cX5_count 2 (some .int), Cond.constantLong RX5 130 (13), Cond.constantLong RX5 132 (14), Cond.constantLong RX5 134 (21), Cond.fieldLink RX5 136 "BeltMarksModel" "padLong" "I", Cond.methodLink RL 47 yX4_ifPass]
def wsL_law_r19 : List Cond := [Cond.instanceMethod yX4_ifPass, Cond.selects RX4 yX4_ifPass yX4_ifPass, Cond.code yX4_ifPass cX4_ifPass 3 (some .int), Cond.fieldLink RX4 88 "BeltMarks" "FORESEEN" "[I", Cond.methodLink RX4 84 yX4_canTry, Cond.static yX4_canTry, Cond.code yX4_canTry cX4_canTry 1 (some .boolean), Cond.methodLink RX4 92 yX0_copyFrom, Cond.methodLink RX4 95 yX0_tickOn, Cond.methodLink RL 50 yX5_ifPass, Cond.instanceMethod yX5_ifPass, Cond.selects RX5 yX5_ifPass yX5_ifPass, Cond.code yX5_ifPass cX5_ifPass 3 (some .int), Cond.constantLong RX5 142 (6), Cond.methodLink RX5 144 yX5_brings, Cond.instanceMethod yX5_brings, Cond.selects RX5 yX5_brings yX5_brings, Cond.code yX5_brings cX5_brings 6 (some .int), Cond.methodLink RX5 139 yX5_giveBack, Cond.instanceMethod yX5_giveBack, Cond.selects RX5 yX5_giveBack yX5_giveBack, Cond.code yX5_giveBack cX5_giveBack 2 none, Cond.methodLink RL 51 yX4_bestGuess, Cond.instanceMethod yX4_bestGuess]
def wsL_law_r20 : List Cond := [Cond.selects RX4 yX4_bestGuess yX4_bestGuess, Cond.code yX4_bestGuess cX4_bestGuess 7 (some .int), Cond.methodLink RX4 99 yX4_goodWithGuess, Cond.instanceMethod yX4_goodWithGuess, Cond.selects RX4 yX4_goodWithGuess yX4_goodWithGuess, Cond.code yX4_goodWithGuess cX4_goodWithGuess 3 (some .int), Cond.fieldLink RX4 106 "BeltMarks$Belt" "settings" "[I", Cond.methodLink RL 54 yX5_bestGuess, Cond.instanceMethod yX5_bestGuess, Cond.selects RX5 yX5_bestGuess yX5_bestGuess, Cond.code yX5_bestGuess cX5_bestGuess 8 (some .int), Cond.methodLink RL 55 yX4_neededSlack, Cond.instanceMethod yX4_neededSlack, Cond.selects RX4 yX4_neededSlack yX4_neededSlack, Cond.code yX4_neededSlack cX4_neededSlack 5 (some .int), Cond.methodLink RX4 102 yX4_starvesWithSlack, Cond.instanceMethod yX4_starvesWithSlack, Cond.selects RX4 yX4_starvesWithSlack yX4_starvesWithSlack, Cond.code yX4_starvesWithSlack cX4_starvesWithSlack 3 (some .boolean), Cond.fieldLink RX4 109 "BeltMarks$Belt" "tallies" "[I", Cond.methodLink RL 58 yX5_neededSlack, Cond.instanceMethod yX5_neededSlack, Cond.selects RX5 yX5_neededSlack yX5_neededSlack, Cond.code yX5_neededSlack cX5_neededSlack 5 (some .int)]
def wsL_law_r21 : List Cond := [Cond.methodLink RL 61 yX4_put, Cond.instanceMethod yX4_put, Cond.selects RX4 yX4_put yX4_put, Cond.code yX4_put cX4_put 3 (some .int), Cond.methodLink RX4 112 yX3_append, Cond.instanceMethod yX3_append, Cond.selects RX3 yX3_append yX3_append, Cond.code yX3_append cX3_append 5 (some .int), Cond.fieldLink RX3 19 "BeltMarks$Pad" "length" "I", Cond.methodLink RX3 15 yX3_howMany, Cond.static yX3_howMany, Cond.code yX3_howMany cX3_howMany 4 (some .int), Cond.methodLink RX3 23 yX3_codeAt, Cond.static yX3_codeAt, Cond.code yX3_codeAt cX3_codeAt 3 (some .int), Cond.methodLink RL 65 yX5_put_, Cond.instanceMethod yX5_put_, Cond.selects RX5 yX5_put_ yX5_put_, Cond.code yX5_put_ cX5_put_ 8 (some .int), Cond.constantLong RX5 147 (255), Cond.constantLong RX5 149 (33), Cond.constantLong RX5 151 (126), Cond.methodLink RL 66 yX4_wipe, Cond.instanceMethod yX4_wipe]
def wsL_law_r22 : List Cond := [Cond.selects RX4 yX4_wipe yX4_wipe, Cond.code yX4_wipe cX4_wipe 1 (some .int), Cond.methodLink RX4 116 yX3_empty, Cond.instanceMethod yX3_empty, Cond.selects RX3 yX3_empty yX3_empty, Cond.code yX3_empty cX3_empty 2 (some .int), Cond.methodLink RL 70 yX5_wipe, Cond.instanceMethod yX5_wipe, Cond.selects RX5 yX5_wipe yX5_wipe, Cond.code yX5_wipe cX5_wipe 2 (some .int), Cond.methodLink RL 71 yX4_fault, Cond.instanceMethod yX4_fault, Cond.selects RX4 yX4_fault yX4_fault, Cond.code yX4_fault cX4_fault 1 (some .int), Cond.methodLink RX4 120 yX3_firstFault, Cond.instanceMethod yX3_firstFault, Cond.selects RX3 yX3_firstFault yX3_firstFault, Cond.code yX3_firstFault cX3_firstFault 3 (some .int), Cond.methodLink RX3 27 yX3_dueBehind, Cond.static yX3_dueBehind, Cond.code yX3_dueBehind cX3_dueBehind 2 (some .int), Cond.methodLink RX3 31 yX3_behindOrder, Cond.static yX3_behindOrder, Cond.code yX3_behindOrder cX3_behindOrder 1 (some .int)]
def wsL_law_r23 : List Cond := [Cond.methodLink RX3 35 yX3_isDigit, Cond.static yX3_isDigit, Cond.code yX3_isDigit cX3_isDigit 1 (some .boolean), Cond.methodLink RL 74 yX5_fault, Cond.instanceMethod yX5_fault, Cond.selects RX5 yX5_fault yX5_fault, Cond.code yX5_fault cX5_fault 2 (some .int), Cond.fieldLink RX5 153 "BeltMarksModel" "spot" "I", Cond.methodLink RX5 175 yX5_readsOrder, Cond.instanceMethod yX5_readsOrder, Cond.selects RX5 yX5_readsOrder yX5_readsOrder, Cond.code yX5_readsOrder cX5_readsOrder 1 (some .boolean), Cond.fieldLink RX5 162 "BeltMarksModel" "order" "I", Cond.fieldLink RX5 165 "BeltMarksModel" "whichBox" "I", Cond.methodLink RX5 156 yX5_isHere, Cond.instanceMethod yX5_isHere, Cond.selects RX5 yX5_isHere yX5_isHere, Cond.code yX5_isHere cX5_isHere 3 (some .boolean), Cond.methodLink RX5 168 yX5_takes, Cond.instanceMethod yX5_takes, Cond.selects RX5 yX5_takes yX5_takes, Cond.code yX5_takes cX5_takes 3 (some .boolean), Cond.methodLink RX5 171 yX5_readsNumber, Cond.instanceMethod yX5_readsNumber]
def wsL_law_r24 : List Cond := [Cond.selects RX5 yX5_readsNumber yX5_readsNumber, Cond.code yX5_readsNumber cX5_readsNumber 1 (some .boolean), Cond.fieldLink RX5 159 "BeltMarksModel" "number" "I", Cond.methodLink RL 75 yX4_carryOut, Cond.instanceMethod yX4_carryOut, Cond.selects RX4 yX4_carryOut yX4_carryOut, Cond.code yX4_carryOut cX4_carryOut 3 (some .int), Cond.methodLink RX4 123 yX3_isOrder, Cond.instanceMethod yX3_isOrder, Cond.selects RX3 yX3_isOrder yX3_isOrder, Cond.code yX3_isOrder cX3_isOrder 2 (some .boolean), Cond.methodLink RX3 39 yX3_signAt, Cond.instanceMethod yX3_signAt, Cond.selects RX3 yX3_signAt yX3_signAt, Cond.code yX3_signAt cX3_signAt 2 (some .char), Cond.methodLink RX4 126 yX4_follow, Cond.instanceMethod yX4_follow, Cond.selects RX4 yX4_follow yX4_follow, Cond.code yX4_follow cX4_follow 2 (some .int), Cond.methodLink RX4 129 yX3_signAt, Cond.methodLink RX4 133 yX3_numberAt, Cond.instanceMethod yX3_numberAt, Cond.selects RX3 yX3_numberAt yX3_numberAt, Cond.code yX3_numberAt cX3_numberAt 4 (some .int)]
def wsL_law_r25 : List Cond := [Cond.methodLink RL 78 yX5_carryOut, Cond.instanceMethod yX5_carryOut, Cond.selects RX5 yX5_carryOut yX5_carryOut, Cond.code yX5_carryOut cX5_carryOut 3 (some .int), Cond.methodLink RX5 178 yX5_fault, Cond.methodLink RX5 181 yX5_doOrder, Cond.instanceMethod yX5_doOrder, Cond.selects RX5 yX5_doOrder yX5_doOrder, Cond.code yX5_doOrder cX5_doOrder 1 (some .int), Cond.methodLink RL 79 yX4_undo, Cond.instanceMethod yX4_undo, Cond.selects RX4 yX4_undo yX4_undo, Cond.code yX4_undo cX4_undo 1 (some .int), Cond.methodLink RX4 136 yX2_takeBack, Cond.instanceMethod yX2_takeBack, Cond.selects RX2 yX2_takeBack yX2_takeBack, Cond.code yX2_takeBack cX2_takeBack 2 none, Cond.methodLink RL 82 yX5_undo, Cond.instanceMethod yX5_undo, Cond.selects RX5 yX5_undo yX5_undo, Cond.code yX5_undo cX5_undo 2 (some .int), Cond.methodLink RL 83 yX4_save, Cond.instanceMethod yX4_save, Cond.selects RX4 yX4_save yX4_save]
def wsL_law_r26 : List Cond := [Cond.code yX4_save cX4_save 2 (some .int), Cond.methodLink RX4 139 yX4_isSlot, Cond.instanceMethod yX4_isSlot, Cond.selects RX4 yX4_isSlot yX4_isSlot, Cond.code yX4_isSlot cX4_isSlot 2 (some .boolean), Cond.methodLink RL 86 yX5_save, Cond.instanceMethod yX5_save, Cond.selects RX5 yX5_save yX5_save, Cond.code yX5_save cX5_save 3 (some .int), Cond.methodLink RL 87 yX4_restore, Cond.instanceMethod yX4_restore, Cond.selects RX4 yX4_restore yX4_restore, Cond.code yX4_restore cX4_restore 2 (some .int), Cond.methodLink RL 90 yX5_restore, Cond.instanceMethod yX5_restore, Cond.selects RX5 yX5_restore yX5_restore, Cond.code yX5_restore cX5_restore 3 (some .int)]
def wsL_law : List Cond := (wsL_law_r1 ++ (wsL_law_r2 ++ (wsL_law_r3 ++ (wsL_law_r4 ++ (wsL_law_r5 ++ (wsL_law_r6 ++ (wsL_law_r7 ++ (wsL_law_r8 ++ (wsL_law_r9 ++ (wsL_law_r10 ++ (wsL_law_r11 ++ (wsL_law_r12 ++ (wsL_law_r13 ++ (wsL_law_r14 ++ (wsL_law_r15 ++ (wsL_law_r16 ++ (wsL_law_r17 ++ (wsL_law_r18 ++ (wsL_law_r19 ++ (wsL_law_r20 ++ (wsL_law_r21 ++ (wsL_law_r22 ++ (wsL_law_r23 ++ (wsL_law_r24 ++ (wsL_law_r25 ++ wsL_law_r26))))))))))))))))))))))))) ++ wsX40 ++ wsX50 ++ wsX00 ++ wsX20 ++ wsX30 ++ wsX10 ++ ([] : List Cond)
set_option maxRecDepth 20000 in
theorem wsL_in_r1 : GoodIn lw_tbl wsL_law_r1 := goodIn_p wsL_law_r1 [63, 66] (by decide +kernel) (by decide +kernel)
set_option maxRecDepth 20000 in
theorem wsL_in_r2 : GoodIn lw_tbl wsL_law_r2 := goodIn_p wsL_law_r2 [71] (by decide +kernel) (by decide +kernel)
set_option maxRecDepth 20000 in
theorem wsL_in_r3 : GoodIn lw_tbl wsL_law_r3 := goodIn_p wsL_law_r3 [87, 155, 175, 511] (by decide +kernel) (by decide +kernel)
set_option maxRecDepth 20000 in
theorem wsL_in_r4 : GoodIn lw_tbl wsL_law_r4 := goodIn_p wsL_law_r4 [209, 213, 217, 220] (by decide +kernel) (by decide +kernel)
set_option maxRecDepth 20000 in
theorem wsL_in_r5 : GoodIn lw_tbl wsL_law_r5 := goodIn_p wsL_law_r5 [224, 231, 235] (by decide +kernel) (by decide +kernel)
set_option maxRecDepth 20000 in
theorem wsL_in_r6 : GoodIn lw_tbl wsL_law_r6 := goodIn_p wsL_law_r6 [243, 247, 553, 557, 561] (by decide +kernel) (by decide +kernel)
set_option maxRecDepth 20000 in
theorem wsL_in_r7 : GoodIn lw_tbl wsL_law_r7 := goodIn_p wsL_law_r7 [564, 568, 575, 251, 255, 258] (by decide +kernel) (by decide +kernel)
set_option maxRecDepth 20000 in
theorem wsL_in_r8 : GoodIn lw_tbl wsL_law_r8 := goodIn_p wsL_law_r8 [262, 266, 579, 583, 586] (by decide +kernel) (by decide +kernel)
set_option maxRecDepth 20000 in
theorem wsL_in_r9 : GoodIn lw_tbl wsL_law_r9 := goodIn_p wsL_law_r9 [592, 596, 600, 270, 274, 278] (by decide +kernel) (by decide +kernel)
set_option maxRecDepth 20000 in
theorem wsL_in_r10 : GoodIn lw_tbl wsL_law_r10 := goodIn_p wsL_law_r10 [281, 285, 604, 608, 612, 289] (by decide +kernel) (by decide +kernel)
set_option maxRecDepth 20000 in
theorem wsL_in_r11 : GoodIn lw_tbl wsL_law_r11 := goodIn_p wsL_law_r11 [293, 297, 301, 305, 309, 313] (by decide +kernel) (by decide +kernel)
set_option maxRecDepth 20000 in
theorem wsL_in_r12 : GoodIn lw_tbl wsL_law_r12 := goodIn_p wsL_law_r12 [317, 321, 325, 329, 333, 337] (by decide +kernel) (by decide +kernel)
set_option maxRecDepth 20000 in
theorem wsL_in_r13 : GoodIn lw_tbl wsL_law_r13 := goodIn_p wsL_law_r13 [341, 345, 349, 352, 356] (by decide +kernel) (by decide +kernel)
set_option maxRecDepth 20000 in
theorem wsL_in_r14 : GoodIn lw_tbl wsL_law_r14 := goodIn_p wsL_law_r14 [360, 363, 616, 620, 623, 628] (by decide +kernel) (by decide +kernel)
set_option maxRecDepth 20000 in
theorem wsL_in_r15 : GoodIn lw_tbl wsL_law_r15 := goodIn_p wsL_law_r15 [632, 636, 640, 644, 648, 652] (by decide +kernel) (by decide +kernel)
set_option maxRecDepth 20000 in
theorem wsL_in_r16 : GoodIn lw_tbl wsL_law_r16 := goodIn_p wsL_law_r16 [656, 660, 664, 668, 367, 371] (by decide +kernel) (by decide +kernel)
set_option maxRecDepth 20000 in
theorem wsL_in_r17 : GoodIn lw_tbl wsL_law_r17 := goodIn_p wsL_law_r17 [375, 672, 379, 383, 676, 387] (by decide +kernel) (by decide +kernel)
set_option maxRecDepth 20000 in
theorem wsL_in_r18 : GoodIn lw_tbl wsL_law_r18 := goodIn_p wsL_law_r18 [391, 680, 395, 399, 684] (by decide +kernel) (by decide +kernel)
set_option maxRecDepth 20000 in
theorem wsL_in_r19 : GoodIn lw_tbl wsL_law_r19 := goodIn_p wsL_law_r19 [403, 406, 691, 696, 700] (by decide +kernel) (by decide +kernel)
set_option maxRecDepth 20000 in
theorem wsL_in_r20 : GoodIn lw_tbl wsL_law_r20 := goodIn_p wsL_law_r20 [414, 418, 704, 422, 426, 708] (by decide +kernel) (by decide +kernel)
set_option maxRecDepth 20000 in
theorem wsL_in_r21 : GoodIn lw_tbl wsL_law_r21 := goodIn_p wsL_law_r21 [430, 434, 437, 440, 712] (by decide +kernel) (by decide +kernel)
set_option maxRecDepth 20000 in
theorem wsL_in_r22 : GoodIn lw_tbl wsL_law_r22 := goodIn_p wsL_law_r22 [444, 448, 719, 452, 456, 459, 462] (by decide +kernel) (by decide +kernel)
set_option maxRecDepth 20000 in
theorem wsL_in_r23 : GoodIn lw_tbl wsL_law_r23 := goodIn_p wsL_law_r23 [465, 723, 727, 731, 735] (by decide +kernel) (by decide +kernel)
set_option maxRecDepth 20000 in
theorem wsL_in_r24 : GoodIn lw_tbl wsL_law_r24 := goodIn_p wsL_law_r24 [739, 469, 473, 477, 481, 486] (by decide +kernel) (by decide +kernel)
set_option maxRecDepth 20000 in
theorem wsL_in_r25 : GoodIn lw_tbl wsL_law_r25 := goodIn_p wsL_law_r25 [743, 748, 490, 494, 752] (by decide +kernel) (by decide +kernel)
set_option maxRecDepth 20000 in
theorem wsL_in_r26 : GoodIn lw_tbl wsL_law_r26 := goodIn_p wsL_law_r26 [498, 502, 756, 506, 760] (by decide +kernel) (by decide +kernel)
set_option maxRecDepth 20000 in
theorem wsL_in_X4 : ∀ w ∈ wsX40, w ∈ lw_tbl := by decide +kernel
set_option maxRecDepth 20000 in
theorem wsL_in_X5 : ∀ w ∈ wsX50, w ∈ lw_tbl := by decide +kernel
set_option maxRecDepth 20000 in
theorem wsL_in_X0 : ∀ w ∈ wsX00, w ∈ lw_tbl := by decide +kernel
set_option maxRecDepth 20000 in
theorem wsL_in_X2 : ∀ w ∈ wsX20, w ∈ lw_tbl := by decide +kernel
set_option maxRecDepth 20000 in
theorem wsL_in_X3 : ∀ w ∈ wsX30, w ∈ lw_tbl := by decide +kernel
set_option maxRecDepth 20000 in
theorem wsL_in_X1 : ∀ w ∈ wsX10, w ∈ lw_tbl := by decide +kernel
theorem wsL_law_in : ∀ w ∈ wsL_law, w ∈ lw_tbl := by
  intro w h
  unfold wsL_law at h
  have h := (List.mem_append.mp h).elim id (fun q => absurd q List.not_mem_nil)
  rcases List.mem_append.mp h with h | h
  rotate_left
  · exact wsL_in_X1 w h
  rcases List.mem_append.mp h with h | h
  rotate_left
  · exact wsL_in_X3 w h
  rcases List.mem_append.mp h with h | h
  rotate_left
  · exact wsL_in_X2 w h
  rcases List.mem_append.mp h with h | h
  rotate_left
  · exact wsL_in_X0 w h
  rcases List.mem_append.mp h with h | h
  rotate_left
  · exact wsL_in_X5 w h
  rcases List.mem_append.mp h with h | h
  rotate_left
  · exact wsL_in_X4 w h
  rcases List.mem_append.mp h with h | h
  · exact (wsL_in_r1 w h).1
  rcases List.mem_append.mp h with h | h
  · exact (wsL_in_r2 w h).1
  rcases List.mem_append.mp h with h | h
  · exact (wsL_in_r3 w h).1
  rcases List.mem_append.mp h with h | h
  · exact (wsL_in_r4 w h).1
  rcases List.mem_append.mp h with h | h
  · exact (wsL_in_r5 w h).1
  rcases List.mem_append.mp h with h | h
  · exact (wsL_in_r6 w h).1
  rcases List.mem_append.mp h with h | h
  · exact (wsL_in_r7 w h).1
  rcases List.mem_append.mp h with h | h
  · exact (wsL_in_r8 w h).1
  rcases List.mem_append.mp h with h | h
  · exact (wsL_in_r9 w h).1
  rcases List.mem_append.mp h with h | h
  · exact (wsL_in_r10 w h).1
  rcases List.mem_append.mp h with h | h
  · exact (wsL_in_r11 w h).1
  rcases List.mem_append.mp h with h | h
  · exact (wsL_in_r12 w h).1
  rcases List.mem_append.mp h with h | h
  · exact (wsL_in_r13 w h).1
  rcases List.mem_append.mp h with h | h
  · exact (wsL_in_r14 w h).1
  rcases List.mem_append.mp h with h | h
  · exact (wsL_in_r15 w h).1
  rcases List.mem_append.mp h with h | h
  · exact (wsL_in_r16 w h).1
  rcases List.mem_append.mp h with h | h
  · exact (wsL_in_r17 w h).1
  rcases List.mem_append.mp h with h | h
  · exact (wsL_in_r18 w h).1
  rcases List.mem_append.mp h with h | h
  · exact (wsL_in_r19 w h).1
  rcases List.mem_append.mp h with h | h
  · exact (wsL_in_r20 w h).1
  rcases List.mem_append.mp h with h | h
  · exact (wsL_in_r21 w h).1
  rcases List.mem_append.mp h with h | h
  · exact (wsL_in_r22 w h).1
  rcases List.mem_append.mp h with h | h
  · exact (wsL_in_r23 w h).1
  rcases List.mem_append.mp h with h | h
  · exact (wsL_in_r24 w h).1
  rcases List.mem_append.mp h with h | h
  · exact (wsL_in_r25 w h).1
  exact (wsL_in_r26 w h).1
theorem inlX0 : ∀ w ∈ wsX00, w ∈ wsL_law := fun _ h => List.mem_append_left _ (List.mem_append_left _ (List.mem_append_left _ (List.mem_append_left _ (List.mem_append_right _ h))))
theorem inX0 : ∀ w ∈ wsX00, w ∈ lw_tbl := fun w h => wsL_law_in w (inlX0 w h)
theorem inlX1 : ∀ w ∈ wsX10, w ∈ wsL_law := fun _ h => List.mem_append_left _ (List.mem_append_right _ h)
theorem inX1 : ∀ w ∈ wsX10, w ∈ lw_tbl := fun w h => wsL_law_in w (inlX1 w h)
theorem inlX2 : ∀ w ∈ wsX20, w ∈ wsL_law := fun _ h => List.mem_append_left _ (List.mem_append_left _ (List.mem_append_left _ (List.mem_append_right _ h)))
theorem inX2 : ∀ w ∈ wsX20, w ∈ lw_tbl := fun w h => wsL_law_in w (inlX2 w h)
theorem inlX3 : ∀ w ∈ wsX30, w ∈ wsL_law := fun _ h => List.mem_append_left _ (List.mem_append_left _ (List.mem_append_right _ h))
theorem inX3 : ∀ w ∈ wsX30, w ∈ lw_tbl := fun w h => wsL_law_in w (inlX3 w h)
theorem inlX4 : ∀ w ∈ wsX40, w ∈ wsL_law := fun _ h => List.mem_append_left _ (List.mem_append_left _ (List.mem_append_left _ (List.mem_append_left _ (List.mem_append_left _ (List.mem_append_left _ (List.mem_append_right _ h))))))
theorem inX4 : ∀ w ∈ wsX40, w ∈ lw_tbl := fun w h => wsL_law_in w (inlX4 w h)
theorem inlX5 : ∀ w ∈ wsX50, w ∈ wsL_law := fun _ h => List.mem_append_left _ (List.mem_append_left _ (List.mem_append_left _ (List.mem_append_left _ (List.mem_append_left _ (List.mem_append_right _ h)))))
theorem inX5 : ∀ w ∈ wsX50, w ∈ lw_tbl := fun w h => wsL_law_in w (inlX5 w h)
theorem inJx8e188 : ∀ w ∈ wsJx8e1880, w ∈ lw_tbl := by decide +kernel
theorem inJ9 : ∀ w ∈ wsJ90, w ∈ lw_tbl := by decide +kernel
theorem inJ10 : ∀ w ∈ wsJ100, w ∈ lw_tbl := by decide +kernel
abbrev vwCl : List vw_C := [(RX0, TX0, 10), (RX1, TX1, 7), (RX2, TX2, 3), (RX3, TX3, 2), (RX4, TX4, 6), (RX5, TX5, 12)]
end
section
set_option maxRecDepth 20000 in
theorem ggX0_init_X1_init : GoodIn wsX0_init wsX1_init := goodIn_r _ [23, 24, 2, 3] (by decide +kernel) (by decide +kernel)
set_option maxRecDepth 20000 in
theorem gX0_init_X1_init_n44 : GoodIn wsX0_init (wsX1_init) := ggX0_init_X1_init
theorem dX0_init_0 : decode cX0_init 0 = .ok (.aload_n 0, 1) := by decide +kernel
theorem dX0_init_1 : decode cX0_init 1 = .ok (.invokespecial 5, 3) := by decide +kernel
theorem dX0_init_4 : decode cX0_init 4 = .ok (.aload_n 0, 1) := by decide +kernel
theorem dX0_init_5 : decode cX0_init 5 = .ok (.getstatic 11, 3) := by decide +kernel
theorem dX0_init_8 : decode cX0_init 8 = .ok (.invokevirtual 15, 3) := by decide +kernel
theorem dX0_init_11 : decode cX0_init 11 = .ok (.checkcast 16, 3) := by decide +kernel
theorem dX0_init_14 : decode cX0_init 14 = .ok (.putfield 20, 3) := by decide +kernel
theorem dX0_init_17 : decode cX0_init 17 = .ok (.aload_n 0, 1) := by decide +kernel
theorem dX0_init_18 : decode cX0_init 18 = .ok (.bipush 14, 2) := by decide +kernel
theorem dX0_init_20 : decode cX0_init 20 = .ok (.newarray .int, 2) := by decide +kernel
theorem dX0_init_22 : decode cX0_init 22 = .ok (.putfield 23, 3) := by decide +kernel
theorem dX0_init_25 : decode cX0_init 25 = .ok (.aload_n 0, 1) := by decide +kernel
theorem dX0_init_26 : decode cX0_init 26 = .ok (.bipush 8, 2) := by decide +kernel
theorem dX0_init_28 : decode cX0_init 28 = .ok (.anewarray 26, 3) := by decide +kernel
theorem dX0_init_31 : decode cX0_init 31 = .ok (.putfield 28, 3) := by decide +kernel
theorem dX0_init_34 : decode cX0_init 34 = .ok (.aload_n 0, 1) := by decide +kernel
theorem dX0_init_35 : decode cX0_init 35 = .ok (.bipush 32, 2) := by decide +kernel
theorem dX0_init_37 : decode cX0_init 37 = .ok (.newarray .int, 2) := by decide +kernel
theorem dX0_init_39 : decode cX0_init 39 = .ok (.putfield 32, 3) := by decide +kernel
theorem dX0_init_42 : decode cX0_init 42 = .ok (.aload_n 0, 1) := by decide +kernel
theorem dX0_init_43 : decode cX0_init 43 = .ok (.bipush 32, 2) := by decide +kernel
theorem dX0_init_45 : decode cX0_init 45 = .ok (.newarray .int, 2) := by decide +kernel
theorem dX0_init_47 : decode cX0_init 47 = .ok (.putfield 35, 3) := by decide +kernel
theorem dX0_init_50 : decode cX0_init 50 = .ok (.aload_n 0, 1) := by decide +kernel
theorem dX0_init_51 : decode cX0_init 51 = .ok (.bipush 32, 2) := by decide +kernel
theorem dX0_init_53 : decode cX0_init 53 = .ok (.newarray .int, 2) := by decide +kernel
theorem dX0_init_55 : decode cX0_init 55 = .ok (.putfield 38, 3) := by decide +kernel
theorem dX0_init_58 : decode cX0_init 58 = .ok (.aload_n 0, 1) := by decide +kernel
theorem dX0_init_59 : decode cX0_init 59 = .ok (.iconst 5, 1) := by decide +kernel
theorem dX0_init_60 : decode cX0_init 60 = .ok (.newarray .int, 2) := by decide +kernel
theorem dX0_init_62 : decode cX0_init 62 = .ok (.putfield 41, 3) := by decide +kernel
theorem dX0_init_65 : decode cX0_init 65 = .ok (.iconst 0, 1) := by decide +kernel
theorem dX0_init_66 : decode cX0_init 66 = .ok (.istore_n 1, 1) := by decide +kernel
theorem dX0_init_67 : decode cX0_init 67 = .ok (.iload_n 1, 1) := by decide +kernel
theorem dX0_init_68 : decode cX0_init 68 = .ok (.bipush 8, 2) := by decide +kernel
theorem dX0_init_70 : decode cX0_init 70 = .ok (.if_icmp .ge 22, 3) := by decide +kernel
theorem dX0_init_73 : decode cX0_init 73 = .ok (.aload_n 0, 1) := by decide +kernel
theorem dX0_init_74 : decode cX0_init 74 = .ok (.getfield 28, 3) := by decide +kernel
theorem dX0_init_77 : decode cX0_init 77 = .ok (.iload_n 1, 1) := by decide +kernel
theorem dX0_init_78 : decode cX0_init 78 = .ok (.new 26, 3) := by decide +kernel
theorem dX0_init_81 : decode cX0_init 81 = .ok (.dup, 1) := by decide +kernel
theorem dX0_init_82 : decode cX0_init 82 = .ok (.invokespecial 44, 3) := by decide +kernel
theorem dX0_init_85 : decode cX0_init 85 = .ok (.aastore, 1) := by decide +kernel
theorem dX0_init_86 : decode cX0_init 86 = .ok (.iinc 1 1, 3) := by decide +kernel
theorem dX0_init_89 : decode cX0_init 89 = .ok (.goto (-22), 3) := by decide +kernel
theorem dX0_init_92 : decode cX0_init 92 = .ok (.aload_n 0, 1) := by decide +kernel
theorem dX0_init_93 : decode cX0_init 93 = .ok (.getfield 23, 3) := by decide +kernel
theorem dX0_init_96 : decode cX0_init 96 = .ok (.bipush 10, 2) := by decide +kernel
theorem dX0_init_98 : decode cX0_init 98 = .ok (.bipush 20, 2) := by decide +kernel
theorem dX0_init_100 : decode cX0_init 100 = .ok (.iastore, 1) := by decide +kernel
theorem dX0_init_101 : decode cX0_init 101 = .ok (.return_, 1) := by decide +kernel
set_option maxRecDepth 20000 in
theorem ggX0_copyFrom_X1_copyFrom : GoodIn wsX0_copyFrom wsX1_copyFrom := goodIn_r _ [19, 20, 21, 22, 23, 24, 25, 26, 37, 38, 39, 40, 41, 42, 43] (by decide +kernel) (by decide +kernel)
set_option maxRecDepth 20000 in
theorem gX0_copyFrom_X1_copyFrom : GoodIn wsX0_copyFrom (wsV RX0 55 RX1 yX1_copyFrom wsX1_copyFrom) := goodIn_app (goodIn_of _ (by decide +kernel)) ggX0_copyFrom_X1_copyFrom
theorem dX0_copyFrom_0 : decode cX0_copyFrom 0 = .ok (.aload_n 1, 1) := by decide +kernel
theorem dX0_copyFrom_1 : decode cX0_copyFrom 1 = .ok (.getfield 20, 3) := by decide +kernel
theorem dX0_copyFrom_4 : decode cX0_copyFrom 4 = .ok (.iconst 0, 1) := by decide +kernel
theorem dX0_copyFrom_5 : decode cX0_copyFrom 5 = .ok (.aload_n 0, 1) := by decide +kernel
theorem dX0_copyFrom_6 : decode cX0_copyFrom 6 = .ok (.getfield 20, 3) := by decide +kernel
theorem dX0_copyFrom_9 : decode cX0_copyFrom 9 = .ok (.iconst 0, 1) := by decide +kernel
theorem dX0_copyFrom_10 : decode cX0_copyFrom 10 = .ok (.aload_n 0, 1) := by decide +kernel
theorem dX0_copyFrom_11 : decode cX0_copyFrom 11 = .ok (.getfield 20, 3) := by decide +kernel
theorem dX0_copyFrom_14 : decode cX0_copyFrom 14 = .ok (.arraylength, 1) := by decide +kernel
theorem dX0_copyFrom_15 : decode cX0_copyFrom 15 = .ok (.invokestatic 45, 3) := by decide +kernel
theorem dX0_copyFrom_18 : decode cX0_copyFrom 18 = .ok (.aload_n 1, 1) := by decide +kernel
theorem dX0_copyFrom_19 : decode cX0_copyFrom 19 = .ok (.getfield 23, 3) := by decide +kernel
theorem dX0_copyFrom_22 : decode cX0_copyFrom 22 = .ok (.iconst 0, 1) := by decide +kernel
theorem dX0_copyFrom_23 : decode cX0_copyFrom 23 = .ok (.aload_n 0, 1) := by decide +kernel
theorem dX0_copyFrom_24 : decode cX0_copyFrom 24 = .ok (.getfield 23, 3) := by decide +kernel
theorem dX0_copyFrom_27 : decode cX0_copyFrom 27 = .ok (.iconst 0, 1) := by decide +kernel
theorem dX0_copyFrom_28 : decode cX0_copyFrom 28 = .ok (.aload_n 0, 1) := by decide +kernel
theorem dX0_copyFrom_29 : decode cX0_copyFrom 29 = .ok (.getfield 23, 3) := by decide +kernel
theorem dX0_copyFrom_32 : decode cX0_copyFrom 32 = .ok (.arraylength, 1) := by decide +kernel
theorem dX0_copyFrom_33 : decode cX0_copyFrom 33 = .ok (.invokestatic 45, 3) := by decide +kernel
theorem dX0_copyFrom_36 : decode cX0_copyFrom 36 = .ok (.aload_n 0, 1) := by decide +kernel
theorem dX0_copyFrom_37 : decode cX0_copyFrom 37 = .ok (.aload_n 1, 1) := by decide +kernel
theorem dX0_copyFrom_38 : decode cX0_copyFrom 38 = .ok (.getfield 51, 3) := by decide +kernel
theorem dX0_copyFrom_41 : decode cX0_copyFrom 41 = .ok (.putfield 51, 3) := by decide +kernel
theorem dX0_copyFrom_44 : decode cX0_copyFrom 44 = .ok (.iconst 0, 1) := by decide +kernel
theorem dX0_copyFrom_45 : decode cX0_copyFrom 45 = .ok (.istore_n 2, 1) := by decide +kernel
theorem dX0_copyFrom_46 : decode cX0_copyFrom 46 = .ok (.iload_n 2, 1) := by decide +kernel
theorem dX0_copyFrom_47 : decode cX0_copyFrom 47 = .ok (.aload_n 0, 1) := by decide +kernel
theorem dX0_copyFrom_48 : decode cX0_copyFrom 48 = .ok (.getfield 51, 3) := by decide +kernel
theorem dX0_copyFrom_51 : decode cX0_copyFrom 51 = .ok (.if_icmp .ge 24, 3) := by decide +kernel
theorem dX0_copyFrom_54 : decode cX0_copyFrom 54 = .ok (.aload_n 0, 1) := by decide +kernel
theorem dX0_copyFrom_55 : decode cX0_copyFrom 55 = .ok (.getfield 28, 3) := by decide +kernel
theorem dX0_copyFrom_58 : decode cX0_copyFrom 58 = .ok (.iload_n 2, 1) := by decide +kernel
theorem dX0_copyFrom_59 : decode cX0_copyFrom 59 = .ok (.aaload, 1) := by decide +kernel
theorem dX0_copyFrom_60 : decode cX0_copyFrom 60 = .ok (.aload_n 1, 1) := by decide +kernel
theorem dX0_copyFrom_61 : decode cX0_copyFrom 61 = .ok (.getfield 28, 3) := by decide +kernel
theorem dX0_copyFrom_64 : decode cX0_copyFrom 64 = .ok (.iload_n 2, 1) := by decide +kernel
theorem dX0_copyFrom_65 : decode cX0_copyFrom 65 = .ok (.aaload, 1) := by decide +kernel
theorem dX0_copyFrom_66 : decode cX0_copyFrom 66 = .ok (.invokevirtual 55, 3) := by decide +kernel
theorem dX0_copyFrom_69 : decode cX0_copyFrom 69 = .ok (.iinc 2 1, 3) := by decide +kernel
theorem dX0_copyFrom_72 : decode cX0_copyFrom 72 = .ok (.goto (-26), 3) := by decide +kernel
theorem dX0_copyFrom_75 : decode cX0_copyFrom 75 = .ok (.aload_n 0, 1) := by decide +kernel
theorem dX0_copyFrom_76 : decode cX0_copyFrom 76 = .ok (.aload_n 1, 1) := by decide +kernel
theorem dX0_copyFrom_77 : decode cX0_copyFrom 77 = .ok (.getfield 59, 3) := by decide +kernel
theorem dX0_copyFrom_80 : decode cX0_copyFrom 80 = .ok (.putfield 59, 3) := by decide +kernel
theorem dX0_copyFrom_83 : decode cX0_copyFrom 83 = .ok (.aload_n 1, 1) := by decide +kernel
theorem dX0_copyFrom_84 : decode cX0_copyFrom 84 = .ok (.getfield 32, 3) := by decide +kernel
theorem dX0_copyFrom_87 : decode cX0_copyFrom 87 = .ok (.iconst 0, 1) := by decide +kernel
theorem dX0_copyFrom_88 : decode cX0_copyFrom 88 = .ok (.aload_n 0, 1) := by decide +kernel
theorem dX0_copyFrom_89 : decode cX0_copyFrom 89 = .ok (.getfield 32, 3) := by decide +kernel
theorem dX0_copyFrom_92 : decode cX0_copyFrom 92 = .ok (.iconst 0, 1) := by decide +kernel
theorem dX0_copyFrom_93 : decode cX0_copyFrom 93 = .ok (.aload_n 0, 1) := by decide +kernel
theorem dX0_copyFrom_94 : decode cX0_copyFrom 94 = .ok (.getfield 59, 3) := by decide +kernel
theorem dX0_copyFrom_97 : decode cX0_copyFrom 97 = .ok (.invokestatic 45, 3) := by decide +kernel
theorem dX0_copyFrom_100 : decode cX0_copyFrom 100 = .ok (.aload_n 1, 1) := by decide +kernel
theorem dX0_copyFrom_101 : decode cX0_copyFrom 101 = .ok (.getfield 35, 3) := by decide +kernel
theorem dX0_copyFrom_104 : decode cX0_copyFrom 104 = .ok (.iconst 0, 1) := by decide +kernel
theorem dX0_copyFrom_105 : decode cX0_copyFrom 105 = .ok (.aload_n 0, 1) := by decide +kernel
theorem dX0_copyFrom_106 : decode cX0_copyFrom 106 = .ok (.getfield 35, 3) := by decide +kernel
theorem dX0_copyFrom_109 : decode cX0_copyFrom 109 = .ok (.iconst 0, 1) := by decide +kernel
theorem dX0_copyFrom_110 : decode cX0_copyFrom 110 = .ok (.aload_n 0, 1) := by decide +kernel
theorem dX0_copyFrom_111 : decode cX0_copyFrom 111 = .ok (.getfield 59, 3) := by decide +kernel
theorem dX0_copyFrom_114 : decode cX0_copyFrom 114 = .ok (.invokestatic 45, 3) := by decide +kernel
theorem dX0_copyFrom_117 : decode cX0_copyFrom 117 = .ok (.aload_n 0, 1) := by decide +kernel
theorem dX0_copyFrom_118 : decode cX0_copyFrom 118 = .ok (.aload_n 1, 1) := by decide +kernel
theorem dX0_copyFrom_119 : decode cX0_copyFrom 119 = .ok (.getfield 62, 3) := by decide +kernel
theorem dX0_copyFrom_122 : decode cX0_copyFrom 122 = .ok (.putfield 62, 3) := by decide +kernel
theorem dX0_copyFrom_125 : decode cX0_copyFrom 125 = .ok (.aload_n 1, 1) := by decide +kernel
theorem dX0_copyFrom_126 : decode cX0_copyFrom 126 = .ok (.getfield 38, 3) := by decide +kernel
theorem dX0_copyFrom_129 : decode cX0_copyFrom 129 = .ok (.iconst 0, 1) := by decide +kernel
theorem dX0_copyFrom_130 : decode cX0_copyFrom 130 = .ok (.aload_n 0, 1) := by decide +kernel
theorem dX0_copyFrom_131 : decode cX0_copyFrom 131 = .ok (.getfield 38, 3) := by decide +kernel
theorem dX0_copyFrom_134 : decode cX0_copyFrom 134 = .ok (.iconst 0, 1) := by decide +kernel
theorem dX0_copyFrom_135 : decode cX0_copyFrom 135 = .ok (.aload_n 0, 1) := by decide +kernel
theorem dX0_copyFrom_136 : decode cX0_copyFrom 136 = .ok (.getfield 62, 3) := by decide +kernel
theorem dX0_copyFrom_139 : decode cX0_copyFrom 139 = .ok (.invokestatic 45, 3) := by decide +kernel
theorem dX0_copyFrom_142 : decode cX0_copyFrom 142 = .ok (.aload_n 1, 1) := by decide +kernel
theorem dX0_copyFrom_143 : decode cX0_copyFrom 143 = .ok (.getfield 41, 3) := by decide +kernel
theorem dX0_copyFrom_146 : decode cX0_copyFrom 146 = .ok (.iconst 0, 1) := by decide +kernel
theorem dX0_copyFrom_147 : decode cX0_copyFrom 147 = .ok (.aload_n 0, 1) := by decide +kernel
theorem dX0_copyFrom_148 : decode cX0_copyFrom 148 = .ok (.getfield 41, 3) := by decide +kernel
theorem dX0_copyFrom_151 : decode cX0_copyFrom 151 = .ok (.iconst 0, 1) := by decide +kernel
theorem dX0_copyFrom_152 : decode cX0_copyFrom 152 = .ok (.aload_n 0, 1) := by decide +kernel
theorem dX0_copyFrom_153 : decode cX0_copyFrom 153 = .ok (.getfield 41, 3) := by decide +kernel
theorem dX0_copyFrom_156 : decode cX0_copyFrom 156 = .ok (.arraylength, 1) := by decide +kernel
theorem dX0_copyFrom_157 : decode cX0_copyFrom 157 = .ok (.invokestatic 45, 3) := by decide +kernel
theorem dX0_copyFrom_160 : decode cX0_copyFrom 160 = .ok (.return_, 1) := by decide +kernel
theorem dX0_choose_0 : decode cX0_choose 0 = .ok (.iload_n 1, 1) := by decide +kernel
theorem dX0_choose_1 : decode cX0_choose 1 = .ok (.ifCond .lt 12, 3) := by decide +kernel
theorem dX0_choose_4 : decode cX0_choose 4 = .ok (.iload_n 1, 1) := by decide +kernel
theorem dX0_choose_5 : decode cX0_choose 5 = .ok (.aload_n 0, 1) := by decide +kernel
theorem dX0_choose_6 : decode cX0_choose 6 = .ok (.getfield 20, 3) := by decide +kernel
theorem dX0_choose_9 : decode cX0_choose 9 = .ok (.arraylength, 1) := by decide +kernel
theorem dX0_choose_10 : decode cX0_choose 10 = .ok (.if_icmp .lt 6, 3) := by decide +kernel
theorem dX0_choose_13 : decode cX0_choose 13 = .ok (.bipush (-2), 2) := by decide +kernel
theorem dX0_choose_15 : decode cX0_choose 15 = .ok (.ireturn, 1) := by decide +kernel
theorem dX0_choose_16 : decode cX0_choose 16 = .ok (.iload_n 2, 1) := by decide +kernel
theorem dX0_choose_17 : decode cX0_choose 17 = .ok (.getstatic 65, 3) := by decide +kernel
theorem dX0_choose_20 : decode cX0_choose 20 = .ok (.iload_n 1, 1) := by decide +kernel
theorem dX0_choose_21 : decode cX0_choose 21 = .ok (.iaload, 1) := by decide +kernel
theorem dX0_choose_22 : decode cX0_choose 22 = .ok (.if_icmp .lt 12, 3) := by decide +kernel
theorem dX0_choose_25 : decode cX0_choose 25 = .ok (.iload_n 2, 1) := by decide +kernel
theorem dX0_choose_26 : decode cX0_choose 26 = .ok (.getstatic 68, 3) := by decide +kernel
theorem dX0_choose_29 : decode cX0_choose 29 = .ok (.iload_n 1, 1) := by decide +kernel
theorem dX0_choose_30 : decode cX0_choose 30 = .ok (.iaload, 1) := by decide +kernel
theorem dX0_choose_31 : decode cX0_choose 31 = .ok (.if_icmp .le 6, 3) := by decide +kernel
theorem dX0_choose_34 : decode cX0_choose 34 = .ok (.bipush (-2), 2) := by decide +kernel
theorem dX0_choose_36 : decode cX0_choose 36 = .ok (.ireturn, 1) := by decide +kernel
theorem dX0_choose_37 : decode cX0_choose 37 = .ok (.aload_n 0, 1) := by decide +kernel
theorem dX0_choose_38 : decode cX0_choose 38 = .ok (.getfield 20, 3) := by decide +kernel
theorem dX0_choose_41 : decode cX0_choose 41 = .ok (.iload_n 1, 1) := by decide +kernel
theorem dX0_choose_42 : decode cX0_choose 42 = .ok (.iaload, 1) := by decide +kernel
theorem dX0_choose_43 : decode cX0_choose 43 = .ok (.istore_n 3, 1) := by decide +kernel
theorem dX0_choose_44 : decode cX0_choose 44 = .ok (.aload_n 0, 1) := by decide +kernel
theorem dX0_choose_45 : decode cX0_choose 45 = .ok (.getfield 20, 3) := by decide +kernel
theorem dX0_choose_48 : decode cX0_choose 48 = .ok (.iload_n 1, 1) := by decide +kernel
theorem dX0_choose_49 : decode cX0_choose 49 = .ok (.iload_n 2, 1) := by decide +kernel
theorem dX0_choose_50 : decode cX0_choose 50 = .ok (.iastore, 1) := by decide +kernel
theorem dX0_choose_51 : decode cX0_choose 51 = .ok (.iload_n 3, 1) := by decide +kernel
theorem dX0_choose_52 : decode cX0_choose 52 = .ok (.ireturn, 1) := by decide +kernel
set_option maxRecDepth 20000 in
theorem ggX0_takeBox_X1_canHave : GoodIn wsX0_takeBox wsX1_canHave := goodIn_r _ [7] (by decide +kernel) (by decide +kernel)
set_option maxRecDepth 20000 in
theorem gX0_takeBox_X1_canHave : GoodIn wsX0_takeBox (va_wsS RX0 71 yX1_canHave wsX1_canHave) := goodIn_app (goodIn_of _ (by decide +kernel)) ggX0_takeBox_X1_canHave
set_option maxRecDepth 20000 in
theorem ggX0_takeBox_X1_back : GoodIn wsX0_takeBox wsX1_back := goodIn_r _ [11, 12, 13, 33, 34, 35, 36, 37, 38, 39] (by decide +kernel) (by decide +kernel)
set_option maxRecDepth 20000 in
theorem gX0_takeBox_X1_back : GoodIn wsX0_takeBox (wsV RX0 75 RX1 yX1_back wsX1_back) := goodIn_app (goodIn_of _ (by decide +kernel)) ggX0_takeBox_X1_back
set_option maxRecDepth 20000 in
theorem ggX0_takeBox_X1_begin : GoodIn wsX0_takeBox wsX1_begin := goodIn_r _ [17, 12, 13, 18, 19, 20, 21, 22, 33, 34, 35, 36, 37, 38, 39] (by decide +kernel) (by decide +kernel)
set_option maxRecDepth 20000 in
theorem gX0_takeBox_X1_begin : GoodIn wsX0_takeBox (wsV RX0 79 RX1 yX1_begin wsX1_begin) := goodIn_app (goodIn_of _ (by decide +kernel)) ggX0_takeBox_X1_begin
theorem dX0_takeBox_0 : decode cX0_takeBox 0 = .ok (.iload_n 1, 1) := by decide +kernel
theorem dX0_takeBox_1 : decode cX0_takeBox 1 = .ok (.invokestatic 71, 3) := by decide +kernel
theorem dX0_takeBox_4 : decode cX0_takeBox 4 = .ok (.ifCond .ne 6, 3) := by decide +kernel
theorem dX0_takeBox_7 : decode cX0_takeBox 7 = .ok (.bipush (-2), 2) := by decide +kernel
theorem dX0_takeBox_9 : decode cX0_takeBox 9 = .ok (.ireturn, 1) := by decide +kernel
theorem dX0_takeBox_10 : decode cX0_takeBox 10 = .ok (.aload_n 0, 1) := by decide +kernel
theorem dX0_takeBox_11 : decode cX0_takeBox 11 = .ok (.getfield 51, 3) := by decide +kernel
theorem dX0_takeBox_14 : decode cX0_takeBox 14 = .ok (.bipush 8, 2) := by decide +kernel
theorem dX0_takeBox_16 : decode cX0_takeBox 16 = .ok (.if_icmp .lt 6, 3) := by decide +kernel
theorem dX0_takeBox_19 : decode cX0_takeBox 19 = .ok (.bipush (-4), 2) := by decide +kernel
theorem dX0_takeBox_21 : decode cX0_takeBox 21 = .ok (.ireturn, 1) := by decide +kernel
theorem dX0_takeBox_22 : decode cX0_takeBox 22 = .ok (.aload_n 0, 1) := by decide +kernel
theorem dX0_takeBox_23 : decode cX0_takeBox 23 = .ok (.getfield 51, 3) := by decide +kernel
theorem dX0_takeBox_26 : decode cX0_takeBox 26 = .ok (.ifCond .le 24, 3) := by decide +kernel
theorem dX0_takeBox_29 : decode cX0_takeBox 29 = .ok (.aload_n 0, 1) := by decide +kernel
theorem dX0_takeBox_30 : decode cX0_takeBox 30 = .ok (.getfield 28, 3) := by decide +kernel
theorem dX0_takeBox_33 : decode cX0_takeBox 33 = .ok (.aload_n 0, 1) := by decide +kernel
theorem dX0_takeBox_34 : decode cX0_takeBox 34 = .ok (.getfield 51, 3) := by decide +kernel
theorem dX0_takeBox_37 : decode cX0_takeBox 37 = .ok (.iconst 1, 1) := by decide +kernel
theorem dX0_takeBox_38 : decode cX0_takeBox 38 = .ok (.isub, 1) := by decide +kernel
theorem dX0_takeBox_39 : decode cX0_takeBox 39 = .ok (.aaload, 1) := by decide +kernel
theorem dX0_takeBox_40 : decode cX0_takeBox 40 = .ok (.invokevirtual 75, 3) := by decide +kernel
theorem dX0_takeBox_43 : decode cX0_takeBox 43 = .ok (.iconst 1, 1) := by decide +kernel
theorem dX0_takeBox_44 : decode cX0_takeBox 44 = .ok (.if_icmp .ge 6, 3) := by decide +kernel
theorem dX0_takeBox_47 : decode cX0_takeBox 47 = .ok (.bipush (-5), 2) := by decide +kernel
theorem dX0_takeBox_49 : decode cX0_takeBox 49 = .ok (.ireturn, 1) := by decide +kernel
theorem dX0_takeBox_50 : decode cX0_takeBox 50 = .ok (.aload_n 0, 1) := by decide +kernel
theorem dX0_takeBox_51 : decode cX0_takeBox 51 = .ok (.getfield 28, 3) := by decide +kernel
theorem dX0_takeBox_54 : decode cX0_takeBox 54 = .ok (.aload_n 0, 1) := by decide +kernel
theorem dX0_takeBox_55 : decode cX0_takeBox 55 = .ok (.getfield 51, 3) := by decide +kernel
theorem dX0_takeBox_58 : decode cX0_takeBox 58 = .ok (.aaload, 1) := by decide +kernel
theorem dX0_takeBox_59 : decode cX0_takeBox 59 = .ok (.iload_n 1, 1) := by decide +kernel
theorem dX0_takeBox_60 : decode cX0_takeBox 60 = .ok (.aload_n 0, 1) := by decide +kernel
theorem dX0_takeBox_61 : decode cX0_takeBox 61 = .ok (.getfield 23, 3) := by decide +kernel
theorem dX0_takeBox_64 : decode cX0_takeBox 64 = .ok (.iconst 2, 1) := by decide +kernel
theorem dX0_takeBox_65 : decode cX0_takeBox 65 = .ok (.iaload, 1) := by decide +kernel
theorem dX0_takeBox_66 : decode cX0_takeBox 66 = .ok (.invokevirtual 79, 3) := by decide +kernel
theorem dX0_takeBox_69 : decode cX0_takeBox 69 = .ok (.aload_n 0, 1) := by decide +kernel
theorem dX0_takeBox_70 : decode cX0_takeBox 70 = .ok (.getfield 23, 3) := by decide +kernel
theorem dX0_takeBox_73 : decode cX0_takeBox 73 = .ok (.iconst 2, 1) := by decide +kernel
theorem dX0_takeBox_74 : decode cX0_takeBox 74 = .ok (.dup2, 1) := by decide +kernel
theorem dX0_takeBox_75 : decode cX0_takeBox 75 = .ok (.iaload, 1) := by decide +kernel
theorem dX0_takeBox_76 : decode cX0_takeBox 76 = .ok (.iconst 1, 1) := by decide +kernel
theorem dX0_takeBox_77 : decode cX0_takeBox 77 = .ok (.iadd, 1) := by decide +kernel
theorem dX0_takeBox_78 : decode cX0_takeBox 78 = .ok (.iastore, 1) := by decide +kernel
theorem dX0_takeBox_79 : decode cX0_takeBox 79 = .ok (.aload_n 0, 1) := by decide +kernel
theorem dX0_takeBox_80 : decode cX0_takeBox 80 = .ok (.dup, 1) := by decide +kernel
theorem dX0_takeBox_81 : decode cX0_takeBox 81 = .ok (.getfield 51, 3) := by decide +kernel
theorem dX0_takeBox_84 : decode cX0_takeBox 84 = .ok (.iconst 1, 1) := by decide +kernel
theorem dX0_takeBox_85 : decode cX0_takeBox 85 = .ok (.iadd, 1) := by decide +kernel
theorem dX0_takeBox_86 : decode cX0_takeBox 86 = .ok (.putfield 51, 3) := by decide +kernel
theorem dX0_takeBox_89 : decode cX0_takeBox 89 = .ok (.aload_n 0, 1) := by decide +kernel
theorem dX0_takeBox_90 : decode cX0_takeBox 90 = .ok (.getfield 51, 3) := by decide +kernel
theorem dX0_takeBox_93 : decode cX0_takeBox 93 = .ok (.iconst 1, 1) := by decide +kernel
theorem dX0_takeBox_94 : decode cX0_takeBox 94 = .ok (.isub, 1) := by decide +kernel
theorem dX0_takeBox_95 : decode cX0_takeBox 95 = .ok (.ireturn, 1) := by decide +kernel
set_option maxRecDepth 20000 in
theorem ggX0_turnBox_X0_isBox : GoodIn wsX0_turnBox wsX0_isBox := goodIn_r _ [8, 9, 28, 29, 30, 31, 32, 33, 34, 35, 36, 37] (by decide +kernel) (by decide +kernel)
set_option maxRecDepth 20000 in
theorem gX0_turnBox_X0_isBox : GoodIn wsX0_turnBox (wsV RX0 83 RX0 yX0_isBox wsX0_isBox) := goodIn_app (goodIn_of _ (by decide +kernel)) ggX0_turnBox_X0_isBox
set_option maxRecDepth 20000 in
theorem ggX0_turnBox_X1_canHave : GoodIn wsX0_turnBox wsX1_canHave := goodIn_r _ [13] (by decide +kernel) (by decide +kernel)
set_option maxRecDepth 20000 in
theorem gX0_turnBox_X1_canHave : GoodIn wsX0_turnBox (va_wsS RX0 71 yX1_canHave wsX1_canHave) := goodIn_app (goodIn_of _ (by decide +kernel)) ggX0_turnBox_X1_canHave
set_option maxRecDepth 20000 in
theorem ggX0_turnBox_J9_floorDiv_7cf53 : GoodIn wsX0_turnBox wsJ9_floorDiv_7cf53 := goodIn_r _ [17] (by decide +kernel) (by decide +kernel)
set_option maxRecDepth 20000 in
theorem gX0_turnBox_J9_floorDiv_7cf53 : GoodIn wsX0_turnBox (va_wsS RX0 92 yJ9_floorDiv_7cf53 wsJ9_floorDiv_7cf53) := goodIn_app (goodIn_of _ (by decide +kernel)) ggX0_turnBox_J9_floorDiv_7cf53
set_option maxRecDepth 20000 in
theorem ggX0_turnBox_X0_hasRoom : GoodIn wsX0_turnBox wsX0_hasRoom := goodIn_r _ [21, 1, 9, 2, 22, 23, 24, 12, 25, 26, 27, 28, 29, 30, 31, 32, 33, 34, 35, 36, 37, 38, 39, 40, 41, 42, 43, 44] (by decide +kernel) (by decide +kernel)
set_option maxRecDepth 20000 in
theorem gX0_turnBox_X0_hasRoom : GoodIn wsX0_turnBox (wsV RX0 98 RX0 yX0_hasRoom wsX0_hasRoom) := goodIn_app (goodIn_of _ (by decide +kernel)) ggX0_turnBox_X0_hasRoom
theorem dX0_turnBox_0 : decode cX0_turnBox 0 = .ok (.aload_n 0, 1) := by decide +kernel
theorem dX0_turnBox_1 : decode cX0_turnBox 1 = .ok (.iload_n 1, 1) := by decide +kernel
theorem dX0_turnBox_2 : decode cX0_turnBox 2 = .ok (.invokevirtual 83, 3) := by decide +kernel
theorem dX0_turnBox_5 : decode cX0_turnBox 5 = .ok (.ifCond .ne 5, 3) := by decide +kernel
theorem dX0_turnBox_8 : decode cX0_turnBox 8 = .ok (.iconst (-1), 1) := by decide +kernel
theorem dX0_turnBox_9 : decode cX0_turnBox 9 = .ok (.ireturn, 1) := by decide +kernel
theorem dX0_turnBox_10 : decode cX0_turnBox 10 = .ok (.iload_n 2, 1) := by decide +kernel
theorem dX0_turnBox_11 : decode cX0_turnBox 11 = .ok (.invokestatic 71, 3) := by decide +kernel
theorem dX0_turnBox_14 : decode cX0_turnBox 14 = .ok (.ifCond .ne 6, 3) := by decide +kernel
theorem dX0_turnBox_17 : decode cX0_turnBox 17 = .ok (.bipush (-2), 2) := by decide +kernel
theorem dX0_turnBox_19 : decode cX0_turnBox 19 = .ok (.ireturn, 1) := by decide +kernel
theorem dX0_turnBox_20 : decode cX0_turnBox 20 = .ok (.aload_n 0, 1) := by decide +kernel
theorem dX0_turnBox_21 : decode cX0_turnBox 21 = .ok (.getfield 28, 3) := by decide +kernel
theorem dX0_turnBox_24 : decode cX0_turnBox 24 = .ok (.iload_n 1, 1) := by decide +kernel
theorem dX0_turnBox_25 : decode cX0_turnBox 25 = .ok (.aaload, 1) := by decide +kernel
theorem dX0_turnBox_26 : decode cX0_turnBox 26 = .ok (.astore_n 3, 1) := by decide +kernel
theorem dX0_turnBox_27 : decode cX0_turnBox 27 = .ok (.aload_n 3, 1) := by decide +kernel
theorem dX0_turnBox_28 : decode cX0_turnBox 28 = .ok (.getfield 86, 3) := by decide +kernel
theorem dX0_turnBox_31 : decode cX0_turnBox 31 = .ok (.iload_n 2, 1) := by decide +kernel
theorem dX0_turnBox_32 : decode cX0_turnBox 32 = .ok (.aload_n 3, 1) := by decide +kernel
theorem dX0_turnBox_33 : decode cX0_turnBox 33 = .ok (.getfield 89, 3) := by decide +kernel
theorem dX0_turnBox_36 : decode cX0_turnBox 36 = .ok (.isub, 1) := by decide +kernel
theorem dX0_turnBox_37 : decode cX0_turnBox 37 = .ok (.iconst 2, 1) := by decide +kernel
theorem dX0_turnBox_38 : decode cX0_turnBox 38 = .ok (.invokestatic 92, 3) := by decide +kernel
theorem dX0_turnBox_41 : decode cX0_turnBox 41 = .ok (.iadd, 1) := by decide +kernel
theorem dX0_turnBox_42 : decode cX0_turnBox 42 = .ok (.istore 4, 2) := by decide +kernel
theorem dX0_turnBox_44 : decode cX0_turnBox 44 = .ok (.aload_n 0, 1) := by decide +kernel
theorem dX0_turnBox_45 : decode cX0_turnBox 45 = .ok (.iload_n 1, 1) := by decide +kernel
theorem dX0_turnBox_46 : decode cX0_turnBox 46 = .ok (.iload 4, 2) := by decide +kernel
theorem dX0_turnBox_48 : decode cX0_turnBox 48 = .ok (.iload 4, 2) := by decide +kernel
theorem dX0_turnBox_50 : decode cX0_turnBox 50 = .ok (.iload_n 2, 1) := by decide +kernel
theorem dX0_turnBox_51 : decode cX0_turnBox 51 = .ok (.isub, 1) := by decide +kernel
theorem dX0_turnBox_52 : decode cX0_turnBox 52 = .ok (.invokevirtual 98, 3) := by decide +kernel
theorem dX0_turnBox_55 : decode cX0_turnBox 55 = .ok (.ifCond .ne 6, 3) := by decide +kernel
theorem dX0_turnBox_58 : decode cX0_turnBox 58 = .ok (.bipush (-5), 2) := by decide +kernel
theorem dX0_turnBox_60 : decode cX0_turnBox 60 = .ok (.ireturn, 1) := by decide +kernel
theorem dX0_turnBox_61 : decode cX0_turnBox 61 = .ok (.aload_n 3, 1) := by decide +kernel
theorem dX0_turnBox_62 : decode cX0_turnBox 62 = .ok (.iload 4, 2) := by decide +kernel
theorem dX0_turnBox_64 : decode cX0_turnBox 64 = .ok (.putfield 86, 3) := by decide +kernel
theorem dX0_turnBox_67 : decode cX0_turnBox 67 = .ok (.aload_n 3, 1) := by decide +kernel
theorem dX0_turnBox_68 : decode cX0_turnBox 68 = .ok (.iload_n 2, 1) := by decide +kernel
theorem dX0_turnBox_69 : decode cX0_turnBox 69 = .ok (.putfield 89, 3) := by decide +kernel
theorem dX0_turnBox_72 : decode cX0_turnBox 72 = .ok (.iload 4, 2) := by decide +kernel
theorem dX0_turnBox_74 : decode cX0_turnBox 74 = .ok (.sipush 1000, 3) := by decide +kernel
theorem dX0_turnBox_77 : decode cX0_turnBox 77 = .ok (.iadd, 1) := by decide +kernel
theorem dX0_turnBox_78 : decode cX0_turnBox 78 = .ok (.ireturn, 1) := by decide +kernel
set_option maxRecDepth 20000 in
theorem ggX0_hasRoom_X1_back : GoodIn wsX0_hasRoom wsX1_back := goodIn_r _ [8, 9, 10, 21, 22, 23, 24, 25, 26, 27] (by decide +kernel) (by decide +kernel)
set_option maxRecDepth 20000 in
theorem gX0_hasRoom_X1_back : GoodIn wsX0_hasRoom (wsV RX0 75 RX1 yX1_back wsX1_back) := goodIn_app (goodIn_of _ (by decide +kernel)) ggX0_hasRoom_X1_back
theorem dX0_hasRoom_0 : decode cX0_hasRoom 0 = .ok (.iload_n 1, 1) := by decide +kernel
theorem dX0_hasRoom_1 : decode cX0_hasRoom 1 = .ok (.ifCond .le 22, 3) := by decide +kernel
theorem dX0_hasRoom_4 : decode cX0_hasRoom 4 = .ok (.aload_n 0, 1) := by decide +kernel
theorem dX0_hasRoom_5 : decode cX0_hasRoom 5 = .ok (.getfield 28, 3) := by decide +kernel
theorem dX0_hasRoom_8 : decode cX0_hasRoom 8 = .ok (.iload_n 1, 1) := by decide +kernel
theorem dX0_hasRoom_9 : decode cX0_hasRoom 9 = .ok (.iconst 1, 1) := by decide +kernel
theorem dX0_hasRoom_10 : decode cX0_hasRoom 10 = .ok (.isub, 1) := by decide +kernel
theorem dX0_hasRoom_11 : decode cX0_hasRoom 11 = .ok (.aaload, 1) := by decide +kernel
theorem dX0_hasRoom_12 : decode cX0_hasRoom 12 = .ok (.invokevirtual 75, 3) := by decide +kernel
theorem dX0_hasRoom_15 : decode cX0_hasRoom 15 = .ok (.iload_n 2, 1) := by decide +kernel
theorem dX0_hasRoom_16 : decode cX0_hasRoom 16 = .ok (.isub, 1) := by decide +kernel
theorem dX0_hasRoom_17 : decode cX0_hasRoom 17 = .ok (.iconst 1, 1) := by decide +kernel
theorem dX0_hasRoom_18 : decode cX0_hasRoom 18 = .ok (.if_icmp .ge 5, 3) := by decide +kernel
theorem dX0_hasRoom_21 : decode cX0_hasRoom 21 = .ok (.iconst 0, 1) := by decide +kernel
theorem dX0_hasRoom_22 : decode cX0_hasRoom 22 = .ok (.ireturn, 1) := by decide +kernel
theorem dX0_hasRoom_23 : decode cX0_hasRoom 23 = .ok (.iload_n 1, 1) := by decide +kernel
theorem dX0_hasRoom_24 : decode cX0_hasRoom 24 = .ok (.iconst 1, 1) := by decide +kernel
theorem dX0_hasRoom_25 : decode cX0_hasRoom 25 = .ok (.iadd, 1) := by decide +kernel
theorem dX0_hasRoom_26 : decode cX0_hasRoom 26 = .ok (.aload_n 0, 1) := by decide +kernel
theorem dX0_hasRoom_27 : decode cX0_hasRoom 27 = .ok (.getfield 51, 3) := by decide +kernel
theorem dX0_hasRoom_30 : decode cX0_hasRoom 30 = .ok (.if_icmp .ge 20, 3) := by decide +kernel
theorem dX0_hasRoom_33 : decode cX0_hasRoom 33 = .ok (.iload_n 3, 1) := by decide +kernel
theorem dX0_hasRoom_34 : decode cX0_hasRoom 34 = .ok (.aload_n 0, 1) := by decide +kernel
theorem dX0_hasRoom_35 : decode cX0_hasRoom 35 = .ok (.getfield 28, 3) := by decide +kernel
theorem dX0_hasRoom_38 : decode cX0_hasRoom 38 = .ok (.iload_n 1, 1) := by decide +kernel
theorem dX0_hasRoom_39 : decode cX0_hasRoom 39 = .ok (.iconst 1, 1) := by decide +kernel
theorem dX0_hasRoom_40 : decode cX0_hasRoom 40 = .ok (.iadd, 1) := by decide +kernel
theorem dX0_hasRoom_41 : decode cX0_hasRoom 41 = .ok (.aaload, 1) := by decide +kernel
theorem dX0_hasRoom_42 : decode cX0_hasRoom 42 = .ok (.getfield 86, 3) := by decide +kernel
theorem dX0_hasRoom_45 : decode cX0_hasRoom 45 = .ok (.isub, 1) := by decide +kernel
theorem dX0_hasRoom_46 : decode cX0_hasRoom 46 = .ok (.iconst 1, 1) := by decide +kernel
theorem dX0_hasRoom_47 : decode cX0_hasRoom 47 = .ok (.if_icmp .lt 7, 3) := by decide +kernel
theorem dX0_hasRoom_50 : decode cX0_hasRoom 50 = .ok (.iconst 1, 1) := by decide +kernel
theorem dX0_hasRoom_51 : decode cX0_hasRoom 51 = .ok (.goto 4, 3) := by decide +kernel
theorem dX0_hasRoom_54 : decode cX0_hasRoom 54 = .ok (.iconst 0, 1) := by decide +kernel
theorem dX0_hasRoom_55 : decode cX0_hasRoom 55 = .ok (.ireturn, 1) := by decide +kernel
set_option maxRecDepth 20000 in
theorem ggX0_letPass_X0_howManyLeft : GoodIn wsX0_letPass wsX0_howManyLeft := goodIn_r _ [6, 1, 95, 96, 97, 98, 99, 100, 101, 102, 103, 104] (by decide +kernel) (by decide +kernel)
set_option maxRecDepth 20000 in
theorem gX0_letPass_X0_howManyLeft : GoodIn wsX0_letPass (wsV RX0 102 RX0 yX0_howManyLeft wsX0_howManyLeft) := goodIn_app (goodIn_of _ (by decide +kernel)) ggX0_letPass_X0_howManyLeft
set_option maxRecDepth 20000 in
theorem ggX0_letPass_X0_tickOn : GoodIn wsX0_letPass wsX0_tickOn := goodIn_r _ [10, 1, 11, 12, 13, 5, 14, 15, 16, 17, 18, 19, 20, 21, 22, 23, 24, 25, 26, 27, 28, 29, 30, 31, 32, 33, 34, 35, 36, 37, 38, 39, 40, 41, 42, 43, 44, 45, 46, 47, 48, 49, 50, 51, 52, 53, 54, 55, 56, 57, 58, 59, 60, 61, 62, 63, 64, 65, 66, 67, 68, 69, 70, 71, 72, 73, 74, 75, 76, 77, 78, 79, 80, 81, 82, 83, 84, 85, 86, 87, 88, 89, 90, 91, 92, 93, 94, 95, 96, 97, 98, 99, 100, 101, 102, 103, 104, 105, 106, 107, 108, 109, 110, 111] (by decide +kernel) (by decide +kernel)
set_option maxRecDepth 20000 in
theorem gX0_letPass_X0_tickOn : GoodIn wsX0_letPass (wsV RX0 105 RX0 yX0_tickOn wsX0_tickOn) := goodIn_app (goodIn_of _ (by decide +kernel)) ggX0_letPass_X0_tickOn
theorem dX0_letPass_0 : decode cX0_letPass 0 = .ok (.iload_n 1, 1) := by decide +kernel
theorem dX0_letPass_1 : decode cX0_letPass 1 = .ok (.iconst 1, 1) := by decide +kernel
theorem dX0_letPass_2 : decode cX0_letPass 2 = .ok (.if_icmp .lt 9, 3) := by decide +kernel
theorem dX0_letPass_5 : decode cX0_letPass 5 = .ok (.iload_n 1, 1) := by decide +kernel
theorem dX0_letPass_6 : decode cX0_letPass 6 = .ok (.bipush 99, 2) := by decide +kernel
theorem dX0_letPass_8 : decode cX0_letPass 8 = .ok (.if_icmp .le 6, 3) := by decide +kernel
theorem dX0_letPass_11 : decode cX0_letPass 11 = .ok (.bipush (-2), 2) := by decide +kernel
theorem dX0_letPass_13 : decode cX0_letPass 13 = .ok (.ireturn, 1) := by decide +kernel
theorem dX0_letPass_14 : decode cX0_letPass 14 = .ok (.aload_n 0, 1) := by decide +kernel
theorem dX0_letPass_15 : decode cX0_letPass 15 = .ok (.getfield 23, 3) := by decide +kernel
theorem dX0_letPass_18 : decode cX0_letPass 18 = .ok (.iconst 0, 1) := by decide +kernel
theorem dX0_letPass_19 : decode cX0_letPass 19 = .ok (.iaload, 1) := by decide +kernel
theorem dX0_letPass_20 : decode cX0_letPass 20 = .ok (.iload_n 1, 1) := by decide +kernel
theorem dX0_letPass_21 : decode cX0_letPass 21 = .ok (.iadd, 1) := by decide +kernel
theorem dX0_letPass_22 : decode cX0_letPass 22 = .ok (.sipush 20000, 3) := by decide +kernel
theorem dX0_letPass_25 : decode cX0_letPass 25 = .ok (.if_icmp .le 6, 3) := by decide +kernel
theorem dX0_letPass_28 : decode cX0_letPass 28 = .ok (.bipush (-4), 2) := by decide +kernel
theorem dX0_letPass_30 : decode cX0_letPass 30 = .ok (.ireturn, 1) := by decide +kernel
theorem dX0_letPass_31 : decode cX0_letPass 31 = .ok (.aload_n 0, 1) := by decide +kernel
theorem dX0_letPass_32 : decode cX0_letPass 32 = .ok (.invokevirtual 102, 3) := by decide +kernel
theorem dX0_letPass_35 : decode cX0_letPass 35 = .ok (.istore_n 2, 1) := by decide +kernel
theorem dX0_letPass_36 : decode cX0_letPass 36 = .ok (.aload_n 0, 1) := by decide +kernel
theorem dX0_letPass_37 : decode cX0_letPass 37 = .ok (.iload_n 1, 1) := by decide +kernel
theorem dX0_letPass_38 : decode cX0_letPass 38 = .ok (.invokevirtual 105, 3) := by decide +kernel
theorem dX0_letPass_41 : decode cX0_letPass 41 = .ok (.aload_n 0, 1) := by decide +kernel
theorem dX0_letPass_42 : decode cX0_letPass 42 = .ok (.invokevirtual 102, 3) := by decide +kernel
theorem dX0_letPass_45 : decode cX0_letPass 45 = .ok (.iload_n 2, 1) := by decide +kernel
theorem dX0_letPass_46 : decode cX0_letPass 46 = .ok (.isub, 1) := by decide +kernel
theorem dX0_letPass_47 : decode cX0_letPass 47 = .ok (.ireturn, 1) := by decide +kernel
theorem dX0_howManyLeft_0 : decode cX0_howManyLeft 0 = .ok (.aload_n 0, 1) := by decide +kernel
theorem dX0_howManyLeft_1 : decode cX0_howManyLeft 1 = .ok (.getfield 23, 3) := by decide +kernel
theorem dX0_howManyLeft_4 : decode cX0_howManyLeft 4 = .ok (.iconst 3, 1) := by decide +kernel
theorem dX0_howManyLeft_5 : decode cX0_howManyLeft 5 = .ok (.iaload, 1) := by decide +kernel
theorem dX0_howManyLeft_6 : decode cX0_howManyLeft 6 = .ok (.aload_n 0, 1) := by decide +kernel
theorem dX0_howManyLeft_7 : decode cX0_howManyLeft 7 = .ok (.getfield 23, 3) := by decide +kernel
theorem dX0_howManyLeft_10 : decode cX0_howManyLeft 10 = .ok (.iconst 4, 1) := by decide +kernel
theorem dX0_howManyLeft_11 : decode cX0_howManyLeft 11 = .ok (.iaload, 1) := by decide +kernel
theorem dX0_howManyLeft_12 : decode cX0_howManyLeft 12 = .ok (.iadd, 1) := by decide +kernel
theorem dX0_howManyLeft_13 : decode cX0_howManyLeft 13 = .ok (.aload_n 0, 1) := by decide +kernel
theorem dX0_howManyLeft_14 : decode cX0_howManyLeft 14 = .ok (.getfield 23, 3) := by decide +kernel
theorem dX0_howManyLeft_17 : decode cX0_howManyLeft 17 = .ok (.iconst 5, 1) := by decide +kernel
theorem dX0_howManyLeft_18 : decode cX0_howManyLeft 18 = .ok (.iaload, 1) := by decide +kernel
theorem dX0_howManyLeft_19 : decode cX0_howManyLeft 19 = .ok (.iadd, 1) := by decide +kernel
theorem dX0_howManyLeft_20 : decode cX0_howManyLeft 20 = .ok (.ireturn, 1) := by decide +kernel
theorem dX0_isBox_0 : decode cX0_isBox 0 = .ok (.iload_n 1, 1) := by decide +kernel
theorem dX0_isBox_1 : decode cX0_isBox 1 = .ok (.ifCond .lt 15, 3) := by decide +kernel
theorem dX0_isBox_4 : decode cX0_isBox 4 = .ok (.iload_n 1, 1) := by decide +kernel
theorem dX0_isBox_5 : decode cX0_isBox 5 = .ok (.aload_n 0, 1) := by decide +kernel
theorem dX0_isBox_6 : decode cX0_isBox 6 = .ok (.getfield 51, 3) := by decide +kernel
theorem dX0_isBox_9 : decode cX0_isBox 9 = .ok (.if_icmp .ge 7, 3) := by decide +kernel
theorem dX0_isBox_12 : decode cX0_isBox 12 = .ok (.iconst 1, 1) := by decide +kernel
theorem dX0_isBox_13 : decode cX0_isBox 13 = .ok (.goto 4, 3) := by decide +kernel
theorem dX0_isBox_16 : decode cX0_isBox 16 = .ok (.iconst 0, 1) := by decide +kernel
theorem dX0_isBox_17 : decode cX0_isBox 17 = .ok (.ireturn, 1) := by decide +kernel
set_option maxRecDepth 20000 in
theorem ggX0_aboutBox_X0_isBox : GoodIn wsX0_aboutBox wsX0_isBox := goodIn_r _ [6, 7, 20, 21, 22, 23, 24, 25, 26, 27, 28, 29] (by decide +kernel) (by decide +kernel)
set_option maxRecDepth 20000 in
theorem gX0_aboutBox_X0_isBox : GoodIn wsX0_aboutBox (wsV RX0 83 RX0 yX0_isBox wsX0_isBox) := goodIn_app (goodIn_of _ (by decide +kernel)) ggX0_aboutBox_X0_isBox
set_option maxRecDepth 20000 in
theorem ggX0_aboutBox_X1_tell : GoodIn wsX0_aboutBox wsX1_tell := goodIn_r _ [12, 13, 14, 15, 16, 17, 18, 19, 30, 31, 32, 33, 34, 35, 36] (by decide +kernel) (by decide +kernel)
set_option maxRecDepth 20000 in
theorem gX0_aboutBox_X1_tell : GoodIn wsX0_aboutBox (wsV RX0 109 RX1 yX1_tell wsX1_tell) := goodIn_app (goodIn_of _ (by decide +kernel)) ggX0_aboutBox_X1_tell
theorem dX0_aboutBox_0 : decode cX0_aboutBox 0 = .ok (.aload_n 0, 1) := by decide +kernel
theorem dX0_aboutBox_1 : decode cX0_aboutBox 1 = .ok (.iload_n 1, 1) := by decide +kernel
theorem dX0_aboutBox_2 : decode cX0_aboutBox 2 = .ok (.invokevirtual 83, 3) := by decide +kernel
theorem dX0_aboutBox_5 : decode cX0_aboutBox 5 = .ok (.ifCond .eq 16, 3) := by decide +kernel
theorem dX0_aboutBox_8 : decode cX0_aboutBox 8 = .ok (.aload_n 0, 1) := by decide +kernel
theorem dX0_aboutBox_9 : decode cX0_aboutBox 9 = .ok (.getfield 28, 3) := by decide +kernel
theorem dX0_aboutBox_12 : decode cX0_aboutBox 12 = .ok (.iload_n 1, 1) := by decide +kernel
theorem dX0_aboutBox_13 : decode cX0_aboutBox 13 = .ok (.aaload, 1) := by decide +kernel
theorem dX0_aboutBox_14 : decode cX0_aboutBox 14 = .ok (.iload_n 2, 1) := by decide +kernel
theorem dX0_aboutBox_15 : decode cX0_aboutBox 15 = .ok (.invokevirtual 109, 3) := by decide +kernel
theorem dX0_aboutBox_18 : decode cX0_aboutBox 18 = .ok (.goto 4, 3) := by decide +kernel
theorem dX0_aboutBox_21 : decode cX0_aboutBox 21 = .ok (.iconst (-1), 1) := by decide +kernel
theorem dX0_aboutBox_22 : decode cX0_aboutBox 22 = .ok (.ireturn, 1) := by decide +kernel
theorem dX0_planAt_0 : decode cX0_planAt 0 = .ok (.iload_n 1, 1) := by decide +kernel
theorem dX0_planAt_1 : decode cX0_planAt 1 = .ok (.ifCond .lt 24, 3) := by decide +kernel
theorem dX0_planAt_4 : decode cX0_planAt 4 = .ok (.iload_n 1, 1) := by decide +kernel
theorem dX0_planAt_5 : decode cX0_planAt 5 = .ok (.aload_n 0, 1) := by decide +kernel
theorem dX0_planAt_6 : decode cX0_planAt 6 = .ok (.getfield 62, 3) := by decide +kernel
theorem dX0_planAt_9 : decode cX0_planAt 9 = .ok (.if_icmp .ge 16, 3) := by decide +kernel
theorem dX0_planAt_12 : decode cX0_planAt 12 = .ok (.aload_n 0, 1) := by decide +kernel
theorem dX0_planAt_13 : decode cX0_planAt 13 = .ok (.getfield 38, 3) := by decide +kernel
theorem dX0_planAt_16 : decode cX0_planAt 16 = .ok (.iload_n 1, 1) := by decide +kernel
theorem dX0_planAt_17 : decode cX0_planAt 17 = .ok (.iaload, 1) := by decide +kernel
theorem dX0_planAt_18 : decode cX0_planAt 18 = .ok (.sipush 1000, 3) := by decide +kernel
theorem dX0_planAt_21 : decode cX0_planAt 21 = .ok (.iadd, 1) := by decide +kernel
theorem dX0_planAt_22 : decode cX0_planAt 22 = .ok (.goto 4, 3) := by decide +kernel
theorem dX0_planAt_25 : decode cX0_planAt 25 = .ok (.iconst (-1), 1) := by decide +kernel
theorem dX0_planAt_26 : decode cX0_planAt 26 = .ok (.ireturn, 1) := by decide +kernel
theorem dX0_aboutReport_0 : decode cX0_aboutReport 0 = .ok (.iload_n 1, 1) := by decide +kernel
theorem dX0_aboutReport_1 : decode cX0_aboutReport 1 = .ok (.ifCond .lt 11, 3) := by decide +kernel
theorem dX0_aboutReport_4 : decode cX0_aboutReport 4 = .ok (.iload_n 1, 1) := by decide +kernel
theorem dX0_aboutReport_5 : decode cX0_aboutReport 5 = .ok (.aload_n 0, 1) := by decide +kernel
theorem dX0_aboutReport_6 : decode cX0_aboutReport 6 = .ok (.getfield 59, 3) := by decide +kernel
theorem dX0_aboutReport_9 : decode cX0_aboutReport 9 = .ok (.if_icmp .lt 5, 3) := by decide +kernel
theorem dX0_aboutReport_12 : decode cX0_aboutReport 12 = .ok (.iconst (-1), 1) := by decide +kernel
theorem dX0_aboutReport_13 : decode cX0_aboutReport 13 = .ok (.ireturn, 1) := by decide +kernel
theorem dX0_aboutReport_14 : decode cX0_aboutReport 14 = .ok (.iload_n 2, 1) := by decide +kernel
theorem dX0_aboutReport_15 : decode cX0_aboutReport 15 = .ok (.ifCond .ne 19, 3) := by decide +kernel
theorem dX0_aboutReport_18 : decode cX0_aboutReport 18 = .ok (.aload_n 0, 1) := by decide +kernel
theorem dX0_aboutReport_19 : decode cX0_aboutReport 19 = .ok (.getfield 32, 3) := by decide +kernel
theorem dX0_aboutReport_22 : decode cX0_aboutReport 22 = .ok (.iload_n 1, 1) := by decide +kernel
theorem dX0_aboutReport_23 : decode cX0_aboutReport 23 = .ok (.iaload, 1) := by decide +kernel
theorem dX0_aboutReport_24 : decode cX0_aboutReport 24 = .ok (.aload_n 0, 1) := by decide +kernel
theorem dX0_aboutReport_25 : decode cX0_aboutReport 25 = .ok (.getfield 23, 3) := by decide +kernel
theorem dX0_aboutReport_28 : decode cX0_aboutReport 28 = .ok (.iconst 0, 1) := by decide +kernel
theorem dX0_aboutReport_29 : decode cX0_aboutReport 29 = .ok (.iaload, 1) := by decide +kernel
theorem dX0_aboutReport_30 : decode cX0_aboutReport 30 = .ok (.isub, 1) := by decide +kernel
theorem dX0_aboutReport_31 : decode cX0_aboutReport 31 = .ok (.iconst 1, 1) := by decide +kernel
theorem dX0_aboutReport_32 : decode cX0_aboutReport 32 = .ok (.iadd, 1) := by decide +kernel
theorem dX0_aboutReport_33 : decode cX0_aboutReport 33 = .ok (.ireturn, 1) := by decide +kernel
theorem dX0_aboutReport_34 : decode cX0_aboutReport 34 = .ok (.iload_n 2, 1) := by decide +kernel
theorem dX0_aboutReport_35 : decode cX0_aboutReport 35 = .ok (.iconst 1, 1) := by decide +kernel
theorem dX0_aboutReport_36 : decode cX0_aboutReport 36 = .ok (.if_icmp .ne 12, 3) := by decide +kernel
theorem dX0_aboutReport_39 : decode cX0_aboutReport 39 = .ok (.aload_n 0, 1) := by decide +kernel
theorem dX0_aboutReport_40 : decode cX0_aboutReport 40 = .ok (.getfield 35, 3) := by decide +kernel
theorem dX0_aboutReport_43 : decode cX0_aboutReport 43 = .ok (.iload_n 1, 1) := by decide +kernel
theorem dX0_aboutReport_44 : decode cX0_aboutReport 44 = .ok (.iaload, 1) := by decide +kernel
theorem dX0_aboutReport_45 : decode cX0_aboutReport 45 = .ok (.goto 5, 3) := by decide +kernel
theorem dX0_aboutReport_48 : decode cX0_aboutReport 48 = .ok (.bipush (-2), 2) := by decide +kernel
theorem dX0_aboutReport_50 : decode cX0_aboutReport 50 = .ok (.ireturn, 1) := by decide +kernel
theorem dX0_number_0 : decode cX0_number 0 = .ok (.iload_n 1, 1) := by decide +kernel
theorem dX0_number_1 : decode cX0_number 1 = .ok (.lookupswitch 50 #[(1, 35), (11, 40), (12, 45)], 35) := by decide +kernel
theorem dX0_number_36 : decode cX0_number 36 = .ok (.aload_n 0, 1) := by decide +kernel
theorem dX0_number_37 : decode cX0_number 37 = .ok (.getfield 51, 3) := by decide +kernel
theorem dX0_number_40 : decode cX0_number 40 = .ok (.ireturn, 1) := by decide +kernel
theorem dX0_number_41 : decode cX0_number 41 = .ok (.aload_n 0, 1) := by decide +kernel
theorem dX0_number_42 : decode cX0_number 42 = .ok (.getfield 59, 3) := by decide +kernel
theorem dX0_number_45 : decode cX0_number 45 = .ok (.ireturn, 1) := by decide +kernel
theorem dX0_number_46 : decode cX0_number 46 = .ok (.aload_n 0, 1) := by decide +kernel
theorem dX0_number_47 : decode cX0_number 47 = .ok (.getfield 62, 3) := by decide +kernel
theorem dX0_number_50 : decode cX0_number 50 = .ok (.ireturn, 1) := by decide +kernel
theorem dX0_number_51 : decode cX0_number 51 = .ok (.iload_n 1, 1) := by decide +kernel
theorem dX0_number_52 : decode cX0_number 52 = .ok (.ifCond .lt 19, 3) := by decide +kernel
theorem dX0_number_55 : decode cX0_number 55 = .ok (.iload_n 1, 1) := by decide +kernel
theorem dX0_number_56 : decode cX0_number 56 = .ok (.aload_n 0, 1) := by decide +kernel
theorem dX0_number_57 : decode cX0_number 57 = .ok (.getfield 23, 3) := by decide +kernel
theorem dX0_number_60 : decode cX0_number 60 = .ok (.arraylength, 1) := by decide +kernel
theorem dX0_number_61 : decode cX0_number 61 = .ok (.if_icmp .ge 10, 3) := by decide +kernel
theorem dX0_number_64 : decode cX0_number 64 = .ok (.aload_n 0, 1) := by decide +kernel
theorem dX0_number_65 : decode cX0_number 65 = .ok (.getfield 23, 3) := by decide +kernel
theorem dX0_number_68 : decode cX0_number 68 = .ok (.iload_n 1, 1) := by decide +kernel
theorem dX0_number_69 : decode cX0_number 69 = .ok (.iaload, 1) := by decide +kernel
theorem dX0_number_70 : decode cX0_number 70 = .ok (.ireturn, 1) := by decide +kernel
theorem dX0_number_71 : decode cX0_number 71 = .ok (.iload_n 1, 1) := by decide +kernel
theorem dX0_number_72 : decode cX0_number 72 = .ok (.bipush 14, 2) := by decide +kernel
theorem dX0_number_74 : decode cX0_number 74 = .ok (.isub, 1) := by decide +kernel
theorem dX0_number_75 : decode cX0_number 75 = .ok (.istore_n 2, 1) := by decide +kernel
theorem dX0_number_76 : decode cX0_number 76 = .ok (.iload_n 2, 1) := by decide +kernel
theorem dX0_number_77 : decode cX0_number 77 = .ok (.ifCond .lt 21, 3) := by decide +kernel
theorem dX0_number_80 : decode cX0_number 80 = .ok (.iload_n 2, 1) := by decide +kernel
theorem dX0_number_81 : decode cX0_number 81 = .ok (.aload_n 0, 1) := by decide +kernel
theorem dX0_number_82 : decode cX0_number 82 = .ok (.getfield 20, 3) := by decide +kernel
theorem dX0_number_85 : decode cX0_number 85 = .ok (.arraylength, 1) := by decide +kernel
theorem dX0_number_86 : decode cX0_number 86 = .ok (.if_icmp .ge 12, 3) := by decide +kernel
theorem dX0_number_89 : decode cX0_number 89 = .ok (.aload_n 0, 1) := by decide +kernel
theorem dX0_number_90 : decode cX0_number 90 = .ok (.getfield 20, 3) := by decide +kernel
theorem dX0_number_93 : decode cX0_number 93 = .ok (.iload_n 2, 1) := by decide +kernel
theorem dX0_number_94 : decode cX0_number 94 = .ok (.iaload, 1) := by decide +kernel
theorem dX0_number_95 : decode cX0_number 95 = .ok (.goto 5, 3) := by decide +kernel
theorem dX0_number_98 : decode cX0_number 98 = .ok (.bipush (-2), 2) := by decide +kernel
theorem dX0_number_100 : decode cX0_number 100 = .ok (.ireturn, 1) := by decide +kernel
set_option maxRecDepth 20000 in
theorem ggX0_tickOn_X0_moveOn : GoodIn wsX0_tickOn wsX0_moveOn := goodIn_r _ [6, 7, 8, 9, 10, 1, 11, 87, 88, 89, 90, 91, 92, 93, 94, 95, 96, 97, 98, 99, 100, 101, 102, 103] (by decide +kernel) (by decide +kernel)
set_option maxRecDepth 20000 in
theorem gX0_tickOn_X0_moveOn : GoodIn wsX0_tickOn (wsV RX0 113 RX0 yX0_moveOn wsX0_moveOn) := goodIn_app (goodIn_of _ (by decide +kernel)) ggX0_tickOn_X0_moveOn
set_option maxRecDepth 20000 in
theorem ggX0_tickOn_X0_seeBoxes : GoodIn wsX0_tickOn wsX0_seeBoxes := goodIn_r _ [15, 8, 9, 16, 10, 17, 18, 19, 5, 20, 21, 22, 1, 7, 23, 87, 88, 89, 90, 91, 92, 93, 94, 95, 96, 97, 98, 99, 100, 101, 102, 103] (by decide +kernel) (by decide +kernel)
set_option maxRecDepth 20000 in
theorem gX0_tickOn_X0_seeBoxes : GoodIn wsX0_tickOn (wsV RX0 116 RX0 yX0_seeBoxes wsX0_seeBoxes) := goodIn_app (goodIn_of _ (by decide +kernel)) ggX0_tickOn_X0_seeBoxes
set_option maxRecDepth 20000 in
theorem ggX0_tickOn_X0_countPlansDown : GoodIn wsX0_tickOn wsX0_countPlansDown := goodIn_r _ [27, 28, 29, 7, 87, 88, 89, 90, 91, 92, 93, 94, 95, 96] (by decide +kernel) (by decide +kernel)
set_option maxRecDepth 20000 in
theorem gX0_tickOn_X0_countPlansDown : GoodIn wsX0_tickOn (wsV RX0 119 RX0 yX0_countPlansDown wsX0_countPlansDown) := goodIn_app (goodIn_of _ (by decide +kernel)) ggX0_tickOn_X0_countPlansDown
set_option maxRecDepth 20000 in
theorem ggX0_tickOn_X0_takeReports : GoodIn wsX0_tickOn wsX0_takeReports := goodIn_r _ [33, 21, 22, 1, 23, 34, 35, 36, 5, 37, 28, 29, 7, 38, 39, 40, 41, 11, 87, 88, 89, 90, 91, 92, 93, 94, 95, 96] (by decide +kernel) (by decide +kernel)
set_option maxRecDepth 20000 in
theorem gX0_tickOn_X0_takeReports : GoodIn wsX0_tickOn (wsV RX0 122 RX0 yX0_takeReports wsX0_takeReports) := goodIn_app (goodIn_of _ (by decide +kernel)) ggX0_tickOn_X0_takeReports
set_option maxRecDepth 20000 in
theorem ggX0_tickOn_X0_doPlans : GoodIn wsX0_tickOn wsX0_doPlans := goodIn_r _ [45, 28, 29, 46, 47, 48, 5, 49, 1, 7, 8, 9, 50, 51, 52, 53, 54, 55, 56, 57, 58, 59, 60, 61, 62, 10, 63, 87, 88, 89, 90, 91, 92, 93, 94, 95, 96, 97, 98, 99, 100, 101, 102, 103] (by decide +kernel) (by decide +kernel)
set_option maxRecDepth 20000 in
theorem gX0_tickOn_X0_doPlans : GoodIn wsX0_tickOn (wsV RX0 125 RX0 yX0_doPlans wsX0_doPlans) := goodIn_app (goodIn_of _ (by decide +kernel)) ggX0_tickOn_X0_doPlans
set_option maxRecDepth 20000 in
theorem ggX0_tickOn_X0_feed : GoodIn wsX0_tickOn wsX0_feed := goodIn_r _ [67, 1, 7, 68, 69, 70, 71, 87, 88, 89, 90, 91, 92, 93, 94, 95, 96] (by decide +kernel) (by decide +kernel)
set_option maxRecDepth 20000 in
theorem gX0_tickOn_X0_feed : GoodIn wsX0_tickOn (wsV RX0 128 RX0 yX0_feed wsX0_feed) := goodIn_app (goodIn_of _ (by decide +kernel)) ggX0_tickOn_X0_feed
set_option maxRecDepth 20000 in
theorem ggX0_tickOn_X0_letBoxesLeave : GoodIn wsX0_tickOn wsX0_letBoxesLeave := goodIn_r _ [75, 8, 9, 1, 76, 77, 78, 53, 79, 55, 56, 80, 81, 82, 5, 83, 61, 63, 7, 84, 85, 70, 86, 62, 87, 88, 89, 90, 91, 92, 93, 94, 95, 96, 97, 98, 99, 100, 101, 102, 103] (by decide +kernel) (by decide +kernel)
set_option maxRecDepth 20000 in
theorem gX0_tickOn_X0_letBoxesLeave : GoodIn wsX0_tickOn (wsV RX0 131 RX0 yX0_letBoxesLeave wsX0_letBoxesLeave) := goodIn_app (goodIn_of _ (by decide +kernel)) ggX0_tickOn_X0_letBoxesLeave
theorem dX0_tickOn_0 : decode cX0_tickOn 0 = .ok (.iconst 0, 1) := by decide +kernel
theorem dX0_tickOn_1 : decode cX0_tickOn 1 = .ok (.istore_n 2, 1) := by decide +kernel
theorem dX0_tickOn_2 : decode cX0_tickOn 2 = .ok (.iload_n 2, 1) := by decide +kernel
theorem dX0_tickOn_3 : decode cX0_tickOn 3 = .ok (.iload_n 1, 1) := by decide +kernel
theorem dX0_tickOn_4 : decode cX0_tickOn 4 = .ok (.if_icmp .ge 47, 3) := by decide +kernel
theorem dX0_tickOn_7 : decode cX0_tickOn 7 = .ok (.aload_n 0, 1) := by decide +kernel
theorem dX0_tickOn_8 : decode cX0_tickOn 8 = .ok (.invokevirtual 113, 3) := by decide +kernel
theorem dX0_tickOn_11 : decode cX0_tickOn 11 = .ok (.aload_n 0, 1) := by decide +kernel
theorem dX0_tickOn_12 : decode cX0_tickOn 12 = .ok (.invokevirtual 116, 3) := by decide +kernel
theorem dX0_tickOn_15 : decode cX0_tickOn 15 = .ok (.aload_n 0, 1) := by decide +kernel
theorem dX0_tickOn_16 : decode cX0_tickOn 16 = .ok (.invokevirtual 119, 3) := by decide +kernel
theorem dX0_tickOn_19 : decode cX0_tickOn 19 = .ok (.aload_n 0, 1) := by decide +kernel
theorem dX0_tickOn_20 : decode cX0_tickOn 20 = .ok (.invokevirtual 122, 3) := by decide +kernel
theorem dX0_tickOn_23 : decode cX0_tickOn 23 = .ok (.aload_n 0, 1) := by decide +kernel
theorem dX0_tickOn_24 : decode cX0_tickOn 24 = .ok (.invokevirtual 125, 3) := by decide +kernel
theorem dX0_tickOn_27 : decode cX0_tickOn 27 = .ok (.aload_n 0, 1) := by decide +kernel
theorem dX0_tickOn_28 : decode cX0_tickOn 28 = .ok (.invokevirtual 128, 3) := by decide +kernel
theorem dX0_tickOn_31 : decode cX0_tickOn 31 = .ok (.aload_n 0, 1) := by decide +kernel
theorem dX0_tickOn_32 : decode cX0_tickOn 32 = .ok (.invokevirtual 131, 3) := by decide +kernel
theorem dX0_tickOn_35 : decode cX0_tickOn 35 = .ok (.aload_n 0, 1) := by decide +kernel
theorem dX0_tickOn_36 : decode cX0_tickOn 36 = .ok (.getfield 23, 3) := by decide +kernel
theorem dX0_tickOn_39 : decode cX0_tickOn 39 = .ok (.iconst 0, 1) := by decide +kernel
theorem dX0_tickOn_40 : decode cX0_tickOn 40 = .ok (.dup2, 1) := by decide +kernel
theorem dX0_tickOn_41 : decode cX0_tickOn 41 = .ok (.iaload, 1) := by decide +kernel
theorem dX0_tickOn_42 : decode cX0_tickOn 42 = .ok (.iconst 1, 1) := by decide +kernel
theorem dX0_tickOn_43 : decode cX0_tickOn 43 = .ok (.iadd, 1) := by decide +kernel
theorem dX0_tickOn_44 : decode cX0_tickOn 44 = .ok (.iastore, 1) := by decide +kernel
theorem dX0_tickOn_45 : decode cX0_tickOn 45 = .ok (.iinc 2 1, 3) := by decide +kernel
theorem dX0_tickOn_48 : decode cX0_tickOn 48 = .ok (.goto (-46), 3) := by decide +kernel
theorem dX0_tickOn_51 : decode cX0_tickOn 51 = .ok (.return_, 1) := by decide +kernel
theorem dX0_moveOn_0 : decode cX0_moveOn 0 = .ok (.aload_n 0, 1) := by decide +kernel
theorem dX0_moveOn_1 : decode cX0_moveOn 1 = .ok (.getfield 20, 3) := by decide +kernel
theorem dX0_moveOn_4 : decode cX0_moveOn 4 = .ok (.iconst 0, 1) := by decide +kernel
theorem dX0_moveOn_5 : decode cX0_moveOn 5 = .ok (.iaload, 1) := by decide +kernel
theorem dX0_moveOn_6 : decode cX0_moveOn 6 = .ok (.istore_n 1, 1) := by decide +kernel
theorem dX0_moveOn_7 : decode cX0_moveOn 7 = .ok (.iconst 0, 1) := by decide +kernel
theorem dX0_moveOn_8 : decode cX0_moveOn 8 = .ok (.istore_n 2, 1) := by decide +kernel
theorem dX0_moveOn_9 : decode cX0_moveOn 9 = .ok (.iload_n 2, 1) := by decide +kernel
theorem dX0_moveOn_10 : decode cX0_moveOn 10 = .ok (.aload_n 0, 1) := by decide +kernel
theorem dX0_moveOn_11 : decode cX0_moveOn 11 = .ok (.getfield 51, 3) := by decide +kernel
theorem dX0_moveOn_14 : decode cX0_moveOn 14 = .ok (.if_icmp .ge 24, 3) := by decide +kernel
theorem dX0_moveOn_17 : decode cX0_moveOn 17 = .ok (.aload_n 0, 1) := by decide +kernel
theorem dX0_moveOn_18 : decode cX0_moveOn 18 = .ok (.getfield 28, 3) := by decide +kernel
theorem dX0_moveOn_21 : decode cX0_moveOn 21 = .ok (.iload_n 2, 1) := by decide +kernel
theorem dX0_moveOn_22 : decode cX0_moveOn 22 = .ok (.aaload, 1) := by decide +kernel
theorem dX0_moveOn_23 : decode cX0_moveOn 23 = .ok (.dup, 1) := by decide +kernel
theorem dX0_moveOn_24 : decode cX0_moveOn 24 = .ok (.getfield 86, 3) := by decide +kernel
theorem dX0_moveOn_27 : decode cX0_moveOn 27 = .ok (.iload_n 1, 1) := by decide +kernel
theorem dX0_moveOn_28 : decode cX0_moveOn 28 = .ok (.iadd, 1) := by decide +kernel
theorem dX0_moveOn_29 : decode cX0_moveOn 29 = .ok (.putfield 86, 3) := by decide +kernel
theorem dX0_moveOn_32 : decode cX0_moveOn 32 = .ok (.iinc 2 1, 3) := by decide +kernel
theorem dX0_moveOn_35 : decode cX0_moveOn 35 = .ok (.goto (-26), 3) := by decide +kernel
theorem dX0_moveOn_38 : decode cX0_moveOn 38 = .ok (.aload_n 0, 1) := by decide +kernel
theorem dX0_moveOn_39 : decode cX0_moveOn 39 = .ok (.getfield 23, 3) := by decide +kernel
theorem dX0_moveOn_42 : decode cX0_moveOn 42 = .ok (.bipush 13, 2) := by decide +kernel
theorem dX0_moveOn_44 : decode cX0_moveOn 44 = .ok (.dup2, 1) := by decide +kernel
theorem dX0_moveOn_45 : decode cX0_moveOn 45 = .ok (.iaload, 1) := by decide +kernel
theorem dX0_moveOn_46 : decode cX0_moveOn 46 = .ok (.iload_n 1, 1) := by decide +kernel
theorem dX0_moveOn_47 : decode cX0_moveOn 47 = .ok (.iadd, 1) := by decide +kernel
theorem dX0_moveOn_48 : decode cX0_moveOn 48 = .ok (.iastore, 1) := by decide +kernel
theorem dX0_moveOn_49 : decode cX0_moveOn 49 = .ok (.aload_n 0, 1) := by decide +kernel
theorem dX0_moveOn_50 : decode cX0_moveOn 50 = .ok (.getfield 41, 3) := by decide +kernel
theorem dX0_moveOn_53 : decode cX0_moveOn 53 = .ok (.arraylength, 1) := by decide +kernel
theorem dX0_moveOn_54 : decode cX0_moveOn 54 = .ok (.iconst 1, 1) := by decide +kernel
theorem dX0_moveOn_55 : decode cX0_moveOn 55 = .ok (.isub, 1) := by decide +kernel
theorem dX0_moveOn_56 : decode cX0_moveOn 56 = .ok (.istore_n 2, 1) := by decide +kernel
theorem dX0_moveOn_57 : decode cX0_moveOn 57 = .ok (.iload_n 2, 1) := by decide +kernel
theorem dX0_moveOn_58 : decode cX0_moveOn 58 = .ok (.ifCond .le 23, 3) := by decide +kernel
theorem dX0_moveOn_61 : decode cX0_moveOn 61 = .ok (.aload_n 0, 1) := by decide +kernel
theorem dX0_moveOn_62 : decode cX0_moveOn 62 = .ok (.getfield 41, 3) := by decide +kernel
theorem dX0_moveOn_65 : decode cX0_moveOn 65 = .ok (.iload_n 2, 1) := by decide +kernel
theorem dX0_moveOn_66 : decode cX0_moveOn 66 = .ok (.aload_n 0, 1) := by decide +kernel
theorem dX0_moveOn_67 : decode cX0_moveOn 67 = .ok (.getfield 41, 3) := by decide +kernel
theorem dX0_moveOn_70 : decode cX0_moveOn 70 = .ok (.iload_n 2, 1) := by decide +kernel
theorem dX0_moveOn_71 : decode cX0_moveOn 71 = .ok (.iconst 1, 1) := by decide +kernel
theorem dX0_moveOn_72 : decode cX0_moveOn 72 = .ok (.isub, 1) := by decide +kernel
theorem dX0_moveOn_73 : decode cX0_moveOn 73 = .ok (.iaload, 1) := by decide +kernel
theorem dX0_moveOn_74 : decode cX0_moveOn 74 = .ok (.iastore, 1) := by decide +kernel
theorem dX0_moveOn_75 : decode cX0_moveOn 75 = .ok (.iinc 2 (-1), 3) := by decide +kernel
theorem dX0_moveOn_78 : decode cX0_moveOn 78 = .ok (.goto (-21), 3) := by decide +kernel
theorem dX0_moveOn_81 : decode cX0_moveOn 81 = .ok (.aload_n 0, 1) := by decide +kernel
theorem dX0_moveOn_82 : decode cX0_moveOn 82 = .ok (.getfield 41, 3) := by decide +kernel
theorem dX0_moveOn_85 : decode cX0_moveOn 85 = .ok (.iconst 0, 1) := by decide +kernel
theorem dX0_moveOn_86 : decode cX0_moveOn 86 = .ok (.iload_n 1, 1) := by decide +kernel
theorem dX0_moveOn_87 : decode cX0_moveOn 87 = .ok (.iastore, 1) := by decide +kernel
theorem dX0_moveOn_88 : decode cX0_moveOn 88 = .ok (.return_, 1) := by decide +kernel
set_option maxRecDepth 20000 in
theorem ggX0_seeBoxes_X0_addReport : GoodIn wsX0_seeBoxes wsX0_addReport := goodIn_r _ [9, 10, 11, 12, 13, 14, 15, 16, 17, 18, 19, 20, 21, 22, 23, 24] (by decide +kernel) (by decide +kernel)
set_option maxRecDepth 20000 in
theorem gX0_seeBoxes_X0_addReport : GoodIn wsX0_seeBoxes (wsV RX0 138 RX0 yX0_addReport wsX0_addReport) := goodIn_app (goodIn_of _ (by decide +kernel)) ggX0_seeBoxes_X0_addReport
theorem dX0_seeBoxes_0 : decode cX0_seeBoxes 0 = .ok (.iconst 0, 1) := by decide +kernel
theorem dX0_seeBoxes_1 : decode cX0_seeBoxes 1 = .ok (.istore_n 1, 1) := by decide +kernel
theorem dX0_seeBoxes_2 : decode cX0_seeBoxes 2 = .ok (.iload_n 1, 1) := by decide +kernel
theorem dX0_seeBoxes_3 : decode cX0_seeBoxes 3 = .ok (.aload_n 0, 1) := by decide +kernel
theorem dX0_seeBoxes_4 : decode cX0_seeBoxes 4 = .ok (.getfield 51, 3) := by decide +kernel
theorem dX0_seeBoxes_7 : decode cX0_seeBoxes 7 = .ok (.if_icmp .ge 48, 3) := by decide +kernel
theorem dX0_seeBoxes_10 : decode cX0_seeBoxes 10 = .ok (.aload_n 0, 1) := by decide +kernel
theorem dX0_seeBoxes_11 : decode cX0_seeBoxes 11 = .ok (.getfield 28, 3) := by decide +kernel
theorem dX0_seeBoxes_14 : decode cX0_seeBoxes 14 = .ok (.iload_n 1, 1) := by decide +kernel
theorem dX0_seeBoxes_15 : decode cX0_seeBoxes 15 = .ok (.aaload, 1) := by decide +kernel
theorem dX0_seeBoxes_16 : decode cX0_seeBoxes 16 = .ok (.astore_n 2, 1) := by decide +kernel
theorem dX0_seeBoxes_17 : decode cX0_seeBoxes 17 = .ok (.aload_n 2, 1) := by decide +kernel
theorem dX0_seeBoxes_18 : decode cX0_seeBoxes 18 = .ok (.getfield 134, 3) := by decide +kernel
theorem dX0_seeBoxes_21 : decode cX0_seeBoxes 21 = .ok (.ifCond .ne 28, 3) := by decide +kernel
theorem dX0_seeBoxes_24 : decode cX0_seeBoxes 24 = .ok (.aload_n 2, 1) := by decide +kernel
theorem dX0_seeBoxes_25 : decode cX0_seeBoxes 25 = .ok (.getfield 86, 3) := by decide +kernel
theorem dX0_seeBoxes_28 : decode cX0_seeBoxes 28 = .ok (.bipush 20, 2) := by decide +kernel
theorem dX0_seeBoxes_30 : decode cX0_seeBoxes 30 = .ok (.if_icmp .lt 19, 3) := by decide +kernel
theorem dX0_seeBoxes_33 : decode cX0_seeBoxes 33 = .ok (.aload_n 2, 1) := by decide +kernel
theorem dX0_seeBoxes_34 : decode cX0_seeBoxes 34 = .ok (.iconst 1, 1) := by decide +kernel
theorem dX0_seeBoxes_35 : decode cX0_seeBoxes 35 = .ok (.putfield 134, 3) := by decide +kernel
theorem dX0_seeBoxes_38 : decode cX0_seeBoxes 38 = .ok (.aload_n 0, 1) := by decide +kernel
theorem dX0_seeBoxes_39 : decode cX0_seeBoxes 39 = .ok (.aload_n 2, 1) := by decide +kernel
theorem dX0_seeBoxes_40 : decode cX0_seeBoxes 40 = .ok (.getfield 86, 3) := by decide +kernel
theorem dX0_seeBoxes_43 : decode cX0_seeBoxes 43 = .ok (.bipush 20, 2) := by decide +kernel
theorem dX0_seeBoxes_45 : decode cX0_seeBoxes 45 = .ok (.isub, 1) := by decide +kernel
theorem dX0_seeBoxes_46 : decode cX0_seeBoxes 46 = .ok (.invokevirtual 138, 3) := by decide +kernel
theorem dX0_seeBoxes_49 : decode cX0_seeBoxes 49 = .ok (.iinc 1 1, 3) := by decide +kernel
theorem dX0_seeBoxes_52 : decode cX0_seeBoxes 52 = .ok (.goto (-50), 3) := by decide +kernel
theorem dX0_seeBoxes_55 : decode cX0_seeBoxes 55 = .ok (.return_, 1) := by decide +kernel
theorem dX0_addReport_0 : decode cX0_addReport 0 = .ok (.aload_n 0, 1) := by decide +kernel
theorem dX0_addReport_1 : decode cX0_addReport 1 = .ok (.getfield 59, 3) := by decide +kernel
theorem dX0_addReport_4 : decode cX0_addReport 4 = .ok (.bipush 32, 2) := by decide +kernel
theorem dX0_addReport_6 : decode cX0_addReport 6 = .ok (.if_icmp .ge 45, 3) := by decide +kernel
theorem dX0_addReport_9 : decode cX0_addReport 9 = .ok (.aload_n 0, 1) := by decide +kernel
theorem dX0_addReport_10 : decode cX0_addReport 10 = .ok (.getfield 32, 3) := by decide +kernel
theorem dX0_addReport_13 : decode cX0_addReport 13 = .ok (.aload_n 0, 1) := by decide +kernel
theorem dX0_addReport_14 : decode cX0_addReport 14 = .ok (.getfield 59, 3) := by decide +kernel
theorem dX0_addReport_17 : decode cX0_addReport 17 = .ok (.aload_n 0, 1) := by decide +kernel
theorem dX0_addReport_18 : decode cX0_addReport 18 = .ok (.getfield 23, 3) := by decide +kernel
theorem dX0_addReport_21 : decode cX0_addReport 21 = .ok (.iconst 0, 1) := by decide +kernel
theorem dX0_addReport_22 : decode cX0_addReport 22 = .ok (.iaload, 1) := by decide +kernel
theorem dX0_addReport_23 : decode cX0_addReport 23 = .ok (.aload_n 0, 1) := by decide +kernel
theorem dX0_addReport_24 : decode cX0_addReport 24 = .ok (.getfield 20, 3) := by decide +kernel
theorem dX0_addReport_27 : decode cX0_addReport 27 = .ok (.iconst 1, 1) := by decide +kernel
theorem dX0_addReport_28 : decode cX0_addReport 28 = .ok (.iaload, 1) := by decide +kernel
theorem dX0_addReport_29 : decode cX0_addReport 29 = .ok (.iadd, 1) := by decide +kernel
theorem dX0_addReport_30 : decode cX0_addReport 30 = .ok (.iastore, 1) := by decide +kernel
theorem dX0_addReport_31 : decode cX0_addReport 31 = .ok (.aload_n 0, 1) := by decide +kernel
theorem dX0_addReport_32 : decode cX0_addReport 32 = .ok (.getfield 35, 3) := by decide +kernel
theorem dX0_addReport_35 : decode cX0_addReport 35 = .ok (.aload_n 0, 1) := by decide +kernel
theorem dX0_addReport_36 : decode cX0_addReport 36 = .ok (.getfield 59, 3) := by decide +kernel
theorem dX0_addReport_39 : decode cX0_addReport 39 = .ok (.iload_n 1, 1) := by decide +kernel
theorem dX0_addReport_40 : decode cX0_addReport 40 = .ok (.iastore, 1) := by decide +kernel
theorem dX0_addReport_41 : decode cX0_addReport 41 = .ok (.aload_n 0, 1) := by decide +kernel
theorem dX0_addReport_42 : decode cX0_addReport 42 = .ok (.dup, 1) := by decide +kernel
theorem dX0_addReport_43 : decode cX0_addReport 43 = .ok (.getfield 59, 3) := by decide +kernel
theorem dX0_addReport_46 : decode cX0_addReport 46 = .ok (.iconst 1, 1) := by decide +kernel
theorem dX0_addReport_47 : decode cX0_addReport 47 = .ok (.iadd, 1) := by decide +kernel
theorem dX0_addReport_48 : decode cX0_addReport 48 = .ok (.putfield 59, 3) := by decide +kernel
theorem dX0_addReport_51 : decode cX0_addReport 51 = .ok (.return_, 1) := by decide +kernel
theorem dX0_countPlansDown_0 : decode cX0_countPlansDown 0 = .ok (.iconst 0, 1) := by decide +kernel
theorem dX0_countPlansDown_1 : decode cX0_countPlansDown 1 = .ok (.istore_n 1, 1) := by decide +kernel
theorem dX0_countPlansDown_2 : decode cX0_countPlansDown 2 = .ok (.iload_n 1, 1) := by decide +kernel
theorem dX0_countPlansDown_3 : decode cX0_countPlansDown 3 = .ok (.aload_n 0, 1) := by decide +kernel
theorem dX0_countPlansDown_4 : decode cX0_countPlansDown 4 = .ok (.getfield 62, 3) := by decide +kernel
theorem dX0_countPlansDown_7 : decode cX0_countPlansDown 7 = .ok (.if_icmp .ge 24, 3) := by decide +kernel
theorem dX0_countPlansDown_10 : decode cX0_countPlansDown 10 = .ok (.aload_n 0, 1) := by decide +kernel
theorem dX0_countPlansDown_11 : decode cX0_countPlansDown 11 = .ok (.getfield 38, 3) := by decide +kernel
theorem dX0_countPlansDown_14 : decode cX0_countPlansDown 14 = .ok (.iload_n 1, 1) := by decide +kernel
theorem dX0_countPlansDown_15 : decode cX0_countPlansDown 15 = .ok (.dup2, 1) := by decide +kernel
theorem dX0_countPlansDown_16 : decode cX0_countPlansDown 16 = .ok (.iaload, 1) := by decide +kernel
theorem dX0_countPlansDown_17 : decode cX0_countPlansDown 17 = .ok (.aload_n 0, 1) := by decide +kernel
theorem dX0_countPlansDown_18 : decode cX0_countPlansDown 18 = .ok (.getfield 20, 3) := by decide +kernel
theorem dX0_countPlansDown_21 : decode cX0_countPlansDown 21 = .ok (.iconst 0, 1) := by decide +kernel
theorem dX0_countPlansDown_22 : decode cX0_countPlansDown 22 = .ok (.iaload, 1) := by decide +kernel
theorem dX0_countPlansDown_23 : decode cX0_countPlansDown 23 = .ok (.isub, 1) := by decide +kernel
theorem dX0_countPlansDown_24 : decode cX0_countPlansDown 24 = .ok (.iastore, 1) := by decide +kernel
theorem dX0_countPlansDown_25 : decode cX0_countPlansDown 25 = .ok (.iinc 1 1, 3) := by decide +kernel
theorem dX0_countPlansDown_28 : decode cX0_countPlansDown 28 = .ok (.goto (-26), 3) := by decide +kernel
theorem dX0_countPlansDown_31 : decode cX0_countPlansDown 31 = .ok (.return_, 1) := by decide +kernel
set_option maxRecDepth 20000 in
theorem ggX0_takeReports_X0_addPlan : GoodIn wsX0_takeReports wsX0_addPlan := goodIn_r _ [9, 10, 11, 12, 13, 14, 15, 8, 16, 17, 18, 19, 20, 21, 22, 23, 24, 25, 26, 27] (by decide +kernel) (by decide +kernel)
set_option maxRecDepth 20000 in
theorem gX0_takeReports_X0_addPlan : GoodIn wsX0_takeReports (wsV RX0 141 RX0 yX0_addPlan wsX0_addPlan) := goodIn_app (goodIn_of _ (by decide +kernel)) ggX0_takeReports_X0_addPlan
theorem dX0_takeReports_0 : decode cX0_takeReports 0 = .ok (.iconst 0, 1) := by decide +kernel
theorem dX0_takeReports_1 : decode cX0_takeReports 1 = .ok (.istore_n 1, 1) := by decide +kernel
theorem dX0_takeReports_2 : decode cX0_takeReports 2 = .ok (.iconst 0, 1) := by decide +kernel
theorem dX0_takeReports_3 : decode cX0_takeReports 3 = .ok (.istore_n 2, 1) := by decide +kernel
theorem dX0_takeReports_4 : decode cX0_takeReports 4 = .ok (.iload_n 2, 1) := by decide +kernel
theorem dX0_takeReports_5 : decode cX0_takeReports 5 = .ok (.aload_n 0, 1) := by decide +kernel
theorem dX0_takeReports_6 : decode cX0_takeReports 6 = .ok (.getfield 59, 3) := by decide +kernel
theorem dX0_takeReports_9 : decode cX0_takeReports 9 = .ok (.if_icmp .ge 64, 3) := by decide +kernel
theorem dX0_takeReports_12 : decode cX0_takeReports 12 = .ok (.aload_n 0, 1) := by decide +kernel
theorem dX0_takeReports_13 : decode cX0_takeReports 13 = .ok (.getfield 32, 3) := by decide +kernel
theorem dX0_takeReports_16 : decode cX0_takeReports 16 = .ok (.iload_n 2, 1) := by decide +kernel
theorem dX0_takeReports_17 : decode cX0_takeReports 17 = .ok (.iaload, 1) := by decide +kernel
theorem dX0_takeReports_18 : decode cX0_takeReports 18 = .ok (.aload_n 0, 1) := by decide +kernel
theorem dX0_takeReports_19 : decode cX0_takeReports 19 = .ok (.getfield 23, 3) := by decide +kernel
theorem dX0_takeReports_22 : decode cX0_takeReports 22 = .ok (.iconst 0, 1) := by decide +kernel
theorem dX0_takeReports_23 : decode cX0_takeReports 23 = .ok (.iaload, 1) := by decide +kernel
theorem dX0_takeReports_24 : decode cX0_takeReports 24 = .ok (.if_icmp .gt 16, 3) := by decide +kernel
theorem dX0_takeReports_27 : decode cX0_takeReports 27 = .ok (.aload_n 0, 1) := by decide +kernel
theorem dX0_takeReports_28 : decode cX0_takeReports 28 = .ok (.aload_n 0, 1) := by decide +kernel
theorem dX0_takeReports_29 : decode cX0_takeReports 29 = .ok (.getfield 35, 3) := by decide +kernel
theorem dX0_takeReports_32 : decode cX0_takeReports 32 = .ok (.iload_n 2, 1) := by decide +kernel
theorem dX0_takeReports_33 : decode cX0_takeReports 33 = .ok (.iaload, 1) := by decide +kernel
theorem dX0_takeReports_34 : decode cX0_takeReports 34 = .ok (.invokevirtual 141, 3) := by decide +kernel
theorem dX0_takeReports_37 : decode cX0_takeReports 37 = .ok (.goto 30, 3) := by decide +kernel
theorem dX0_takeReports_40 : decode cX0_takeReports 40 = .ok (.aload_n 0, 1) := by decide +kernel
theorem dX0_takeReports_41 : decode cX0_takeReports 41 = .ok (.getfield 32, 3) := by decide +kernel
theorem dX0_takeReports_44 : decode cX0_takeReports 44 = .ok (.iload_n 1, 1) := by decide +kernel
theorem dX0_takeReports_45 : decode cX0_takeReports 45 = .ok (.aload_n 0, 1) := by decide +kernel
theorem dX0_takeReports_46 : decode cX0_takeReports 46 = .ok (.getfield 32, 3) := by decide +kernel
theorem dX0_takeReports_49 : decode cX0_takeReports 49 = .ok (.iload_n 2, 1) := by decide +kernel
theorem dX0_takeReports_50 : decode cX0_takeReports 50 = .ok (.iaload, 1) := by decide +kernel
theorem dX0_takeReports_51 : decode cX0_takeReports 51 = .ok (.iastore, 1) := by decide +kernel
theorem dX0_takeReports_52 : decode cX0_takeReports 52 = .ok (.aload_n 0, 1) := by decide +kernel
theorem dX0_takeReports_53 : decode cX0_takeReports 53 = .ok (.getfield 35, 3) := by decide +kernel
theorem dX0_takeReports_56 : decode cX0_takeReports 56 = .ok (.iload_n 1, 1) := by decide +kernel
theorem dX0_takeReports_57 : decode cX0_takeReports 57 = .ok (.aload_n 0, 1) := by decide +kernel
theorem dX0_takeReports_58 : decode cX0_takeReports 58 = .ok (.getfield 35, 3) := by decide +kernel
theorem dX0_takeReports_61 : decode cX0_takeReports 61 = .ok (.iload_n 2, 1) := by decide +kernel
theorem dX0_takeReports_62 : decode cX0_takeReports 62 = .ok (.iaload, 1) := by decide +kernel
theorem dX0_takeReports_63 : decode cX0_takeReports 63 = .ok (.iastore, 1) := by decide +kernel
theorem dX0_takeReports_64 : decode cX0_takeReports 64 = .ok (.iinc 1 1, 3) := by decide +kernel
theorem dX0_takeReports_67 : decode cX0_takeReports 67 = .ok (.iinc 2 1, 3) := by decide +kernel
theorem dX0_takeReports_70 : decode cX0_takeReports 70 = .ok (.goto (-66), 3) := by decide +kernel
theorem dX0_takeReports_73 : decode cX0_takeReports 73 = .ok (.aload_n 0, 1) := by decide +kernel
theorem dX0_takeReports_74 : decode cX0_takeReports 74 = .ok (.iload_n 1, 1) := by decide +kernel
theorem dX0_takeReports_75 : decode cX0_takeReports 75 = .ok (.putfield 59, 3) := by decide +kernel
theorem dX0_takeReports_78 : decode cX0_takeReports 78 = .ok (.return_, 1) := by decide +kernel
set_option maxRecDepth 20000 in
theorem ggX0_addPlan_X0_guessedWay : GoodIn wsX0_addPlan wsX0_guessedWay := goodIn_r _ [8, 3, 9, 10, 11, 12, 13, 14, 15, 16, 17, 18, 19] (by decide +kernel) (by decide +kernel)
set_option maxRecDepth 20000 in
theorem gX0_addPlan_X0_guessedWay : GoodIn wsX0_addPlan (wsV RX0 144 RX0 yX0_guessedWay wsX0_guessedWay) := goodIn_app (goodIn_of _ (by decide +kernel)) ggX0_addPlan_X0_guessedWay
theorem dX0_addPlan_0 : decode cX0_addPlan 0 = .ok (.aload_n 0, 1) := by decide +kernel
theorem dX0_addPlan_1 : decode cX0_addPlan 1 = .ok (.getfield 62, 3) := by decide +kernel
theorem dX0_addPlan_4 : decode cX0_addPlan 4 = .ok (.bipush 32, 2) := by decide +kernel
theorem dX0_addPlan_6 : decode cX0_addPlan 6 = .ok (.if_icmp .ge 38, 3) := by decide +kernel
theorem dX0_addPlan_9 : decode cX0_addPlan 9 = .ok (.aload_n 0, 1) := by decide +kernel
theorem dX0_addPlan_10 : decode cX0_addPlan 10 = .ok (.getfield 38, 3) := by decide +kernel
theorem dX0_addPlan_13 : decode cX0_addPlan 13 = .ok (.aload_n 0, 1) := by decide +kernel
theorem dX0_addPlan_14 : decode cX0_addPlan 14 = .ok (.getfield 62, 3) := by decide +kernel
theorem dX0_addPlan_17 : decode cX0_addPlan 17 = .ok (.bipush 40, 2) := by decide +kernel
theorem dX0_addPlan_19 : decode cX0_addPlan 19 = .ok (.aload_n 0, 1) := by decide +kernel
theorem dX0_addPlan_20 : decode cX0_addPlan 20 = .ok (.getfield 20, 3) := by decide +kernel
theorem dX0_addPlan_23 : decode cX0_addPlan 23 = .ok (.iconst 3, 1) := by decide +kernel
theorem dX0_addPlan_24 : decode cX0_addPlan 24 = .ok (.iaload, 1) := by decide +kernel
theorem dX0_addPlan_25 : decode cX0_addPlan 25 = .ok (.iadd, 1) := by decide +kernel
theorem dX0_addPlan_26 : decode cX0_addPlan 26 = .ok (.iload_n 1, 1) := by decide +kernel
theorem dX0_addPlan_27 : decode cX0_addPlan 27 = .ok (.isub, 1) := by decide +kernel
theorem dX0_addPlan_28 : decode cX0_addPlan 28 = .ok (.aload_n 0, 1) := by decide +kernel
theorem dX0_addPlan_29 : decode cX0_addPlan 29 = .ok (.invokevirtual 144, 3) := by decide +kernel
theorem dX0_addPlan_32 : decode cX0_addPlan 32 = .ok (.isub, 1) := by decide +kernel
theorem dX0_addPlan_33 : decode cX0_addPlan 33 = .ok (.iastore, 1) := by decide +kernel
theorem dX0_addPlan_34 : decode cX0_addPlan 34 = .ok (.aload_n 0, 1) := by decide +kernel
theorem dX0_addPlan_35 : decode cX0_addPlan 35 = .ok (.dup, 1) := by decide +kernel
theorem dX0_addPlan_36 : decode cX0_addPlan 36 = .ok (.getfield 62, 3) := by decide +kernel
theorem dX0_addPlan_39 : decode cX0_addPlan 39 = .ok (.iconst 1, 1) := by decide +kernel
theorem dX0_addPlan_40 : decode cX0_addPlan 40 = .ok (.iadd, 1) := by decide +kernel
theorem dX0_addPlan_41 : decode cX0_addPlan 41 = .ok (.putfield 62, 3) := by decide +kernel
theorem dX0_addPlan_44 : decode cX0_addPlan 44 = .ok (.return_, 1) := by decide +kernel
theorem dX0_guessedWay_0 : decode cX0_guessedWay 0 = .ok (.iconst 0, 1) := by decide +kernel
theorem dX0_guessedWay_1 : decode cX0_guessedWay 1 = .ok (.istore_n 1, 1) := by decide +kernel
theorem dX0_guessedWay_2 : decode cX0_guessedWay 2 = .ok (.iconst 0, 1) := by decide +kernel
theorem dX0_guessedWay_3 : decode cX0_guessedWay 3 = .ok (.istore_n 2, 1) := by decide +kernel
theorem dX0_guessedWay_4 : decode cX0_guessedWay 4 = .ok (.iload_n 2, 1) := by decide +kernel
theorem dX0_guessedWay_5 : decode cX0_guessedWay 5 = .ok (.aload_n 0, 1) := by decide +kernel
theorem dX0_guessedWay_6 : decode cX0_guessedWay 6 = .ok (.getfield 20, 3) := by decide +kernel
theorem dX0_guessedWay_9 : decode cX0_guessedWay 9 = .ok (.iconst 2, 1) := by decide +kernel
theorem dX0_guessedWay_10 : decode cX0_guessedWay 10 = .ok (.iaload, 1) := by decide +kernel
theorem dX0_guessedWay_11 : decode cX0_guessedWay 11 = .ok (.if_icmp .ge 27, 3) := by decide +kernel
theorem dX0_guessedWay_14 : decode cX0_guessedWay 14 = .ok (.iload_n 2, 1) := by decide +kernel
theorem dX0_guessedWay_15 : decode cX0_guessedWay 15 = .ok (.aload_n 0, 1) := by decide +kernel
theorem dX0_guessedWay_16 : decode cX0_guessedWay 16 = .ok (.getfield 41, 3) := by decide +kernel
theorem dX0_guessedWay_19 : decode cX0_guessedWay 19 = .ok (.arraylength, 1) := by decide +kernel
theorem dX0_guessedWay_20 : decode cX0_guessedWay 20 = .ok (.if_icmp .ge 18, 3) := by decide +kernel
theorem dX0_guessedWay_23 : decode cX0_guessedWay 23 = .ok (.iload_n 1, 1) := by decide +kernel
theorem dX0_guessedWay_24 : decode cX0_guessedWay 24 = .ok (.aload_n 0, 1) := by decide +kernel
theorem dX0_guessedWay_25 : decode cX0_guessedWay 25 = .ok (.getfield 41, 3) := by decide +kernel
theorem dX0_guessedWay_28 : decode cX0_guessedWay 28 = .ok (.iload_n 2, 1) := by decide +kernel
theorem dX0_guessedWay_29 : decode cX0_guessedWay 29 = .ok (.iaload, 1) := by decide +kernel
theorem dX0_guessedWay_30 : decode cX0_guessedWay 30 = .ok (.iadd, 1) := by decide +kernel
theorem dX0_guessedWay_31 : decode cX0_guessedWay 31 = .ok (.istore_n 1, 1) := by decide +kernel
theorem dX0_guessedWay_32 : decode cX0_guessedWay 32 = .ok (.iinc 2 1, 3) := by decide +kernel
theorem dX0_guessedWay_35 : decode cX0_guessedWay 35 = .ok (.goto (-31), 3) := by decide +kernel
theorem dX0_guessedWay_38 : decode cX0_guessedWay 38 = .ok (.iload_n 1, 1) := by decide +kernel
theorem dX0_guessedWay_39 : decode cX0_guessedWay 39 = .ok (.ireturn, 1) := by decide +kernel
set_option maxRecDepth 20000 in
theorem ggX0_doPlans_X0_useLabel : GoodIn wsX0_doPlans wsX0_useLabel := goodIn_r _ [7, 8, 9, 10, 11, 12, 13, 14, 15, 16, 17, 18, 19, 20, 21, 6, 22, 23, 24, 25, 26, 27, 28, 29, 30, 31, 32, 33, 34, 35, 36, 37, 38, 39, 40, 41, 42, 43] (by decide +kernel) (by decide +kernel)
set_option maxRecDepth 20000 in
theorem gX0_doPlans_X0_useLabel : GoodIn wsX0_doPlans (wsV RX0 147 RX0 yX0_useLabel wsX0_useLabel) := goodIn_app (goodIn_of _ (by decide +kernel)) ggX0_doPlans_X0_useLabel
theorem dX0_doPlans_0 : decode cX0_doPlans 0 = .ok (.iconst 0, 1) := by decide +kernel
theorem dX0_doPlans_1 : decode cX0_doPlans 1 = .ok (.istore_n 1, 1) := by decide +kernel
theorem dX0_doPlans_2 : decode cX0_doPlans 2 = .ok (.iconst 0, 1) := by decide +kernel
theorem dX0_doPlans_3 : decode cX0_doPlans 3 = .ok (.istore_n 2, 1) := by decide +kernel
theorem dX0_doPlans_4 : decode cX0_doPlans 4 = .ok (.iload_n 2, 1) := by decide +kernel
theorem dX0_doPlans_5 : decode cX0_doPlans 5 = .ok (.aload_n 0, 1) := by decide +kernel
theorem dX0_doPlans_6 : decode cX0_doPlans 6 = .ok (.getfield 62, 3) := by decide +kernel
theorem dX0_doPlans_9 : decode cX0_doPlans 9 = .ok (.if_icmp .ge 40, 3) := by decide +kernel
theorem dX0_doPlans_12 : decode cX0_doPlans 12 = .ok (.aload_n 0, 1) := by decide +kernel
theorem dX0_doPlans_13 : decode cX0_doPlans 13 = .ok (.getfield 38, 3) := by decide +kernel
theorem dX0_doPlans_16 : decode cX0_doPlans 16 = .ok (.iload_n 2, 1) := by decide +kernel
theorem dX0_doPlans_17 : decode cX0_doPlans 17 = .ok (.iaload, 1) := by decide +kernel
theorem dX0_doPlans_18 : decode cX0_doPlans 18 = .ok (.ifCond .gt 10, 3) := by decide +kernel
theorem dX0_doPlans_21 : decode cX0_doPlans 21 = .ok (.aload_n 0, 1) := by decide +kernel
theorem dX0_doPlans_22 : decode cX0_doPlans 22 = .ok (.invokevirtual 147, 3) := by decide +kernel
theorem dX0_doPlans_25 : decode cX0_doPlans 25 = .ok (.goto 18, 3) := by decide +kernel
theorem dX0_doPlans_28 : decode cX0_doPlans 28 = .ok (.aload_n 0, 1) := by decide +kernel
theorem dX0_doPlans_29 : decode cX0_doPlans 29 = .ok (.getfield 38, 3) := by decide +kernel
theorem dX0_doPlans_32 : decode cX0_doPlans 32 = .ok (.iload_n 1, 1) := by decide +kernel
theorem dX0_doPlans_33 : decode cX0_doPlans 33 = .ok (.aload_n 0, 1) := by decide +kernel
theorem dX0_doPlans_34 : decode cX0_doPlans 34 = .ok (.getfield 38, 3) := by decide +kernel
theorem dX0_doPlans_37 : decode cX0_doPlans 37 = .ok (.iload_n 2, 1) := by decide +kernel
theorem dX0_doPlans_38 : decode cX0_doPlans 38 = .ok (.iaload, 1) := by decide +kernel
theorem dX0_doPlans_39 : decode cX0_doPlans 39 = .ok (.iastore, 1) := by decide +kernel
theorem dX0_doPlans_40 : decode cX0_doPlans 40 = .ok (.iinc 1 1, 3) := by decide +kernel
theorem dX0_doPlans_43 : decode cX0_doPlans 43 = .ok (.iinc 2 1, 3) := by decide +kernel
theorem dX0_doPlans_46 : decode cX0_doPlans 46 = .ok (.goto (-42), 3) := by decide +kernel
theorem dX0_doPlans_49 : decode cX0_doPlans 49 = .ok (.aload_n 0, 1) := by decide +kernel
theorem dX0_doPlans_50 : decode cX0_doPlans 50 = .ok (.iload_n 1, 1) := by decide +kernel
theorem dX0_doPlans_51 : decode cX0_doPlans 51 = .ok (.putfield 62, 3) := by decide +kernel
theorem dX0_doPlans_54 : decode cX0_doPlans 54 = .ok (.return_, 1) := by decide +kernel
set_option maxRecDepth 20000 in
theorem ggX0_useLabel_X1_liesUnder : GoodIn wsX0_useLabel wsX1_liesUnder := goodIn_r _ [9, 10, 11, 31, 32, 33, 34, 35, 36, 37] (by decide +kernel) (by decide +kernel)
set_option maxRecDepth 20000 in
theorem gX0_useLabel_X1_liesUnder : GoodIn wsX0_useLabel (wsV RX0 150 RX1 yX1_liesUnder wsX1_liesUnder) := goodIn_app (goodIn_of _ (by decide +kernel)) ggX0_useLabel_X1_liesUnder
set_option maxRecDepth 20000 in
theorem ggX0_useLabel_X0_markBox : GoodIn wsX0_useLabel wsX0_markBox := goodIn_r _ [16, 1, 17, 18, 19, 20, 21, 22, 23, 24, 25, 26, 27, 28, 29, 30, 31, 32, 33, 34, 35, 36, 37] (by decide +kernel) (by decide +kernel)
set_option maxRecDepth 20000 in
theorem gX0_useLabel_X0_markBox : GoodIn wsX0_useLabel (wsV RX0 153 RX0 yX0_markBox wsX0_markBox) := goodIn_app (goodIn_of _ (by decide +kernel)) ggX0_useLabel_X0_markBox
theorem dX0_useLabel_0 : decode cX0_useLabel 0 = .ok (.aload_n 0, 1) := by decide +kernel
theorem dX0_useLabel_1 : decode cX0_useLabel 1 = .ok (.getfield 23, 3) := by decide +kernel
theorem dX0_useLabel_4 : decode cX0_useLabel 4 = .ok (.bipush 10, 2) := by decide +kernel
theorem dX0_useLabel_6 : decode cX0_useLabel 6 = .ok (.iaload, 1) := by decide +kernel
theorem dX0_useLabel_7 : decode cX0_useLabel 7 = .ok (.aload_n 0, 1) := by decide +kernel
theorem dX0_useLabel_8 : decode cX0_useLabel 8 = .ok (.getfield 20, 3) := by decide +kernel
theorem dX0_useLabel_11 : decode cX0_useLabel 11 = .ok (.iconst 4, 1) := by decide +kernel
theorem dX0_useLabel_12 : decode cX0_useLabel 12 = .ok (.iaload, 1) := by decide +kernel
theorem dX0_useLabel_13 : decode cX0_useLabel 13 = .ok (.if_icmp .ge 15, 3) := by decide +kernel
theorem dX0_useLabel_16 : decode cX0_useLabel 16 = .ok (.aload_n 0, 1) := by decide +kernel
theorem dX0_useLabel_17 : decode cX0_useLabel 17 = .ok (.getfield 23, 3) := by decide +kernel
theorem dX0_useLabel_20 : decode cX0_useLabel 20 = .ok (.bipush 9, 2) := by decide +kernel
theorem dX0_useLabel_22 : decode cX0_useLabel 22 = .ok (.dup2, 1) := by decide +kernel
theorem dX0_useLabel_23 : decode cX0_useLabel 23 = .ok (.iaload, 1) := by decide +kernel
theorem dX0_useLabel_24 : decode cX0_useLabel 24 = .ok (.iconst 1, 1) := by decide +kernel
theorem dX0_useLabel_25 : decode cX0_useLabel 25 = .ok (.iadd, 1) := by decide +kernel
theorem dX0_useLabel_26 : decode cX0_useLabel 26 = .ok (.iastore, 1) := by decide +kernel
theorem dX0_useLabel_27 : decode cX0_useLabel 27 = .ok (.return_, 1) := by decide +kernel
theorem dX0_useLabel_28 : decode cX0_useLabel 28 = .ok (.aload_n 0, 1) := by decide +kernel
theorem dX0_useLabel_29 : decode cX0_useLabel 29 = .ok (.getfield 23, 3) := by decide +kernel
theorem dX0_useLabel_32 : decode cX0_useLabel 32 = .ok (.bipush 10, 2) := by decide +kernel
theorem dX0_useLabel_34 : decode cX0_useLabel 34 = .ok (.dup2, 1) := by decide +kernel
theorem dX0_useLabel_35 : decode cX0_useLabel 35 = .ok (.iaload, 1) := by decide +kernel
theorem dX0_useLabel_36 : decode cX0_useLabel 36 = .ok (.aload_n 0, 1) := by decide +kernel
theorem dX0_useLabel_37 : decode cX0_useLabel 37 = .ok (.getfield 20, 3) := by decide +kernel
theorem dX0_useLabel_40 : decode cX0_useLabel 40 = .ok (.iconst 4, 1) := by decide +kernel
theorem dX0_useLabel_41 : decode cX0_useLabel 41 = .ok (.iaload, 1) := by decide +kernel
theorem dX0_useLabel_42 : decode cX0_useLabel 42 = .ok (.isub, 1) := by decide +kernel
theorem dX0_useLabel_43 : decode cX0_useLabel 43 = .ok (.iastore, 1) := by decide +kernel
theorem dX0_useLabel_44 : decode cX0_useLabel 44 = .ok (.iconst 0, 1) := by decide +kernel
theorem dX0_useLabel_45 : decode cX0_useLabel 45 = .ok (.istore_n 1, 1) := by decide +kernel
theorem dX0_useLabel_46 : decode cX0_useLabel 46 = .ok (.iload_n 1, 1) := by decide +kernel
theorem dX0_useLabel_47 : decode cX0_useLabel 47 = .ok (.aload_n 0, 1) := by decide +kernel
theorem dX0_useLabel_48 : decode cX0_useLabel 48 = .ok (.getfield 51, 3) := by decide +kernel
theorem dX0_useLabel_51 : decode cX0_useLabel 51 = .ok (.if_icmp .ge 34, 3) := by decide +kernel
theorem dX0_useLabel_54 : decode cX0_useLabel 54 = .ok (.aload_n 0, 1) := by decide +kernel
theorem dX0_useLabel_55 : decode cX0_useLabel 55 = .ok (.getfield 28, 3) := by decide +kernel
theorem dX0_useLabel_58 : decode cX0_useLabel 58 = .ok (.iload_n 1, 1) := by decide +kernel
theorem dX0_useLabel_59 : decode cX0_useLabel 59 = .ok (.aaload, 1) := by decide +kernel
theorem dX0_useLabel_60 : decode cX0_useLabel 60 = .ok (.bipush 60, 2) := by decide +kernel
theorem dX0_useLabel_62 : decode cX0_useLabel 62 = .ok (.invokevirtual 150, 3) := by decide +kernel
theorem dX0_useLabel_65 : decode cX0_useLabel 65 = .ok (.ifCond .eq 14, 3) := by decide +kernel
theorem dX0_useLabel_68 : decode cX0_useLabel 68 = .ok (.aload_n 0, 1) := by decide +kernel
theorem dX0_useLabel_69 : decode cX0_useLabel 69 = .ok (.aload_n 0, 1) := by decide +kernel
theorem dX0_useLabel_70 : decode cX0_useLabel 70 = .ok (.getfield 28, 3) := by decide +kernel
theorem dX0_useLabel_73 : decode cX0_useLabel 73 = .ok (.iload_n 1, 1) := by decide +kernel
theorem dX0_useLabel_74 : decode cX0_useLabel 74 = .ok (.aaload, 1) := by decide +kernel
theorem dX0_useLabel_75 : decode cX0_useLabel 75 = .ok (.invokevirtual 153, 3) := by decide +kernel
theorem dX0_useLabel_78 : decode cX0_useLabel 78 = .ok (.return_, 1) := by decide +kernel
theorem dX0_useLabel_79 : decode cX0_useLabel 79 = .ok (.iinc 1 1, 3) := by decide +kernel
theorem dX0_useLabel_82 : decode cX0_useLabel 82 = .ok (.goto (-36), 3) := by decide +kernel
theorem dX0_useLabel_85 : decode cX0_useLabel 85 = .ok (.aload_n 0, 1) := by decide +kernel
theorem dX0_useLabel_86 : decode cX0_useLabel 86 = .ok (.getfield 23, 3) := by decide +kernel
theorem dX0_useLabel_89 : decode cX0_useLabel 89 = .ok (.bipush 7, 2) := by decide +kernel
theorem dX0_useLabel_91 : decode cX0_useLabel 91 = .ok (.dup2, 1) := by decide +kernel
theorem dX0_useLabel_92 : decode cX0_useLabel 92 = .ok (.iaload, 1) := by decide +kernel
theorem dX0_useLabel_93 : decode cX0_useLabel 93 = .ok (.iconst 1, 1) := by decide +kernel
theorem dX0_useLabel_94 : decode cX0_useLabel 94 = .ok (.iadd, 1) := by decide +kernel
theorem dX0_useLabel_95 : decode cX0_useLabel 95 = .ok (.iastore, 1) := by decide +kernel
theorem dX0_useLabel_96 : decode cX0_useLabel 96 = .ok (.return_, 1) := by decide +kernel
theorem dX0_markBox_0 : decode cX0_markBox 0 = .ok (.aload_n 0, 1) := by decide +kernel
theorem dX0_markBox_1 : decode cX0_markBox 1 = .ok (.getfield 23, 3) := by decide +kernel
theorem dX0_markBox_4 : decode cX0_markBox 4 = .ok (.bipush 6, 2) := by decide +kernel
theorem dX0_markBox_6 : decode cX0_markBox 6 = .ok (.dup2, 1) := by decide +kernel
theorem dX0_markBox_7 : decode cX0_markBox 7 = .ok (.iaload, 1) := by decide +kernel
theorem dX0_markBox_8 : decode cX0_markBox 8 = .ok (.iconst 1, 1) := by decide +kernel
theorem dX0_markBox_9 : decode cX0_markBox 9 = .ok (.iadd, 1) := by decide +kernel
theorem dX0_markBox_10 : decode cX0_markBox 10 = .ok (.iastore, 1) := by decide +kernel
theorem dX0_markBox_11 : decode cX0_markBox 11 = .ok (.aload_n 1, 1) := by decide +kernel
theorem dX0_markBox_12 : decode cX0_markBox 12 = .ok (.getfield 156, 3) := by decide +kernel
theorem dX0_markBox_15 : decode cX0_markBox 15 = .ok (.ifCond .eq 19, 3) := by decide +kernel
theorem dX0_markBox_18 : decode cX0_markBox 18 = .ok (.aload_n 1, 1) := by decide +kernel
theorem dX0_markBox_19 : decode cX0_markBox 19 = .ok (.iconst 1, 1) := by decide +kernel
theorem dX0_markBox_20 : decode cX0_markBox 20 = .ok (.putfield 159, 3) := by decide +kernel
theorem dX0_markBox_23 : decode cX0_markBox 23 = .ok (.aload_n 0, 1) := by decide +kernel
theorem dX0_markBox_24 : decode cX0_markBox 24 = .ok (.getfield 23, 3) := by decide +kernel
theorem dX0_markBox_27 : decode cX0_markBox 27 = .ok (.bipush 8, 2) := by decide +kernel
theorem dX0_markBox_29 : decode cX0_markBox 29 = .ok (.dup2, 1) := by decide +kernel
theorem dX0_markBox_30 : decode cX0_markBox 30 = .ok (.iaload, 1) := by decide +kernel
theorem dX0_markBox_31 : decode cX0_markBox 31 = .ok (.iconst 1, 1) := by decide +kernel
theorem dX0_markBox_32 : decode cX0_markBox 32 = .ok (.iadd, 1) := by decide +kernel
theorem dX0_markBox_33 : decode cX0_markBox 33 = .ok (.iastore, 1) := by decide +kernel
theorem dX0_markBox_34 : decode cX0_markBox 34 = .ok (.aload_n 1, 1) := by decide +kernel
theorem dX0_markBox_35 : decode cX0_markBox 35 = .ok (.iconst 1, 1) := by decide +kernel
theorem dX0_markBox_36 : decode cX0_markBox 36 = .ok (.putfield 156, 3) := by decide +kernel
theorem dX0_markBox_39 : decode cX0_markBox 39 = .ok (.aload_n 1, 1) := by decide +kernel
theorem dX0_markBox_40 : decode cX0_markBox 40 = .ok (.aload_n 1, 1) := by decide +kernel
theorem dX0_markBox_41 : decode cX0_markBox 41 = .ok (.getfield 86, 3) := by decide +kernel
theorem dX0_markBox_44 : decode cX0_markBox 44 = .ok (.bipush 60, 2) := by decide +kernel
theorem dX0_markBox_46 : decode cX0_markBox 46 = .ok (.isub, 1) := by decide +kernel
theorem dX0_markBox_47 : decode cX0_markBox 47 = .ok (.putfield 162, 3) := by decide +kernel
theorem dX0_markBox_50 : decode cX0_markBox 50 = .ok (.return_, 1) := by decide +kernel
theorem dX0_feed_0 : decode cX0_feed 0 = .ok (.aload_n 0, 1) := by decide +kernel
theorem dX0_feed_1 : decode cX0_feed 1 = .ok (.getfield 23, 3) := by decide +kernel
theorem dX0_feed_4 : decode cX0_feed 4 = .ok (.bipush 10, 2) := by decide +kernel
theorem dX0_feed_6 : decode cX0_feed 6 = .ok (.aload_n 0, 1) := by decide +kernel
theorem dX0_feed_7 : decode cX0_feed 7 = .ok (.getfield 23, 3) := by decide +kernel
theorem dX0_feed_10 : decode cX0_feed 10 = .ok (.bipush 10, 2) := by decide +kernel
theorem dX0_feed_12 : decode cX0_feed 12 = .ok (.iaload, 1) := by decide +kernel
theorem dX0_feed_13 : decode cX0_feed 13 = .ok (.aload_n 0, 1) := by decide +kernel
theorem dX0_feed_14 : decode cX0_feed 14 = .ok (.getfield 20, 3) := by decide +kernel
theorem dX0_feed_17 : decode cX0_feed 17 = .ok (.bipush 6, 2) := by decide +kernel
theorem dX0_feed_19 : decode cX0_feed 19 = .ok (.iaload, 1) := by decide +kernel
theorem dX0_feed_20 : decode cX0_feed 20 = .ok (.iadd, 1) := by decide +kernel
theorem dX0_feed_21 : decode cX0_feed 21 = .ok (.aload_n 0, 1) := by decide +kernel
theorem dX0_feed_22 : decode cX0_feed 22 = .ok (.getfield 20, 3) := by decide +kernel
theorem dX0_feed_25 : decode cX0_feed 25 = .ok (.iconst 5, 1) := by decide +kernel
theorem dX0_feed_26 : decode cX0_feed 26 = .ok (.iaload, 1) := by decide +kernel
theorem dX0_feed_27 : decode cX0_feed 27 = .ok (.invokestatic 165, 3) := by decide +kernel
theorem dX0_feed_30 : decode cX0_feed 30 = .ok (.iastore, 1) := by decide +kernel
theorem dX0_feed_31 : decode cX0_feed 31 = .ok (.return_, 1) := by decide +kernel
set_option maxRecDepth 20000 in
theorem ggX0_letBoxesLeave_X1_back : GoodIn wsX0_letBoxesLeave wsX1_back := goodIn_r _ [8, 9, 10, 34, 35, 36, 37, 38, 39, 40] (by decide +kernel) (by decide +kernel)
set_option maxRecDepth 20000 in
theorem gX0_letBoxesLeave_X1_back : GoodIn wsX0_letBoxesLeave (wsV RX0 75 RX1 yX1_back wsX1_back) := goodIn_app (goodIn_of _ (by decide +kernel)) ggX0_letBoxesLeave_X1_back
set_option maxRecDepth 20000 in
theorem ggX0_letBoxesLeave_X0_fate : GoodIn wsX0_letBoxesLeave wsX0_fate := goodIn_r _ [15, 16, 17, 18, 19, 20, 21, 22, 23, 34, 35, 36, 37, 38, 39, 40, 24, 25, 26, 27, 28, 29, 30, 31, 32, 33] (by decide +kernel) (by decide +kernel)
set_option maxRecDepth 20000 in
theorem gX0_letBoxesLeave_X0_fate : GoodIn wsX0_letBoxesLeave (wsV RX0 168 RX0 yX0_fate wsX0_fate) := goodIn_app (goodIn_of _ (by decide +kernel)) ggX0_letBoxesLeave_X0_fate
theorem dX0_letBoxesLeave_0 : decode cX0_letBoxesLeave 0 = .ok (.iconst 0, 1) := by decide +kernel
theorem dX0_letBoxesLeave_1 : decode cX0_letBoxesLeave 1 = .ok (.istore_n 1, 1) := by decide +kernel
theorem dX0_letBoxesLeave_2 : decode cX0_letBoxesLeave 2 = .ok (.iconst 0, 1) := by decide +kernel
theorem dX0_letBoxesLeave_3 : decode cX0_letBoxesLeave 3 = .ok (.istore_n 2, 1) := by decide +kernel
theorem dX0_letBoxesLeave_4 : decode cX0_letBoxesLeave 4 = .ok (.iload_n 2, 1) := by decide +kernel
theorem dX0_letBoxesLeave_5 : decode cX0_letBoxesLeave 5 = .ok (.aload_n 0, 1) := by decide +kernel
theorem dX0_letBoxesLeave_6 : decode cX0_letBoxesLeave 6 = .ok (.getfield 51, 3) := by decide +kernel
theorem dX0_letBoxesLeave_9 : decode cX0_letBoxesLeave 9 = .ok (.if_icmp .ge 64, 3) := by decide +kernel
theorem dX0_letBoxesLeave_12 : decode cX0_letBoxesLeave 12 = .ok (.aload_n 0, 1) := by decide +kernel
theorem dX0_letBoxesLeave_13 : decode cX0_letBoxesLeave 13 = .ok (.getfield 28, 3) := by decide +kernel
theorem dX0_letBoxesLeave_16 : decode cX0_letBoxesLeave 16 = .ok (.iload_n 2, 1) := by decide +kernel
theorem dX0_letBoxesLeave_17 : decode cX0_letBoxesLeave 17 = .ok (.aaload, 1) := by decide +kernel
theorem dX0_letBoxesLeave_18 : decode cX0_letBoxesLeave 18 = .ok (.astore_n 3, 1) := by decide +kernel
theorem dX0_letBoxesLeave_19 : decode cX0_letBoxesLeave 19 = .ok (.aload_n 3, 1) := by decide +kernel
theorem dX0_letBoxesLeave_20 : decode cX0_letBoxesLeave 20 = .ok (.invokevirtual 75, 3) := by decide +kernel
theorem dX0_letBoxesLeave_23 : decode cX0_letBoxesLeave 23 = .ok (.bipush 100, 2) := by decide +kernel
theorem dX0_letBoxesLeave_25 : decode cX0_letBoxesLeave 25 = .ok (.if_icmp .lt 20, 3) := by decide +kernel
theorem dX0_letBoxesLeave_28 : decode cX0_letBoxesLeave 28 = .ok (.aload_n 0, 1) := by decide +kernel
theorem dX0_letBoxesLeave_29 : decode cX0_letBoxesLeave 29 = .ok (.getfield 23, 3) := by decide +kernel
theorem dX0_letBoxesLeave_32 : decode cX0_letBoxesLeave 32 = .ok (.aload_n 0, 1) := by decide +kernel
theorem dX0_letBoxesLeave_33 : decode cX0_letBoxesLeave 33 = .ok (.aload_n 3, 1) := by decide +kernel
theorem dX0_letBoxesLeave_34 : decode cX0_letBoxesLeave 34 = .ok (.invokevirtual 168, 3) := by decide +kernel
theorem dX0_letBoxesLeave_37 : decode cX0_letBoxesLeave 37 = .ok (.dup2, 1) := by decide +kernel
theorem dX0_letBoxesLeave_38 : decode cX0_letBoxesLeave 38 = .ok (.iaload, 1) := by decide +kernel
theorem dX0_letBoxesLeave_39 : decode cX0_letBoxesLeave 39 = .ok (.iconst 1, 1) := by decide +kernel
theorem dX0_letBoxesLeave_40 : decode cX0_letBoxesLeave 40 = .ok (.iadd, 1) := by decide +kernel
theorem dX0_letBoxesLeave_41 : decode cX0_letBoxesLeave 41 = .ok (.iastore, 1) := by decide +kernel
theorem dX0_letBoxesLeave_42 : decode cX0_letBoxesLeave 42 = .ok (.goto 25, 3) := by decide +kernel
theorem dX0_letBoxesLeave_45 : decode cX0_letBoxesLeave 45 = .ok (.aload_n 0, 1) := by decide +kernel
theorem dX0_letBoxesLeave_46 : decode cX0_letBoxesLeave 46 = .ok (.getfield 28, 3) := by decide +kernel
theorem dX0_letBoxesLeave_49 : decode cX0_letBoxesLeave 49 = .ok (.iload_n 2, 1) := by decide +kernel
theorem dX0_letBoxesLeave_50 : decode cX0_letBoxesLeave 50 = .ok (.aload_n 0, 1) := by decide +kernel
theorem dX0_letBoxesLeave_51 : decode cX0_letBoxesLeave 51 = .ok (.getfield 28, 3) := by decide +kernel
theorem dX0_letBoxesLeave_54 : decode cX0_letBoxesLeave 54 = .ok (.iload_n 1, 1) := by decide +kernel
theorem dX0_letBoxesLeave_55 : decode cX0_letBoxesLeave 55 = .ok (.aaload, 1) := by decide +kernel
theorem dX0_letBoxesLeave_56 : decode cX0_letBoxesLeave 56 = .ok (.aastore, 1) := by decide +kernel
theorem dX0_letBoxesLeave_57 : decode cX0_letBoxesLeave 57 = .ok (.aload_n 0, 1) := by decide +kernel
theorem dX0_letBoxesLeave_58 : decode cX0_letBoxesLeave 58 = .ok (.getfield 28, 3) := by decide +kernel
theorem dX0_letBoxesLeave_61 : decode cX0_letBoxesLeave 61 = .ok (.iload_n 1, 1) := by decide +kernel
theorem dX0_letBoxesLeave_62 : decode cX0_letBoxesLeave 62 = .ok (.aload_n 3, 1) := by decide +kernel
theorem dX0_letBoxesLeave_63 : decode cX0_letBoxesLeave 63 = .ok (.aastore, 1) := by decide +kernel
theorem dX0_letBoxesLeave_64 : decode cX0_letBoxesLeave 64 = .ok (.iinc 1 1, 3) := by decide +kernel
theorem dX0_letBoxesLeave_67 : decode cX0_letBoxesLeave 67 = .ok (.iinc 2 1, 3) := by decide +kernel
theorem dX0_letBoxesLeave_70 : decode cX0_letBoxesLeave 70 = .ok (.goto (-66), 3) := by decide +kernel
theorem dX0_letBoxesLeave_73 : decode cX0_letBoxesLeave 73 = .ok (.aload_n 0, 1) := by decide +kernel
theorem dX0_letBoxesLeave_74 : decode cX0_letBoxesLeave 74 = .ok (.iload_n 1, 1) := by decide +kernel
theorem dX0_letBoxesLeave_75 : decode cX0_letBoxesLeave 75 = .ok (.putfield 51, 3) := by decide +kernel
theorem dX0_letBoxesLeave_78 : decode cX0_letBoxesLeave 78 = .ok (.return_, 1) := by decide +kernel
theorem dX0_fate_0 : decode cX0_fate 0 = .ok (.aload_n 1, 1) := by decide +kernel
theorem dX0_fate_1 : decode cX0_fate 1 = .ok (.getfield 156, 3) := by decide +kernel
theorem dX0_fate_4 : decode cX0_fate 4 = .ok (.ifCond .ne 5, 3) := by decide +kernel
theorem dX0_fate_7 : decode cX0_fate 7 = .ok (.iconst 5, 1) := by decide +kernel
theorem dX0_fate_8 : decode cX0_fate 8 = .ok (.ireturn, 1) := by decide +kernel
theorem dX0_fate_9 : decode cX0_fate 9 = .ok (.aload_n 1, 1) := by decide +kernel
theorem dX0_fate_10 : decode cX0_fate 10 = .ok (.getfield 162, 3) := by decide +kernel
theorem dX0_fate_13 : decode cX0_fate 13 = .ok (.aload_n 0, 1) := by decide +kernel
theorem dX0_fate_14 : decode cX0_fate 14 = .ok (.getfield 20, 3) := by decide +kernel
theorem dX0_fate_17 : decode cX0_fate 17 = .ok (.iconst 3, 1) := by decide +kernel
theorem dX0_fate_18 : decode cX0_fate 18 = .ok (.iaload, 1) := by decide +kernel
theorem dX0_fate_19 : decode cX0_fate 19 = .ok (.isub, 1) := by decide +kernel
theorem dX0_fate_20 : decode cX0_fate 20 = .ok (.invokestatic 172, 3) := by decide +kernel
theorem dX0_fate_23 : decode cX0_fate 23 = .ok (.aload_n 0, 1) := by decide +kernel
theorem dX0_fate_24 : decode cX0_fate 24 = .ok (.getfield 20, 3) := by decide +kernel
theorem dX0_fate_27 : decode cX0_fate 27 = .ok (.bipush 7, 2) := by decide +kernel
theorem dX0_fate_29 : decode cX0_fate 29 = .ok (.iaload, 1) := by decide +kernel
theorem dX0_fate_30 : decode cX0_fate 30 = .ok (.if_icmp .gt 7, 3) := by decide +kernel
theorem dX0_fate_33 : decode cX0_fate 33 = .ok (.iconst 1, 1) := by decide +kernel
theorem dX0_fate_34 : decode cX0_fate 34 = .ok (.goto 4, 3) := by decide +kernel
theorem dX0_fate_37 : decode cX0_fate 37 = .ok (.iconst 0, 1) := by decide +kernel
theorem dX0_fate_38 : decode cX0_fate 38 = .ok (.istore_n 2, 1) := by decide +kernel
theorem dX0_fate_39 : decode cX0_fate 39 = .ok (.iload_n 2, 1) := by decide +kernel
theorem dX0_fate_40 : decode cX0_fate 40 = .ok (.ifCond .eq 14, 3) := by decide +kernel
theorem dX0_fate_43 : decode cX0_fate 43 = .ok (.aload_n 1, 1) := by decide +kernel
theorem dX0_fate_44 : decode cX0_fate 44 = .ok (.getfield 159, 3) := by decide +kernel
theorem dX0_fate_47 : decode cX0_fate 47 = .ok (.ifCond .ne 7, 3) := by decide +kernel
theorem dX0_fate_50 : decode cX0_fate 50 = .ok (.iconst 3, 1) := by decide +kernel
theorem dX0_fate_51 : decode cX0_fate 51 = .ok (.goto 4, 3) := by decide +kernel
theorem dX0_fate_54 : decode cX0_fate 54 = .ok (.iconst 4, 1) := by decide +kernel
theorem dX0_fate_55 : decode cX0_fate 55 = .ok (.ireturn, 1) := by decide +kernel
theorem dX1_init_0 : decode cX1_init 0 = .ok (.aload_n 0, 1) := by decide +kernel
theorem dX1_init_1 : decode cX1_init 1 = .ok (.invokespecial 3, 3) := by decide +kernel
theorem dX1_init_4 : decode cX1_init 4 = .ok (.return_, 1) := by decide +kernel
theorem dX1_canHave_0 : decode cX1_canHave 0 = .ok (.iload_n 0, 1) := by decide +kernel
theorem dX1_canHave_1 : decode cX1_canHave 1 = .ok (.iconst 4, 1) := by decide +kernel
theorem dX1_canHave_2 : decode cX1_canHave 2 = .ok (.if_icmp .lt 13, 3) := by decide +kernel
theorem dX1_canHave_5 : decode cX1_canHave 5 = .ok (.iload_n 0, 1) := by decide +kernel
theorem dX1_canHave_6 : decode cX1_canHave 6 = .ok (.bipush 30, 2) := by decide +kernel
theorem dX1_canHave_8 : decode cX1_canHave 8 = .ok (.if_icmp .gt 7, 3) := by decide +kernel
theorem dX1_canHave_11 : decode cX1_canHave 11 = .ok (.iconst 1, 1) := by decide +kernel
theorem dX1_canHave_12 : decode cX1_canHave 12 = .ok (.goto 4, 3) := by decide +kernel
theorem dX1_canHave_15 : decode cX1_canHave 15 = .ok (.iconst 0, 1) := by decide +kernel
theorem dX1_canHave_16 : decode cX1_canHave 16 = .ok (.ireturn, 1) := by decide +kernel
theorem dX1_begin_0 : decode cX1_begin 0 = .ok (.aload_n 0, 1) := by decide +kernel
theorem dX1_begin_1 : decode cX1_begin 1 = .ok (.iconst 0, 1) := by decide +kernel
theorem dX1_begin_2 : decode cX1_begin 2 = .ok (.putfield 11, 3) := by decide +kernel
theorem dX1_begin_5 : decode cX1_begin 5 = .ok (.aload_n 0, 1) := by decide +kernel
theorem dX1_begin_6 : decode cX1_begin 6 = .ok (.iload_n 1, 1) := by decide +kernel
theorem dX1_begin_7 : decode cX1_begin 7 = .ok (.putfield 15, 3) := by decide +kernel
theorem dX1_begin_10 : decode cX1_begin 10 = .ok (.aload_n 0, 1) := by decide +kernel
theorem dX1_begin_11 : decode cX1_begin 11 = .ok (.iconst 0, 1) := by decide +kernel
theorem dX1_begin_12 : decode cX1_begin 12 = .ok (.putfield 18, 3) := by decide +kernel
theorem dX1_begin_15 : decode cX1_begin 15 = .ok (.aload_n 0, 1) := by decide +kernel
theorem dX1_begin_16 : decode cX1_begin 16 = .ok (.iconst 0, 1) := by decide +kernel
theorem dX1_begin_17 : decode cX1_begin 17 = .ok (.putfield 22, 3) := by decide +kernel
theorem dX1_begin_20 : decode cX1_begin 20 = .ok (.aload_n 0, 1) := by decide +kernel
theorem dX1_begin_21 : decode cX1_begin 21 = .ok (.iconst 0, 1) := by decide +kernel
theorem dX1_begin_22 : decode cX1_begin 22 = .ok (.putfield 25, 3) := by decide +kernel
theorem dX1_begin_25 : decode cX1_begin 25 = .ok (.aload_n 0, 1) := by decide +kernel
theorem dX1_begin_26 : decode cX1_begin 26 = .ok (.iconst 0, 1) := by decide +kernel
theorem dX1_begin_27 : decode cX1_begin 27 = .ok (.putfield 28, 3) := by decide +kernel
theorem dX1_begin_30 : decode cX1_begin 30 = .ok (.aload_n 0, 1) := by decide +kernel
theorem dX1_begin_31 : decode cX1_begin 31 = .ok (.iload_n 2, 1) := by decide +kernel
theorem dX1_begin_32 : decode cX1_begin 32 = .ok (.putfield 31, 3) := by decide +kernel
theorem dX1_begin_35 : decode cX1_begin 35 = .ok (.return_, 1) := by decide +kernel
theorem dX1_copyFrom_0 : decode cX1_copyFrom 0 = .ok (.aload_n 0, 1) := by decide +kernel
theorem dX1_copyFrom_1 : decode cX1_copyFrom 1 = .ok (.aload_n 1, 1) := by decide +kernel
theorem dX1_copyFrom_2 : decode cX1_copyFrom 2 = .ok (.getfield 11, 3) := by decide +kernel
theorem dX1_copyFrom_5 : decode cX1_copyFrom 5 = .ok (.putfield 11, 3) := by decide +kernel
theorem dX1_copyFrom_8 : decode cX1_copyFrom 8 = .ok (.aload_n 0, 1) := by decide +kernel
theorem dX1_copyFrom_9 : decode cX1_copyFrom 9 = .ok (.aload_n 1, 1) := by decide +kernel
theorem dX1_copyFrom_10 : decode cX1_copyFrom 10 = .ok (.getfield 15, 3) := by decide +kernel
theorem dX1_copyFrom_13 : decode cX1_copyFrom 13 = .ok (.putfield 15, 3) := by decide +kernel
theorem dX1_copyFrom_16 : decode cX1_copyFrom 16 = .ok (.aload_n 0, 1) := by decide +kernel
theorem dX1_copyFrom_17 : decode cX1_copyFrom 17 = .ok (.aload_n 1, 1) := by decide +kernel
theorem dX1_copyFrom_18 : decode cX1_copyFrom 18 = .ok (.getfield 18, 3) := by decide +kernel
theorem dX1_copyFrom_21 : decode cX1_copyFrom 21 = .ok (.putfield 18, 3) := by decide +kernel
theorem dX1_copyFrom_24 : decode cX1_copyFrom 24 = .ok (.aload_n 0, 1) := by decide +kernel
theorem dX1_copyFrom_25 : decode cX1_copyFrom 25 = .ok (.aload_n 1, 1) := by decide +kernel
theorem dX1_copyFrom_26 : decode cX1_copyFrom 26 = .ok (.getfield 22, 3) := by decide +kernel
theorem dX1_copyFrom_29 : decode cX1_copyFrom 29 = .ok (.putfield 22, 3) := by decide +kernel
theorem dX1_copyFrom_32 : decode cX1_copyFrom 32 = .ok (.aload_n 0, 1) := by decide +kernel
theorem dX1_copyFrom_33 : decode cX1_copyFrom 33 = .ok (.aload_n 1, 1) := by decide +kernel
theorem dX1_copyFrom_34 : decode cX1_copyFrom 34 = .ok (.getfield 25, 3) := by decide +kernel
theorem dX1_copyFrom_37 : decode cX1_copyFrom 37 = .ok (.putfield 25, 3) := by decide +kernel
theorem dX1_copyFrom_40 : decode cX1_copyFrom 40 = .ok (.aload_n 0, 1) := by decide +kernel
theorem dX1_copyFrom_41 : decode cX1_copyFrom 41 = .ok (.aload_n 1, 1) := by decide +kernel
theorem dX1_copyFrom_42 : decode cX1_copyFrom 42 = .ok (.getfield 28, 3) := by decide +kernel
theorem dX1_copyFrom_45 : decode cX1_copyFrom 45 = .ok (.putfield 28, 3) := by decide +kernel
theorem dX1_copyFrom_48 : decode cX1_copyFrom 48 = .ok (.aload_n 0, 1) := by decide +kernel
theorem dX1_copyFrom_49 : decode cX1_copyFrom 49 = .ok (.aload_n 1, 1) := by decide +kernel
theorem dX1_copyFrom_50 : decode cX1_copyFrom 50 = .ok (.getfield 31, 3) := by decide +kernel
theorem dX1_copyFrom_53 : decode cX1_copyFrom 53 = .ok (.putfield 31, 3) := by decide +kernel
theorem dX1_copyFrom_56 : decode cX1_copyFrom 56 = .ok (.return_, 1) := by decide +kernel
theorem dX1_back_0 : decode cX1_back 0 = .ok (.aload_n 0, 1) := by decide +kernel
theorem dX1_back_1 : decode cX1_back 1 = .ok (.getfield 11, 3) := by decide +kernel
theorem dX1_back_4 : decode cX1_back 4 = .ok (.aload_n 0, 1) := by decide +kernel
theorem dX1_back_5 : decode cX1_back 5 = .ok (.getfield 15, 3) := by decide +kernel
theorem dX1_back_8 : decode cX1_back 8 = .ok (.isub, 1) := by decide +kernel
theorem dX1_back_9 : decode cX1_back 9 = .ok (.ireturn, 1) := by decide +kernel
theorem dX1_liesUnder_0 : decode cX1_liesUnder 0 = .ok (.aload_n 0, 1) := by decide +kernel
theorem dX1_liesUnder_1 : decode cX1_liesUnder 1 = .ok (.getfield 11, 3) := by decide +kernel
theorem dX1_liesUnder_4 : decode cX1_liesUnder 4 = .ok (.iload_n 1, 1) := by decide +kernel
theorem dX1_liesUnder_5 : decode cX1_liesUnder 5 = .ok (.if_icmp .lt 20, 3) := by decide +kernel
theorem dX1_liesUnder_8 : decode cX1_liesUnder 8 = .ok (.aload_n 0, 1) := by decide +kernel
theorem dX1_liesUnder_9 : decode cX1_liesUnder 9 = .ok (.getfield 11, 3) := by decide +kernel
theorem dX1_liesUnder_12 : decode cX1_liesUnder 12 = .ok (.aload_n 0, 1) := by decide +kernel
theorem dX1_liesUnder_13 : decode cX1_liesUnder 13 = .ok (.getfield 15, 3) := by decide +kernel
theorem dX1_liesUnder_16 : decode cX1_liesUnder 16 = .ok (.isub, 1) := by decide +kernel
theorem dX1_liesUnder_17 : decode cX1_liesUnder 17 = .ok (.iload_n 1, 1) := by decide +kernel
theorem dX1_liesUnder_18 : decode cX1_liesUnder 18 = .ok (.if_icmp .ge 7, 3) := by decide +kernel
theorem dX1_liesUnder_21 : decode cX1_liesUnder 21 = .ok (.iconst 1, 1) := by decide +kernel
theorem dX1_liesUnder_22 : decode cX1_liesUnder 22 = .ok (.goto 4, 3) := by decide +kernel
theorem dX1_liesUnder_25 : decode cX1_liesUnder 25 = .ok (.iconst 0, 1) := by decide +kernel
theorem dX1_liesUnder_26 : decode cX1_liesUnder 26 = .ok (.ireturn, 1) := by decide +kernel
theorem dX1_tell_0 : decode cX1_tell 0 = .ok (.iload_n 1, 1) := by decide +kernel
theorem dX1_tell_1 : decode cX1_tell 1 = .ok (.tableswitch 105 0 5 #[39, 48, 53, 66, 87, 100], 39) := by decide +kernel
theorem dX1_tell_40 : decode cX1_tell 40 = .ok (.aload_n 0, 1) := by decide +kernel
theorem dX1_tell_41 : decode cX1_tell 41 = .ok (.getfield 11, 3) := by decide +kernel
theorem dX1_tell_44 : decode cX1_tell 44 = .ok (.sipush 1000, 3) := by decide +kernel
theorem dX1_tell_47 : decode cX1_tell 47 = .ok (.iadd, 1) := by decide +kernel
theorem dX1_tell_48 : decode cX1_tell 48 = .ok (.ireturn, 1) := by decide +kernel
theorem dX1_tell_49 : decode cX1_tell 49 = .ok (.aload_n 0, 1) := by decide +kernel
theorem dX1_tell_50 : decode cX1_tell 50 = .ok (.getfield 15, 3) := by decide +kernel
theorem dX1_tell_53 : decode cX1_tell 53 = .ok (.ireturn, 1) := by decide +kernel
theorem dX1_tell_54 : decode cX1_tell 54 = .ok (.aload_n 0, 1) := by decide +kernel
theorem dX1_tell_55 : decode cX1_tell 55 = .ok (.getfield 18, 3) := by decide +kernel
theorem dX1_tell_58 : decode cX1_tell 58 = .ok (.ifCond .eq 7, 3) := by decide +kernel
theorem dX1_tell_61 : decode cX1_tell 61 = .ok (.iconst 1, 1) := by decide +kernel
theorem dX1_tell_62 : decode cX1_tell 62 = .ok (.goto 4, 3) := by decide +kernel
theorem dX1_tell_65 : decode cX1_tell 65 = .ok (.iconst 0, 1) := by decide +kernel
theorem dX1_tell_66 : decode cX1_tell 66 = .ok (.ireturn, 1) := by decide +kernel
theorem dX1_tell_67 : decode cX1_tell 67 = .ok (.aload_n 0, 1) := by decide +kernel
theorem dX1_tell_68 : decode cX1_tell 68 = .ok (.getfield 22, 3) := by decide +kernel
theorem dX1_tell_71 : decode cX1_tell 71 = .ok (.ifCond .eq 14, 3) := by decide +kernel
theorem dX1_tell_74 : decode cX1_tell 74 = .ok (.aload_n 0, 1) := by decide +kernel
theorem dX1_tell_75 : decode cX1_tell 75 = .ok (.getfield 25, 3) := by decide +kernel
theorem dX1_tell_78 : decode cX1_tell 78 = .ok (.sipush 1000, 3) := by decide +kernel
theorem dX1_tell_81 : decode cX1_tell 81 = .ok (.iadd, 1) := by decide +kernel
theorem dX1_tell_82 : decode cX1_tell 82 = .ok (.goto 5, 3) := by decide +kernel
theorem dX1_tell_85 : decode cX1_tell 85 = .ok (.bipush (-6), 2) := by decide +kernel
theorem dX1_tell_87 : decode cX1_tell 87 = .ok (.ireturn, 1) := by decide +kernel
theorem dX1_tell_88 : decode cX1_tell 88 = .ok (.aload_n 0, 1) := by decide +kernel
theorem dX1_tell_89 : decode cX1_tell 89 = .ok (.getfield 28, 3) := by decide +kernel
theorem dX1_tell_92 : decode cX1_tell 92 = .ok (.ifCond .eq 7, 3) := by decide +kernel
theorem dX1_tell_95 : decode cX1_tell 95 = .ok (.iconst 1, 1) := by decide +kernel
theorem dX1_tell_96 : decode cX1_tell 96 = .ok (.goto 4, 3) := by decide +kernel
theorem dX1_tell_99 : decode cX1_tell 99 = .ok (.iconst 0, 1) := by decide +kernel
theorem dX1_tell_100 : decode cX1_tell 100 = .ok (.ireturn, 1) := by decide +kernel
theorem dX1_tell_101 : decode cX1_tell 101 = .ok (.aload_n 0, 1) := by decide +kernel
theorem dX1_tell_102 : decode cX1_tell 102 = .ok (.getfield 31, 3) := by decide +kernel
theorem dX1_tell_105 : decode cX1_tell 105 = .ok (.ireturn, 1) := by decide +kernel
theorem dX1_tell_106 : decode cX1_tell 106 = .ok (.bipush (-2), 2) := by decide +kernel
theorem dX1_tell_108 : decode cX1_tell 108 = .ok (.ireturn, 1) := by decide +kernel
set_option maxRecDepth 20000 in
theorem ggX2_init_X0_init : GoodIn wsX2_init wsX0_init := goodIn_r _ [10, 11, 2, 3, 12, 13, 14, 15, 16, 17, 18, 19, 20, 21, 22, 23, 24, 25, 26, 27, 28, 29, 30, 31, 32, 36, 37, 38, 39, 40, 41, 42, 43, 44, 45, 46, 47, 48, 49, 50, 51, 52] (by decide +kernel) (by decide +kernel)
set_option maxRecDepth 20000 in
theorem gX2_init_X0_init : GoodIn wsX2_init (wsX0_init) := ggX2_init_X0_init
theorem dX2_init_0 : decode cX2_init 0 = .ok (.aload_n 0, 1) := by decide +kernel
theorem dX2_init_1 : decode cX2_init 1 = .ok (.invokespecial 3, 3) := by decide +kernel
theorem dX2_init_4 : decode cX2_init 4 = .ok (.aload_n 0, 1) := by decide +kernel
theorem dX2_init_5 : decode cX2_init 5 = .ok (.bipush 7, 2) := by decide +kernel
theorem dX2_init_7 : decode cX2_init 7 = .ok (.anewarray 9, 3) := by decide +kernel
theorem dX2_init_10 : decode cX2_init 10 = .ok (.putfield 11, 3) := by decide +kernel
theorem dX2_init_13 : decode cX2_init 13 = .ok (.iconst 0, 1) := by decide +kernel
theorem dX2_init_14 : decode cX2_init 14 = .ok (.istore_n 1, 1) := by decide +kernel
theorem dX2_init_15 : decode cX2_init 15 = .ok (.iload_n 1, 1) := by decide +kernel
theorem dX2_init_16 : decode cX2_init 16 = .ok (.bipush 7, 2) := by decide +kernel
theorem dX2_init_18 : decode cX2_init 18 = .ok (.if_icmp .ge 22, 3) := by decide +kernel
theorem dX2_init_21 : decode cX2_init 21 = .ok (.aload_n 0, 1) := by decide +kernel
theorem dX2_init_22 : decode cX2_init 22 = .ok (.getfield 11, 3) := by decide +kernel
theorem dX2_init_25 : decode cX2_init 25 = .ok (.iload_n 1, 1) := by decide +kernel
theorem dX2_init_26 : decode cX2_init 26 = .ok (.new 9, 3) := by decide +kernel
theorem dX2_init_29 : decode cX2_init 29 = .ok (.dup, 1) := by decide +kernel
theorem dX2_init_30 : decode cX2_init 30 = .ok (.invokespecial 15, 3) := by decide +kernel
theorem dX2_init_33 : decode cX2_init 33 = .ok (.aastore, 1) := by decide +kernel
theorem dX2_init_34 : decode cX2_init 34 = .ok (.iinc 1 1, 3) := by decide +kernel
theorem dX2_init_37 : decode cX2_init 37 = .ok (.goto (-22), 3) := by decide +kernel
theorem dX2_init_40 : decode cX2_init 40 = .ok (.return_, 1) := by decide +kernel
set_option maxRecDepth 20000 in
theorem ggX2_stateAt_J9_floorMod_7cf53 : GoodIn wsX2_stateAt wsJ9_floorMod_7cf53 := goodIn_r _ [6] (by decide +kernel) (by decide +kernel)
set_option maxRecDepth 20000 in
theorem gX2_stateAt_J9_floorMod_7cf53 : GoodIn wsX2_stateAt (va_wsS RX2 20 yJ9_floorMod_7cf53 wsJ9_floorMod_7cf53) := goodIn_app (goodIn_of _ (by decide +kernel)) ggX2_stateAt_J9_floorMod_7cf53
theorem dX2_stateAt_0 : decode cX2_stateAt 0 = .ok (.aload_n 0, 1) := by decide +kernel
theorem dX2_stateAt_1 : decode cX2_stateAt 1 = .ok (.getfield 11, 3) := by decide +kernel
theorem dX2_stateAt_4 : decode cX2_stateAt 4 = .ok (.aload_n 0, 1) := by decide +kernel
theorem dX2_stateAt_5 : decode cX2_stateAt 5 = .ok (.getfield 16, 3) := by decide +kernel
theorem dX2_stateAt_8 : decode cX2_stateAt 8 = .ok (.iload_n 1, 1) := by decide +kernel
theorem dX2_stateAt_9 : decode cX2_stateAt 9 = .ok (.iadd, 1) := by decide +kernel
theorem dX2_stateAt_10 : decode cX2_stateAt 10 = .ok (.bipush 7, 2) := by decide +kernel
theorem dX2_stateAt_12 : decode cX2_stateAt 12 = .ok (.invokestatic 20, 3) := by decide +kernel
theorem dX2_stateAt_15 : decode cX2_stateAt 15 = .ok (.aaload, 1) := by decide +kernel
theorem dX2_stateAt_16 : decode cX2_stateAt 16 = .ok (.areturn, 1) := by decide +kernel
set_option maxRecDepth 20000 in
theorem ggX2_note_X2_stateAt : GoodIn wsX2_note wsX2_stateAt := goodIn_r _ [6, 7, 8, 9, 10, 11, 12, 44, 45, 46] (by decide +kernel) (by decide +kernel)
set_option maxRecDepth 20000 in
theorem gX2_note_X2_stateAt : GoodIn wsX2_note (wsV RX2 29 RX2 yX2_stateAt wsX2_stateAt) := goodIn_app (goodIn_of _ (by decide +kernel)) ggX2_note_X2_stateAt
set_option maxRecDepth 20000 in
theorem ggX2_note_X0_copyFrom : GoodIn wsX2_note wsX0_copyFrom := goodIn_r _ [17, 18, 19, 20, 21, 22, 23, 24, 25, 26, 27, 28, 29, 30, 31, 32, 33, 34, 35, 36, 37, 38, 39, 40, 41, 42, 43, 47, 48, 49, 50, 51, 52, 53, 54, 55, 56, 57, 58, 59, 60, 61, 62, 63] (by decide +kernel) (by decide +kernel)
set_option maxRecDepth 20000 in
theorem gX2_note_X0_copyFrom : GoodIn wsX2_note (wsV RX2 33 RX0 yX0_copyFrom wsX0_copyFrom) := goodIn_app (goodIn_of _ (by decide +kernel)) ggX2_note_X0_copyFrom
theorem dX2_note_0 : decode cX2_note 0 = .ok (.aload_n 0, 1) := by decide +kernel
theorem dX2_note_1 : decode cX2_note 1 = .ok (.aload_n 0, 1) := by decide +kernel
theorem dX2_note_2 : decode cX2_note 2 = .ok (.getfield 26, 3) := by decide +kernel
theorem dX2_note_5 : decode cX2_note 5 = .ok (.invokevirtual 29, 3) := by decide +kernel
theorem dX2_note_8 : decode cX2_note 8 = .ok (.aload_n 1, 1) := by decide +kernel
theorem dX2_note_9 : decode cX2_note 9 = .ok (.invokevirtual 33, 3) := by decide +kernel
theorem dX2_note_12 : decode cX2_note 12 = .ok (.return_, 1) := by decide +kernel
set_option maxRecDepth 20000 in
theorem ggX2_keepNoted_J9_floorMod_7cf53 : GoodIn wsX2_keepNoted wsJ9_floorMod_7cf53 := goodIn_r _ [6] (by decide +kernel) (by decide +kernel)
set_option maxRecDepth 20000 in
theorem gX2_keepNoted_J9_floorMod_7cf53 : GoodIn wsX2_keepNoted (va_wsS RX2 20 yJ9_floorMod_7cf53 wsJ9_floorMod_7cf53) := goodIn_app (goodIn_of _ (by decide +kernel)) ggX2_keepNoted_J9_floorMod_7cf53
theorem dX2_keepNoted_0 : decode cX2_keepNoted 0 = .ok (.aload_n 0, 1) := by decide +kernel
theorem dX2_keepNoted_1 : decode cX2_keepNoted 1 = .ok (.getfield 26, 3) := by decide +kernel
theorem dX2_keepNoted_4 : decode cX2_keepNoted 4 = .ok (.bipush 6, 2) := by decide +kernel
theorem dX2_keepNoted_6 : decode cX2_keepNoted 6 = .ok (.if_icmp .ge 16, 3) := by decide +kernel
theorem dX2_keepNoted_9 : decode cX2_keepNoted 9 = .ok (.aload_n 0, 1) := by decide +kernel
theorem dX2_keepNoted_10 : decode cX2_keepNoted 10 = .ok (.dup, 1) := by decide +kernel
theorem dX2_keepNoted_11 : decode cX2_keepNoted 11 = .ok (.getfield 26, 3) := by decide +kernel
theorem dX2_keepNoted_14 : decode cX2_keepNoted 14 = .ok (.iconst 1, 1) := by decide +kernel
theorem dX2_keepNoted_15 : decode cX2_keepNoted 15 = .ok (.iadd, 1) := by decide +kernel
theorem dX2_keepNoted_16 : decode cX2_keepNoted 16 = .ok (.putfield 26, 3) := by decide +kernel
theorem dX2_keepNoted_19 : decode cX2_keepNoted 19 = .ok (.goto 18, 3) := by decide +kernel
theorem dX2_keepNoted_22 : decode cX2_keepNoted 22 = .ok (.aload_n 0, 1) := by decide +kernel
theorem dX2_keepNoted_23 : decode cX2_keepNoted 23 = .ok (.aload_n 0, 1) := by decide +kernel
theorem dX2_keepNoted_24 : decode cX2_keepNoted 24 = .ok (.getfield 16, 3) := by decide +kernel
theorem dX2_keepNoted_27 : decode cX2_keepNoted 27 = .ok (.iconst 1, 1) := by decide +kernel
theorem dX2_keepNoted_28 : decode cX2_keepNoted 28 = .ok (.iadd, 1) := by decide +kernel
theorem dX2_keepNoted_29 : decode cX2_keepNoted 29 = .ok (.bipush 7, 2) := by decide +kernel
theorem dX2_keepNoted_31 : decode cX2_keepNoted 31 = .ok (.invokestatic 20, 3) := by decide +kernel
theorem dX2_keepNoted_34 : decode cX2_keepNoted 34 = .ok (.putfield 16, 3) := by decide +kernel
theorem dX2_keepNoted_37 : decode cX2_keepNoted 37 = .ok (.return_, 1) := by decide +kernel
set_option maxRecDepth 20000 in
theorem ggX2_takeBack_X2_stateAt : GoodIn wsX2_takeBack wsX2_stateAt := goodIn_r _ [6, 7, 8, 9, 10, 11, 12, 44, 45, 46] (by decide +kernel) (by decide +kernel)
set_option maxRecDepth 20000 in
theorem gX2_takeBack_X2_stateAt : GoodIn wsX2_takeBack (wsV RX2 29 RX2 yX2_stateAt wsX2_stateAt) := goodIn_app (goodIn_of _ (by decide +kernel)) ggX2_takeBack_X2_stateAt
set_option maxRecDepth 20000 in
theorem ggX2_takeBack_X0_copyFrom : GoodIn wsX2_takeBack wsX0_copyFrom := goodIn_r _ [17, 18, 19, 20, 21, 22, 23, 24, 25, 26, 27, 28, 29, 30, 31, 32, 33, 34, 35, 36, 37, 38, 39, 40, 41, 42, 43, 47, 48, 49, 50, 51, 52, 53, 54, 55, 56, 57, 58, 59, 60, 61, 62, 63] (by decide +kernel) (by decide +kernel)
set_option maxRecDepth 20000 in
theorem gX2_takeBack_X0_copyFrom : GoodIn wsX2_takeBack (wsV RX2 33 RX0 yX0_copyFrom wsX0_copyFrom) := goodIn_app (goodIn_of _ (by decide +kernel)) ggX2_takeBack_X0_copyFrom
theorem dX2_takeBack_0 : decode cX2_takeBack 0 = .ok (.aload_n 0, 1) := by decide +kernel
theorem dX2_takeBack_1 : decode cX2_takeBack 1 = .ok (.getfield 26, 3) := by decide +kernel
theorem dX2_takeBack_4 : decode cX2_takeBack 4 = .ok (.ifCond .le 25, 3) := by decide +kernel
theorem dX2_takeBack_7 : decode cX2_takeBack 7 = .ok (.aload_n 0, 1) := by decide +kernel
theorem dX2_takeBack_8 : decode cX2_takeBack 8 = .ok (.dup, 1) := by decide +kernel
theorem dX2_takeBack_9 : decode cX2_takeBack 9 = .ok (.getfield 26, 3) := by decide +kernel
theorem dX2_takeBack_12 : decode cX2_takeBack 12 = .ok (.iconst 1, 1) := by decide +kernel
theorem dX2_takeBack_13 : decode cX2_takeBack 13 = .ok (.isub, 1) := by decide +kernel
theorem dX2_takeBack_14 : decode cX2_takeBack 14 = .ok (.putfield 26, 3) := by decide +kernel
theorem dX2_takeBack_17 : decode cX2_takeBack 17 = .ok (.aload_n 1, 1) := by decide +kernel
theorem dX2_takeBack_18 : decode cX2_takeBack 18 = .ok (.aload_n 0, 1) := by decide +kernel
theorem dX2_takeBack_19 : decode cX2_takeBack 19 = .ok (.aload_n 0, 1) := by decide +kernel
theorem dX2_takeBack_20 : decode cX2_takeBack 20 = .ok (.getfield 26, 3) := by decide +kernel
theorem dX2_takeBack_23 : decode cX2_takeBack 23 = .ok (.invokevirtual 29, 3) := by decide +kernel
theorem dX2_takeBack_26 : decode cX2_takeBack 26 = .ok (.invokevirtual 33, 3) := by decide +kernel
theorem dX2_takeBack_29 : decode cX2_takeBack 29 = .ok (.return_, 1) := by decide +kernel
theorem dX3_init_0 : decode cX3_init 0 = .ok (.aload_n 0, 1) := by decide +kernel
theorem dX3_init_1 : decode cX3_init 1 = .ok (.invokespecial 3, 3) := by decide +kernel
theorem dX3_init_4 : decode cX3_init 4 = .ok (.aload_n 0, 1) := by decide +kernel
theorem dX3_init_5 : decode cX3_init 5 = .ok (.bipush 60, 2) := by decide +kernel
theorem dX3_init_7 : decode cX3_init 7 = .ok (.newarray .char, 2) := by decide +kernel
theorem dX3_init_9 : decode cX3_init 9 = .ok (.putfield 11, 3) := by decide +kernel
theorem dX3_init_12 : decode cX3_init 12 = .ok (.return_, 1) := by decide +kernel
set_option maxRecDepth 20000 in
theorem ggX3_append_X3_howMany : GoodIn wsX3_append wsX3_howMany := goodIn_r _ [6, 7, 8, 5, 9] (by decide +kernel) (by decide +kernel)
set_option maxRecDepth 20000 in
theorem gX3_append_X3_howMany : GoodIn wsX3_append (va_wsS RX3 15 yX3_howMany wsX3_howMany) := goodIn_app (goodIn_of _ (by decide +kernel)) ggX3_append_X3_howMany
set_option maxRecDepth 20000 in
theorem ggX3_append_X3_codeAt : GoodIn wsX3_append wsX3_codeAt := goodIn_r _ [9] (by decide +kernel) (by decide +kernel)
set_option maxRecDepth 20000 in
theorem gX3_append_X3_codeAt : GoodIn wsX3_append (va_wsS RX3 23 yX3_codeAt wsX3_codeAt) := goodIn_app (goodIn_of _ (by decide +kernel)) ggX3_append_X3_codeAt
theorem dX3_append_0 : decode cX3_append 0 = .ok (.lload_n 1, 1) := by decide +kernel
theorem dX3_append_1 : decode cX3_append 1 = .ok (.invokestatic 15, 3) := by decide +kernel
theorem dX3_append_4 : decode cX3_append 4 = .ok (.istore_n 3, 1) := by decide +kernel
theorem dX3_append_5 : decode cX3_append 5 = .ok (.iload_n 3, 1) := by decide +kernel
theorem dX3_append_6 : decode cX3_append 6 = .ok (.ifCond .ne 6, 3) := by decide +kernel
theorem dX3_append_9 : decode cX3_append 9 = .ok (.bipush (-2), 2) := by decide +kernel
theorem dX3_append_11 : decode cX3_append 11 = .ok (.ireturn, 1) := by decide +kernel
theorem dX3_append_12 : decode cX3_append 12 = .ok (.aload_n 0, 1) := by decide +kernel
theorem dX3_append_13 : decode cX3_append 13 = .ok (.getfield 19, 3) := by decide +kernel
theorem dX3_append_16 : decode cX3_append 16 = .ok (.iload_n 3, 1) := by decide +kernel
theorem dX3_append_17 : decode cX3_append 17 = .ok (.iadd, 1) := by decide +kernel
theorem dX3_append_18 : decode cX3_append 18 = .ok (.bipush 60, 2) := by decide +kernel
theorem dX3_append_20 : decode cX3_append 20 = .ok (.if_icmp .le 6, 3) := by decide +kernel
theorem dX3_append_23 : decode cX3_append 23 = .ok (.bipush (-4), 2) := by decide +kernel
theorem dX3_append_25 : decode cX3_append 25 = .ok (.ireturn, 1) := by decide +kernel
theorem dX3_append_26 : decode cX3_append 26 = .ok (.iload_n 3, 1) := by decide +kernel
theorem dX3_append_27 : decode cX3_append 27 = .ok (.iconst 1, 1) := by decide +kernel
theorem dX3_append_28 : decode cX3_append 28 = .ok (.isub, 1) := by decide +kernel
theorem dX3_append_29 : decode cX3_append 29 = .ok (.istore 4, 2) := by decide +kernel
theorem dX3_append_31 : decode cX3_append 31 = .ok (.iload 4, 2) := by decide +kernel
theorem dX3_append_33 : decode cX3_append 33 = .ok (.ifCond .lt 35, 3) := by decide +kernel
theorem dX3_append_36 : decode cX3_append 36 = .ok (.aload_n 0, 1) := by decide +kernel
theorem dX3_append_37 : decode cX3_append 37 = .ok (.getfield 11, 3) := by decide +kernel
theorem dX3_append_40 : decode cX3_append 40 = .ok (.aload_n 0, 1) := by decide +kernel
theorem dX3_append_41 : decode cX3_append 41 = .ok (.getfield 19, 3) := by decide +kernel
theorem dX3_append_44 : decode cX3_append 44 = .ok (.lload_n 1, 1) := by decide +kernel
theorem dX3_append_45 : decode cX3_append 45 = .ok (.iload 4, 2) := by decide +kernel
theorem dX3_append_47 : decode cX3_append 47 = .ok (.invokestatic 23, 3) := by decide +kernel
theorem dX3_append_50 : decode cX3_append 50 = .ok (.i2c, 1) := by decide +kernel
theorem dX3_append_51 : decode cX3_append 51 = .ok (.castore, 1) := by decide +kernel
theorem dX3_append_52 : decode cX3_append 52 = .ok (.aload_n 0, 1) := by decide +kernel
theorem dX3_append_53 : decode cX3_append 53 = .ok (.dup, 1) := by decide +kernel
theorem dX3_append_54 : decode cX3_append 54 = .ok (.getfield 19, 3) := by decide +kernel
theorem dX3_append_57 : decode cX3_append 57 = .ok (.iconst 1, 1) := by decide +kernel
theorem dX3_append_58 : decode cX3_append 58 = .ok (.iadd, 1) := by decide +kernel
theorem dX3_append_59 : decode cX3_append 59 = .ok (.putfield 19, 3) := by decide +kernel
theorem dX3_append_62 : decode cX3_append 62 = .ok (.iinc 4 (-1), 3) := by decide +kernel
theorem dX3_append_65 : decode cX3_append 65 = .ok (.goto (-34), 3) := by decide +kernel
theorem dX3_append_68 : decode cX3_append 68 = .ok (.aload_n 0, 1) := by decide +kernel
theorem dX3_append_69 : decode cX3_append 69 = .ok (.getfield 19, 3) := by decide +kernel
theorem dX3_append_72 : decode cX3_append 72 = .ok (.ireturn, 1) := by decide +kernel
theorem dX3_codeAt_0 : decode cX3_codeAt 0 = .ok (.lload_n 0, 1) := by decide +kernel
theorem dX3_codeAt_1 : decode cX3_codeAt 1 = .ok (.bipush 8, 2) := by decide +kernel
theorem dX3_codeAt_3 : decode cX3_codeAt 3 = .ok (.iload_n 2, 1) := by decide +kernel
theorem dX3_codeAt_4 : decode cX3_codeAt 4 = .ok (.imul, 1) := by decide +kernel
theorem dX3_codeAt_5 : decode cX3_codeAt 5 = .ok (.lushr, 1) := by decide +kernel
theorem dX3_codeAt_6 : decode cX3_codeAt 6 = .ok (.l2i, 1) := by decide +kernel
theorem dX3_codeAt_7 : decode cX3_codeAt 7 = .ok (.sipush 255, 3) := by decide +kernel
theorem dX3_codeAt_10 : decode cX3_codeAt 10 = .ok (.iand, 1) := by decide +kernel
theorem dX3_codeAt_11 : decode cX3_codeAt 11 = .ok (.ireturn, 1) := by decide +kernel
set_option maxRecDepth 20000 in
theorem ggX3_howMany_X3_codeAt : GoodIn wsX3_howMany wsX3_codeAt := goodIn_r _ [4] (by decide +kernel) (by decide +kernel)
set_option maxRecDepth 20000 in
theorem gX3_howMany_X3_codeAt : GoodIn wsX3_howMany (va_wsS RX3 23 yX3_codeAt wsX3_codeAt) := goodIn_app (goodIn_of _ (by decide +kernel)) ggX3_howMany_X3_codeAt
theorem dX3_howMany_0 : decode cX3_howMany 0 = .ok (.iconst 0, 1) := by decide +kernel
theorem dX3_howMany_1 : decode cX3_howMany 1 = .ok (.istore_n 2, 1) := by decide +kernel
theorem dX3_howMany_2 : decode cX3_howMany 2 = .ok (.iload_n 2, 1) := by decide +kernel
theorem dX3_howMany_3 : decode cX3_howMany 3 = .ok (.bipush 8, 2) := by decide +kernel
theorem dX3_howMany_5 : decode cX3_howMany 5 = .ok (.if_icmp .ge 37, 3) := by decide +kernel
theorem dX3_howMany_8 : decode cX3_howMany 8 = .ok (.lload_n 0, 1) := by decide +kernel
theorem dX3_howMany_9 : decode cX3_howMany 9 = .ok (.iload_n 2, 1) := by decide +kernel
theorem dX3_howMany_10 : decode cX3_howMany 10 = .ok (.invokestatic 23, 3) := by decide +kernel
theorem dX3_howMany_13 : decode cX3_howMany 13 = .ok (.ifCond .eq 29, 3) := by decide +kernel
theorem dX3_howMany_16 : decode cX3_howMany 16 = .ok (.lload_n 0, 1) := by decide +kernel
theorem dX3_howMany_17 : decode cX3_howMany 17 = .ok (.iload_n 2, 1) := by decide +kernel
theorem dX3_howMany_18 : decode cX3_howMany 18 = .ok (.invokestatic 23, 3) := by decide +kernel
theorem dX3_howMany_21 : decode cX3_howMany 21 = .ok (.istore_n 3, 1) := by decide +kernel
theorem dX3_howMany_22 : decode cX3_howMany 22 = .ok (.iload_n 3, 1) := by decide +kernel
theorem dX3_howMany_23 : decode cX3_howMany 23 = .ok (.bipush 33, 2) := by decide +kernel
theorem dX3_howMany_25 : decode cX3_howMany 25 = .ok (.if_icmp .lt 9, 3) := by decide +kernel
theorem dX3_howMany_28 : decode cX3_howMany 28 = .ok (.iload_n 3, 1) := by decide +kernel
theorem dX3_howMany_29 : decode cX3_howMany 29 = .ok (.bipush 126, 2) := by decide +kernel
theorem dX3_howMany_31 : decode cX3_howMany 31 = .ok (.if_icmp .le 5, 3) := by decide +kernel
theorem dX3_howMany_34 : decode cX3_howMany 34 = .ok (.iconst 0, 1) := by decide +kernel
theorem dX3_howMany_35 : decode cX3_howMany 35 = .ok (.ireturn, 1) := by decide +kernel
theorem dX3_howMany_36 : decode cX3_howMany 36 = .ok (.iinc 2 1, 3) := by decide +kernel
theorem dX3_howMany_39 : decode cX3_howMany 39 = .ok (.goto (-37), 3) := by decide +kernel
theorem dX3_howMany_42 : decode cX3_howMany 42 = .ok (.iload_n 2, 1) := by decide +kernel
theorem dX3_howMany_43 : decode cX3_howMany 43 = .ok (.istore_n 3, 1) := by decide +kernel
theorem dX3_howMany_44 : decode cX3_howMany 44 = .ok (.iload_n 3, 1) := by decide +kernel
theorem dX3_howMany_45 : decode cX3_howMany 45 = .ok (.bipush 8, 2) := by decide +kernel
theorem dX3_howMany_47 : decode cX3_howMany 47 = .ok (.if_icmp .ge 19, 3) := by decide +kernel
theorem dX3_howMany_50 : decode cX3_howMany 50 = .ok (.lload_n 0, 1) := by decide +kernel
theorem dX3_howMany_51 : decode cX3_howMany 51 = .ok (.iload_n 3, 1) := by decide +kernel
theorem dX3_howMany_52 : decode cX3_howMany 52 = .ok (.invokestatic 23, 3) := by decide +kernel
theorem dX3_howMany_55 : decode cX3_howMany 55 = .ok (.ifCond .eq 5, 3) := by decide +kernel
theorem dX3_howMany_58 : decode cX3_howMany 58 = .ok (.iconst 0, 1) := by decide +kernel
theorem dX3_howMany_59 : decode cX3_howMany 59 = .ok (.ireturn, 1) := by decide +kernel
theorem dX3_howMany_60 : decode cX3_howMany 60 = .ok (.iinc 3 1, 3) := by decide +kernel
theorem dX3_howMany_63 : decode cX3_howMany 63 = .ok (.goto (-19), 3) := by decide +kernel
theorem dX3_howMany_66 : decode cX3_howMany 66 = .ok (.iload_n 2, 1) := by decide +kernel
theorem dX3_howMany_67 : decode cX3_howMany 67 = .ok (.ireturn, 1) := by decide +kernel
theorem dX3_empty_0 : decode cX3_empty 0 = .ok (.aload_n 0, 1) := by decide +kernel
theorem dX3_empty_1 : decode cX3_empty 1 = .ok (.getfield 19, 3) := by decide +kernel
theorem dX3_empty_4 : decode cX3_empty 4 = .ok (.istore_n 1, 1) := by decide +kernel
theorem dX3_empty_5 : decode cX3_empty 5 = .ok (.aload_n 0, 1) := by decide +kernel
theorem dX3_empty_6 : decode cX3_empty 6 = .ok (.iconst 0, 1) := by decide +kernel
theorem dX3_empty_7 : decode cX3_empty 7 = .ok (.putfield 19, 3) := by decide +kernel
theorem dX3_empty_10 : decode cX3_empty 10 = .ok (.iload_n 1, 1) := by decide +kernel
theorem dX3_empty_11 : decode cX3_empty 11 = .ok (.ireturn, 1) := by decide +kernel
theorem dX3_signAt_0 : decode cX3_signAt 0 = .ok (.iload_n 1, 1) := by decide +kernel
theorem dX3_signAt_1 : decode cX3_signAt 1 = .ok (.ifCond .lt 20, 3) := by decide +kernel
theorem dX3_signAt_4 : decode cX3_signAt 4 = .ok (.iload_n 1, 1) := by decide +kernel
theorem dX3_signAt_5 : decode cX3_signAt 5 = .ok (.aload_n 0, 1) := by decide +kernel
theorem dX3_signAt_6 : decode cX3_signAt 6 = .ok (.getfield 19, 3) := by decide +kernel
theorem dX3_signAt_9 : decode cX3_signAt 9 = .ok (.if_icmp .ge 12, 3) := by decide +kernel
theorem dX3_signAt_12 : decode cX3_signAt 12 = .ok (.aload_n 0, 1) := by decide +kernel
theorem dX3_signAt_13 : decode cX3_signAt 13 = .ok (.getfield 11, 3) := by decide +kernel
theorem dX3_signAt_16 : decode cX3_signAt 16 = .ok (.iload_n 1, 1) := by decide +kernel
theorem dX3_signAt_17 : decode cX3_signAt 17 = .ok (.caload, 1) := by decide +kernel
theorem dX3_signAt_18 : decode cX3_signAt 18 = .ok (.goto 5, 3) := by decide +kernel
theorem dX3_signAt_21 : decode cX3_signAt 21 = .ok (.bipush 59, 2) := by decide +kernel
theorem dX3_signAt_23 : decode cX3_signAt 23 = .ok (.ireturn, 1) := by decide +kernel
set_option maxRecDepth 20000 in
theorem ggX3_firstFault_X3_dueBehind : GoodIn wsX3_firstFault wsX3_dueBehind := goodIn_r _ [6, 7, 8, 5, 9, 10, 11, 12] (by decide +kernel) (by decide +kernel)
set_option maxRecDepth 20000 in
theorem gX3_firstFault_X3_dueBehind : GoodIn wsX3_firstFault (va_wsS RX3 27 yX3_dueBehind wsX3_dueBehind) := goodIn_app (goodIn_of _ (by decide +kernel)) ggX3_firstFault_X3_dueBehind
theorem dX3_firstFault_0 : decode cX3_firstFault 0 = .ok (.iconst 0, 1) := by decide +kernel
theorem dX3_firstFault_1 : decode cX3_firstFault 1 = .ok (.istore_n 1, 1) := by decide +kernel
theorem dX3_firstFault_2 : decode cX3_firstFault 2 = .ok (.iconst 0, 1) := by decide +kernel
theorem dX3_firstFault_3 : decode cX3_firstFault 3 = .ok (.istore_n 2, 1) := by decide +kernel
theorem dX3_firstFault_4 : decode cX3_firstFault 4 = .ok (.iload_n 2, 1) := by decide +kernel
theorem dX3_firstFault_5 : decode cX3_firstFault 5 = .ok (.aload_n 0, 1) := by decide +kernel
theorem dX3_firstFault_6 : decode cX3_firstFault 6 = .ok (.getfield 19, 3) := by decide +kernel
theorem dX3_firstFault_9 : decode cX3_firstFault 9 = .ok (.if_icmp .ge 28, 3) := by decide +kernel
theorem dX3_firstFault_12 : decode cX3_firstFault 12 = .ok (.iload_n 1, 1) := by decide +kernel
theorem dX3_firstFault_13 : decode cX3_firstFault 13 = .ok (.aload_n 0, 1) := by decide +kernel
theorem dX3_firstFault_14 : decode cX3_firstFault 14 = .ok (.getfield 11, 3) := by decide +kernel
theorem dX3_firstFault_17 : decode cX3_firstFault 17 = .ok (.iload_n 2, 1) := by decide +kernel
theorem dX3_firstFault_18 : decode cX3_firstFault 18 = .ok (.caload, 1) := by decide +kernel
theorem dX3_firstFault_19 : decode cX3_firstFault 19 = .ok (.invokestatic 27, 3) := by decide +kernel
theorem dX3_firstFault_22 : decode cX3_firstFault 22 = .ok (.istore_n 1, 1) := by decide +kernel
theorem dX3_firstFault_23 : decode cX3_firstFault 23 = .ok (.iload_n 1, 1) := by decide +kernel
theorem dX3_firstFault_24 : decode cX3_firstFault 24 = .ok (.bipush 6, 2) := by decide +kernel
theorem dX3_firstFault_26 : decode cX3_firstFault 26 = .ok (.if_icmp .ne 5, 3) := by decide +kernel
theorem dX3_firstFault_29 : decode cX3_firstFault 29 = .ok (.iload_n 2, 1) := by decide +kernel
theorem dX3_firstFault_30 : decode cX3_firstFault 30 = .ok (.ireturn, 1) := by decide +kernel
theorem dX3_firstFault_31 : decode cX3_firstFault 31 = .ok (.iinc 2 1, 3) := by decide +kernel
theorem dX3_firstFault_34 : decode cX3_firstFault 34 = .ok (.goto (-30), 3) := by decide +kernel
theorem dX3_firstFault_37 : decode cX3_firstFault 37 = .ok (.iload_n 1, 1) := by decide +kernel
theorem dX3_firstFault_38 : decode cX3_firstFault 38 = .ok (.iconst 4, 1) := by decide +kernel
theorem dX3_firstFault_39 : decode cX3_firstFault 39 = .ok (.if_icmp .eq 8, 3) := by decide +kernel
theorem dX3_firstFault_42 : decode cX3_firstFault 42 = .ok (.iload_n 1, 1) := by decide +kernel
theorem dX3_firstFault_43 : decode cX3_firstFault 43 = .ok (.iconst 5, 1) := by decide +kernel
theorem dX3_firstFault_44 : decode cX3_firstFault 44 = .ok (.if_icmp .ne 8, 3) := by decide +kernel
theorem dX3_firstFault_47 : decode cX3_firstFault 47 = .ok (.bipush (-6), 2) := by decide +kernel
theorem dX3_firstFault_49 : decode cX3_firstFault 49 = .ok (.goto 7, 3) := by decide +kernel
theorem dX3_firstFault_52 : decode cX3_firstFault 52 = .ok (.aload_n 0, 1) := by decide +kernel
theorem dX3_firstFault_53 : decode cX3_firstFault 53 = .ok (.getfield 19, 3) := by decide +kernel
theorem dX3_firstFault_56 : decode cX3_firstFault 56 = .ok (.ireturn, 1) := by decide +kernel
set_option maxRecDepth 20000 in
theorem ggX3_dueBehind_X3_behindOrder : GoodIn wsX3_dueBehind wsX3_behindOrder := goodIn_r _ [4] (by decide +kernel) (by decide +kernel)
set_option maxRecDepth 20000 in
theorem gX3_dueBehind_X3_behindOrder : GoodIn wsX3_dueBehind (va_wsS RX3 31 yX3_behindOrder wsX3_behindOrder) := goodIn_app (goodIn_of _ (by decide +kernel)) ggX3_dueBehind_X3_behindOrder
set_option maxRecDepth 20000 in
theorem ggX3_dueBehind_X3_isDigit : GoodIn wsX3_dueBehind wsX3_isDigit := goodIn_r _ [7] (by decide +kernel) (by decide +kernel)
set_option maxRecDepth 20000 in
theorem gX3_dueBehind_X3_isDigit : GoodIn wsX3_dueBehind (va_wsS RX3 35 yX3_isDigit wsX3_isDigit) := goodIn_app (goodIn_of _ (by decide +kernel)) ggX3_dueBehind_X3_isDigit
theorem dX3_dueBehind_0 : decode cX3_dueBehind 0 = .ok (.iload_n 0, 1) := by decide +kernel
theorem dX3_dueBehind_1 : decode cX3_dueBehind 1 = .ok (.tableswitch 133 0 5 #[39, 44, 63, 76, 98, 120], 39) := by decide +kernel
theorem dX3_dueBehind_40 : decode cX3_dueBehind 40 = .ok (.iload_n 1, 1) := by decide +kernel
theorem dX3_dueBehind_41 : decode cX3_dueBehind 41 = .ok (.invokestatic 31, 3) := by decide +kernel
theorem dX3_dueBehind_44 : decode cX3_dueBehind 44 = .ok (.ireturn, 1) := by decide +kernel
theorem dX3_dueBehind_45 : decode cX3_dueBehind 45 = .ok (.iload_n 1, 1) := by decide +kernel
theorem dX3_dueBehind_46 : decode cX3_dueBehind 46 = .ok (.bipush 48, 2) := by decide +kernel
theorem dX3_dueBehind_48 : decode cX3_dueBehind 48 = .ok (.if_icmp .lt 13, 3) := by decide +kernel
theorem dX3_dueBehind_51 : decode cX3_dueBehind 51 = .ok (.iload_n 1, 1) := by decide +kernel
theorem dX3_dueBehind_52 : decode cX3_dueBehind 52 = .ok (.bipush 55, 2) := by decide +kernel
theorem dX3_dueBehind_54 : decode cX3_dueBehind 54 = .ok (.if_icmp .gt 7, 3) := by decide +kernel
theorem dX3_dueBehind_57 : decode cX3_dueBehind 57 = .ok (.iconst 2, 1) := by decide +kernel
theorem dX3_dueBehind_58 : decode cX3_dueBehind 58 = .ok (.goto 5, 3) := by decide +kernel
theorem dX3_dueBehind_61 : decode cX3_dueBehind 61 = .ok (.bipush 6, 2) := by decide +kernel
theorem dX3_dueBehind_63 : decode cX3_dueBehind 63 = .ok (.ireturn, 1) := by decide +kernel
theorem dX3_dueBehind_64 : decode cX3_dueBehind 64 = .ok (.iload_n 1, 1) := by decide +kernel
theorem dX3_dueBehind_65 : decode cX3_dueBehind 65 = .ok (.bipush 61, 2) := by decide +kernel
theorem dX3_dueBehind_67 : decode cX3_dueBehind 67 = .ok (.if_icmp .ne 7, 3) := by decide +kernel
theorem dX3_dueBehind_70 : decode cX3_dueBehind 70 = .ok (.iconst 3, 1) := by decide +kernel
theorem dX3_dueBehind_71 : decode cX3_dueBehind 71 = .ok (.goto 5, 3) := by decide +kernel
theorem dX3_dueBehind_74 : decode cX3_dueBehind 74 = .ok (.bipush 6, 2) := by decide +kernel
theorem dX3_dueBehind_76 : decode cX3_dueBehind 76 = .ok (.ireturn, 1) := by decide +kernel
theorem dX3_dueBehind_77 : decode cX3_dueBehind 77 = .ok (.iload_n 1, 1) := by decide +kernel
theorem dX3_dueBehind_78 : decode cX3_dueBehind 78 = .ok (.bipush 48, 2) := by decide +kernel
theorem dX3_dueBehind_80 : decode cX3_dueBehind 80 = .ok (.if_icmp .ne 5, 3) := by decide +kernel
theorem dX3_dueBehind_83 : decode cX3_dueBehind 83 = .ok (.iconst 5, 1) := by decide +kernel
theorem dX3_dueBehind_84 : decode cX3_dueBehind 84 = .ok (.ireturn, 1) := by decide +kernel
theorem dX3_dueBehind_85 : decode cX3_dueBehind 85 = .ok (.iload_n 1, 1) := by decide +kernel
theorem dX3_dueBehind_86 : decode cX3_dueBehind 86 = .ok (.invokestatic 35, 3) := by decide +kernel
theorem dX3_dueBehind_89 : decode cX3_dueBehind 89 = .ok (.ifCond .eq 7, 3) := by decide +kernel
theorem dX3_dueBehind_92 : decode cX3_dueBehind 92 = .ok (.iconst 4, 1) := by decide +kernel
theorem dX3_dueBehind_93 : decode cX3_dueBehind 93 = .ok (.goto 5, 3) := by decide +kernel
theorem dX3_dueBehind_96 : decode cX3_dueBehind 96 = .ok (.bipush 6, 2) := by decide +kernel
theorem dX3_dueBehind_98 : decode cX3_dueBehind 98 = .ok (.ireturn, 1) := by decide +kernel
theorem dX3_dueBehind_99 : decode cX3_dueBehind 99 = .ok (.iload_n 1, 1) := by decide +kernel
theorem dX3_dueBehind_100 : decode cX3_dueBehind 100 = .ok (.invokestatic 35, 3) := by decide +kernel
theorem dX3_dueBehind_103 : decode cX3_dueBehind 103 = .ok (.ifCond .eq 5, 3) := by decide +kernel
theorem dX3_dueBehind_106 : decode cX3_dueBehind 106 = .ok (.iconst 5, 1) := by decide +kernel
theorem dX3_dueBehind_107 : decode cX3_dueBehind 107 = .ok (.ireturn, 1) := by decide +kernel
theorem dX3_dueBehind_108 : decode cX3_dueBehind 108 = .ok (.iload_n 1, 1) := by decide +kernel
theorem dX3_dueBehind_109 : decode cX3_dueBehind 109 = .ok (.bipush 59, 2) := by decide +kernel
theorem dX3_dueBehind_111 : decode cX3_dueBehind 111 = .ok (.if_icmp .ne 7, 3) := by decide +kernel
theorem dX3_dueBehind_114 : decode cX3_dueBehind 114 = .ok (.iconst 0, 1) := by decide +kernel
theorem dX3_dueBehind_115 : decode cX3_dueBehind 115 = .ok (.goto 5, 3) := by decide +kernel
theorem dX3_dueBehind_118 : decode cX3_dueBehind 118 = .ok (.bipush 6, 2) := by decide +kernel
theorem dX3_dueBehind_120 : decode cX3_dueBehind 120 = .ok (.ireturn, 1) := by decide +kernel
theorem dX3_dueBehind_121 : decode cX3_dueBehind 121 = .ok (.iload_n 1, 1) := by decide +kernel
theorem dX3_dueBehind_122 : decode cX3_dueBehind 122 = .ok (.bipush 59, 2) := by decide +kernel
theorem dX3_dueBehind_124 : decode cX3_dueBehind 124 = .ok (.if_icmp .ne 7, 3) := by decide +kernel
theorem dX3_dueBehind_127 : decode cX3_dueBehind 127 = .ok (.iconst 0, 1) := by decide +kernel
theorem dX3_dueBehind_128 : decode cX3_dueBehind 128 = .ok (.goto 5, 3) := by decide +kernel
theorem dX3_dueBehind_131 : decode cX3_dueBehind 131 = .ok (.bipush 6, 2) := by decide +kernel
theorem dX3_dueBehind_133 : decode cX3_dueBehind 133 = .ok (.ireturn, 1) := by decide +kernel
theorem dX3_dueBehind_134 : decode cX3_dueBehind 134 = .ok (.bipush 6, 2) := by decide +kernel
theorem dX3_dueBehind_136 : decode cX3_dueBehind 136 = .ok (.ireturn, 1) := by decide +kernel
theorem dX3_behindOrder_0 : decode cX3_behindOrder 0 = .ok (.iload_n 0, 1) := by decide +kernel
theorem dX3_behindOrder_1 : decode cX3_behindOrder 1 = .ok (.bipush 116, 2) := by decide +kernel
theorem dX3_behindOrder_3 : decode cX3_behindOrder 3 = .ok (.if_icmp .ne 5, 3) := by decide +kernel
theorem dX3_behindOrder_6 : decode cX3_behindOrder 6 = .ok (.iconst 1, 1) := by decide +kernel
theorem dX3_behindOrder_7 : decode cX3_behindOrder 7 = .ok (.ireturn, 1) := by decide +kernel
theorem dX3_behindOrder_8 : decode cX3_behindOrder 8 = .ok (.iload_n 0, 1) := by decide +kernel
theorem dX3_behindOrder_9 : decode cX3_behindOrder 9 = .ok (.bipush 98, 2) := by decide +kernel
theorem dX3_behindOrder_11 : decode cX3_behindOrder 11 = .ok (.if_icmp .eq 15, 3) := by decide +kernel
theorem dX3_behindOrder_14 : decode cX3_behindOrder 14 = .ok (.iload_n 0, 1) := by decide +kernel
theorem dX3_behindOrder_15 : decode cX3_behindOrder 15 = .ok (.bipush 119, 2) := by decide +kernel
theorem dX3_behindOrder_17 : decode cX3_behindOrder 17 = .ok (.if_icmp .eq 9, 3) := by decide +kernel
theorem dX3_behindOrder_20 : decode cX3_behindOrder 20 = .ok (.iload_n 0, 1) := by decide +kernel
theorem dX3_behindOrder_21 : decode cX3_behindOrder 21 = .ok (.bipush 115, 2) := by decide +kernel
theorem dX3_behindOrder_23 : decode cX3_behindOrder 23 = .ok (.if_icmp .ne 7, 3) := by decide +kernel
theorem dX3_behindOrder_26 : decode cX3_behindOrder 26 = .ok (.iconst 3, 1) := by decide +kernel
theorem dX3_behindOrder_27 : decode cX3_behindOrder 27 = .ok (.goto 5, 3) := by decide +kernel
theorem dX3_behindOrder_30 : decode cX3_behindOrder 30 = .ok (.bipush 6, 2) := by decide +kernel
theorem dX3_behindOrder_32 : decode cX3_behindOrder 32 = .ok (.ireturn, 1) := by decide +kernel
theorem dX3_isDigit_0 : decode cX3_isDigit 0 = .ok (.iload_n 0, 1) := by decide +kernel
theorem dX3_isDigit_1 : decode cX3_isDigit 1 = .ok (.bipush 48, 2) := by decide +kernel
theorem dX3_isDigit_3 : decode cX3_isDigit 3 = .ok (.if_icmp .lt 13, 3) := by decide +kernel
theorem dX3_isDigit_6 : decode cX3_isDigit 6 = .ok (.iload_n 0, 1) := by decide +kernel
theorem dX3_isDigit_7 : decode cX3_isDigit 7 = .ok (.bipush 57, 2) := by decide +kernel
theorem dX3_isDigit_9 : decode cX3_isDigit 9 = .ok (.if_icmp .gt 7, 3) := by decide +kernel
theorem dX3_isDigit_12 : decode cX3_isDigit 12 = .ok (.iconst 1, 1) := by decide +kernel
theorem dX3_isDigit_13 : decode cX3_isDigit 13 = .ok (.goto 4, 3) := by decide +kernel
theorem dX3_isDigit_16 : decode cX3_isDigit 16 = .ok (.iconst 0, 1) := by decide +kernel
theorem dX3_isDigit_17 : decode cX3_isDigit 17 = .ok (.ireturn, 1) := by decide +kernel
set_option maxRecDepth 20000 in
theorem ggX3_isOrder_X3_signAt : GoodIn wsX3_isOrder wsX3_signAt := goodIn_r _ [5, 6, 7, 8, 9] (by decide +kernel) (by decide +kernel)
set_option maxRecDepth 20000 in
theorem gX3_isOrder_X3_signAt : GoodIn wsX3_isOrder (wsV RX3 39 RX3 yX3_signAt wsX3_signAt) := goodIn_app (goodIn_of _ (by decide +kernel)) ggX3_isOrder_X3_signAt
theorem dX3_isOrder_0 : decode cX3_isOrder 0 = .ok (.iload_n 1, 1) := by decide +kernel
theorem dX3_isOrder_1 : decode cX3_isOrder 1 = .ok (.ifCond .eq 15, 3) := by decide +kernel
theorem dX3_isOrder_4 : decode cX3_isOrder 4 = .ok (.aload_n 0, 1) := by decide +kernel
theorem dX3_isOrder_5 : decode cX3_isOrder 5 = .ok (.iload_n 1, 1) := by decide +kernel
theorem dX3_isOrder_6 : decode cX3_isOrder 6 = .ok (.iconst 1, 1) := by decide +kernel
theorem dX3_isOrder_7 : decode cX3_isOrder 7 = .ok (.isub, 1) := by decide +kernel
theorem dX3_isOrder_8 : decode cX3_isOrder 8 = .ok (.invokevirtual 39, 3) := by decide +kernel
theorem dX3_isOrder_11 : decode cX3_isOrder 11 = .ok (.bipush 59, 2) := by decide +kernel
theorem dX3_isOrder_13 : decode cX3_isOrder 13 = .ok (.if_icmp .ne 7, 3) := by decide +kernel
theorem dX3_isOrder_16 : decode cX3_isOrder 16 = .ok (.iconst 1, 1) := by decide +kernel
theorem dX3_isOrder_17 : decode cX3_isOrder 17 = .ok (.goto 4, 3) := by decide +kernel
theorem dX3_isOrder_20 : decode cX3_isOrder 20 = .ok (.iconst 0, 1) := by decide +kernel
theorem dX3_isOrder_21 : decode cX3_isOrder 21 = .ok (.ireturn, 1) := by decide +kernel
set_option maxRecDepth 20000 in
theorem ggX3_numberAt_X3_signAt : GoodIn wsX3_numberAt wsX3_signAt := goodIn_r _ [6, 1, 7, 11, 12] (by decide +kernel) (by decide +kernel)
set_option maxRecDepth 20000 in
theorem gX3_numberAt_X3_signAt : GoodIn wsX3_numberAt (wsV RX3 39 RX3 yX3_signAt wsX3_signAt) := goodIn_app (goodIn_of _ (by decide +kernel)) ggX3_numberAt_X3_signAt
set_option maxRecDepth 20000 in
theorem ggX3_numberAt_X3_isDigit : GoodIn wsX3_numberAt wsX3_isDigit := goodIn_r _ [10] (by decide +kernel) (by decide +kernel)
set_option maxRecDepth 20000 in
theorem gX3_numberAt_X3_isDigit : GoodIn wsX3_numberAt (va_wsS RX3 35 yX3_isDigit wsX3_isDigit) := goodIn_app (goodIn_of _ (by decide +kernel)) ggX3_numberAt_X3_isDigit
theorem dX3_numberAt_0 : decode cX3_numberAt 0 = .ok (.iconst 0, 1) := by decide +kernel
theorem dX3_numberAt_1 : decode cX3_numberAt 1 = .ok (.istore_n 2, 1) := by decide +kernel
theorem dX3_numberAt_2 : decode cX3_numberAt 2 = .ok (.iload_n 1, 1) := by decide +kernel
theorem dX3_numberAt_3 : decode cX3_numberAt 3 = .ok (.istore_n 3, 1) := by decide +kernel
theorem dX3_numberAt_4 : decode cX3_numberAt 4 = .ok (.iload_n 3, 1) := by decide +kernel
theorem dX3_numberAt_5 : decode cX3_numberAt 5 = .ok (.aload_n 0, 1) := by decide +kernel
theorem dX3_numberAt_6 : decode cX3_numberAt 6 = .ok (.getfield 19, 3) := by decide +kernel
theorem dX3_numberAt_9 : decode cX3_numberAt 9 = .ok (.if_icmp .ge 34, 3) := by decide +kernel
theorem dX3_numberAt_12 : decode cX3_numberAt 12 = .ok (.aload_n 0, 1) := by decide +kernel
theorem dX3_numberAt_13 : decode cX3_numberAt 13 = .ok (.iload_n 3, 1) := by decide +kernel
theorem dX3_numberAt_14 : decode cX3_numberAt 14 = .ok (.invokevirtual 39, 3) := by decide +kernel
theorem dX3_numberAt_17 : decode cX3_numberAt 17 = .ok (.invokestatic 35, 3) := by decide +kernel
theorem dX3_numberAt_20 : decode cX3_numberAt 20 = .ok (.ifCond .eq 23, 3) := by decide +kernel
theorem dX3_numberAt_23 : decode cX3_numberAt 23 = .ok (.bipush 10, 2) := by decide +kernel
theorem dX3_numberAt_25 : decode cX3_numberAt 25 = .ok (.iload_n 2, 1) := by decide +kernel
theorem dX3_numberAt_26 : decode cX3_numberAt 26 = .ok (.imul, 1) := by decide +kernel
theorem dX3_numberAt_27 : decode cX3_numberAt 27 = .ok (.aload_n 0, 1) := by decide +kernel
theorem dX3_numberAt_28 : decode cX3_numberAt 28 = .ok (.iload_n 3, 1) := by decide +kernel
theorem dX3_numberAt_29 : decode cX3_numberAt 29 = .ok (.invokevirtual 39, 3) := by decide +kernel
theorem dX3_numberAt_32 : decode cX3_numberAt 32 = .ok (.bipush 48, 2) := by decide +kernel
theorem dX3_numberAt_34 : decode cX3_numberAt 34 = .ok (.isub, 1) := by decide +kernel
theorem dX3_numberAt_35 : decode cX3_numberAt 35 = .ok (.iadd, 1) := by decide +kernel
theorem dX3_numberAt_36 : decode cX3_numberAt 36 = .ok (.istore_n 2, 1) := by decide +kernel
theorem dX3_numberAt_37 : decode cX3_numberAt 37 = .ok (.iinc 3 1, 3) := by decide +kernel
theorem dX3_numberAt_40 : decode cX3_numberAt 40 = .ok (.goto (-36), 3) := by decide +kernel
theorem dX3_numberAt_43 : decode cX3_numberAt 43 = .ok (.iload_n 2, 1) := by decide +kernel
theorem dX3_numberAt_44 : decode cX3_numberAt 44 = .ok (.ireturn, 1) := by decide +kernel
theorem dJ9_floorDiv_7cf53_0 : decode cJ9_floorDiv_7cf53 0 = .ok (.iload_n 0, 1) := by decide +kernel
theorem dJ9_floorDiv_7cf53_1 : decode cJ9_floorDiv_7cf53 1 = .ok (.iload_n 1, 1) := by decide +kernel
theorem dJ9_floorDiv_7cf53_2 : decode cJ9_floorDiv_7cf53 2 = .ok (.idiv, 1) := by decide +kernel
theorem dJ9_floorDiv_7cf53_3 : decode cJ9_floorDiv_7cf53 3 = .ok (.istore_n 2, 1) := by decide +kernel
theorem dJ9_floorDiv_7cf53_4 : decode cJ9_floorDiv_7cf53 4 = .ok (.iload_n 0, 1) := by decide +kernel
theorem dJ9_floorDiv_7cf53_5 : decode cJ9_floorDiv_7cf53 5 = .ok (.iload_n 1, 1) := by decide +kernel
theorem dJ9_floorDiv_7cf53_6 : decode cJ9_floorDiv_7cf53 6 = .ok (.ixor, 1) := by decide +kernel
theorem dJ9_floorDiv_7cf53_7 : decode cJ9_floorDiv_7cf53 7 = .ok (.ifCond .ge 14, 3) := by decide +kernel
theorem dJ9_floorDiv_7cf53_10 : decode cJ9_floorDiv_7cf53 10 = .ok (.iload_n 2, 1) := by decide +kernel
theorem dJ9_floorDiv_7cf53_11 : decode cJ9_floorDiv_7cf53 11 = .ok (.iload_n 1, 1) := by decide +kernel
theorem dJ9_floorDiv_7cf53_12 : decode cJ9_floorDiv_7cf53 12 = .ok (.imul, 1) := by decide +kernel
theorem dJ9_floorDiv_7cf53_13 : decode cJ9_floorDiv_7cf53 13 = .ok (.iload_n 0, 1) := by decide +kernel
theorem dJ9_floorDiv_7cf53_14 : decode cJ9_floorDiv_7cf53 14 = .ok (.if_icmp .eq 7, 3) := by decide +kernel
theorem dJ9_floorDiv_7cf53_17 : decode cJ9_floorDiv_7cf53 17 = .ok (.iload_n 2, 1) := by decide +kernel
theorem dJ9_floorDiv_7cf53_18 : decode cJ9_floorDiv_7cf53 18 = .ok (.iconst 1, 1) := by decide +kernel
theorem dJ9_floorDiv_7cf53_19 : decode cJ9_floorDiv_7cf53 19 = .ok (.isub, 1) := by decide +kernel
theorem dJ9_floorDiv_7cf53_20 : decode cJ9_floorDiv_7cf53 20 = .ok (.ireturn, 1) := by decide +kernel
theorem dJ9_floorDiv_7cf53_21 : decode cJ9_floorDiv_7cf53 21 = .ok (.iload_n 2, 1) := by decide +kernel
theorem dJ9_floorDiv_7cf53_22 : decode cJ9_floorDiv_7cf53 22 = .ok (.ireturn, 1) := by decide +kernel
theorem dJ9_floorMod_7cf53_0 : decode cJ9_floorMod_7cf53 0 = .ok (.iload_n 0, 1) := by decide +kernel
theorem dJ9_floorMod_7cf53_1 : decode cJ9_floorMod_7cf53 1 = .ok (.iload_n 1, 1) := by decide +kernel
theorem dJ9_floorMod_7cf53_2 : decode cJ9_floorMod_7cf53 2 = .ok (.irem, 1) := by decide +kernel
theorem dJ9_floorMod_7cf53_3 : decode cJ9_floorMod_7cf53 3 = .ok (.istore_n 2, 1) := by decide +kernel
theorem dJ9_floorMod_7cf53_4 : decode cJ9_floorMod_7cf53 4 = .ok (.iload_n 0, 1) := by decide +kernel
theorem dJ9_floorMod_7cf53_5 : decode cJ9_floorMod_7cf53 5 = .ok (.iload_n 1, 1) := by decide +kernel
theorem dJ9_floorMod_7cf53_6 : decode cJ9_floorMod_7cf53 6 = .ok (.ixor, 1) := by decide +kernel
theorem dJ9_floorMod_7cf53_7 : decode cJ9_floorMod_7cf53 7 = .ok (.ifCond .ge 11, 3) := by decide +kernel
theorem dJ9_floorMod_7cf53_10 : decode cJ9_floorMod_7cf53 10 = .ok (.iload_n 2, 1) := by decide +kernel
theorem dJ9_floorMod_7cf53_11 : decode cJ9_floorMod_7cf53 11 = .ok (.ifCond .eq 7, 3) := by decide +kernel
theorem dJ9_floorMod_7cf53_14 : decode cJ9_floorMod_7cf53 14 = .ok (.iload_n 2, 1) := by decide +kernel
theorem dJ9_floorMod_7cf53_15 : decode cJ9_floorMod_7cf53 15 = .ok (.iload_n 1, 1) := by decide +kernel
theorem dJ9_floorMod_7cf53_16 : decode cJ9_floorMod_7cf53 16 = .ok (.iadd, 1) := by decide +kernel
theorem dJ9_floorMod_7cf53_17 : decode cJ9_floorMod_7cf53 17 = .ok (.ireturn, 1) := by decide +kernel
theorem dJ9_floorMod_7cf53_18 : decode cJ9_floorMod_7cf53 18 = .ok (.iload_n 2, 1) := by decide +kernel
theorem dJ9_floorMod_7cf53_19 : decode cJ9_floorMod_7cf53 19 = .ok (.ireturn, 1) := by decide +kernel
theorem dJ9_abs_0f7a4_0 : decode cJ9_abs_0f7a4 0 = .ok (.iload_n 0, 1) := by decide +kernel
theorem dJ9_abs_0f7a4_1 : decode cJ9_abs_0f7a4 1 = .ok (.ifCond .ge 8, 3) := by decide +kernel
theorem dJ9_abs_0f7a4_4 : decode cJ9_abs_0f7a4 4 = .ok (.iload_n 0, 1) := by decide +kernel
theorem dJ9_abs_0f7a4_5 : decode cJ9_abs_0f7a4 5 = .ok (.ineg, 1) := by decide +kernel
theorem dJ9_abs_0f7a4_6 : decode cJ9_abs_0f7a4 6 = .ok (.goto 4, 3) := by decide +kernel
theorem dJ9_abs_0f7a4_9 : decode cJ9_abs_0f7a4 9 = .ok (.iload_n 0, 1) := by decide +kernel
theorem dJ9_abs_0f7a4_10 : decode cJ9_abs_0f7a4 10 = .ok (.ireturn, 1) := by decide +kernel
theorem dJ9_min_7cf53_0 : decode cJ9_min_7cf53 0 = .ok (.iload_n 0, 1) := by decide +kernel
theorem dJ9_min_7cf53_1 : decode cJ9_min_7cf53 1 = .ok (.iload_n 1, 1) := by decide +kernel
theorem dJ9_min_7cf53_2 : decode cJ9_min_7cf53 2 = .ok (.if_icmp .gt 7, 3) := by decide +kernel
theorem dJ9_min_7cf53_5 : decode cJ9_min_7cf53 5 = .ok (.iload_n 0, 1) := by decide +kernel
theorem dJ9_min_7cf53_6 : decode cJ9_min_7cf53 6 = .ok (.goto 4, 3) := by decide +kernel
theorem dJ9_min_7cf53_9 : decode cJ9_min_7cf53 9 = .ok (.iload_n 1, 1) := by decide +kernel
theorem dJ9_min_7cf53_10 : decode cJ9_min_7cf53 10 = .ok (.ireturn, 1) := by decide +kernel
end
section
set_option maxRecDepth 20000 in
theorem ggX4_init_X0_init : GoodIn wsX4_init wsX0_init := goodIn_r _ [22, 23, 2, 3, 24, 25, 26, 27, 28, 29, 30, 31, 32, 33, 34, 35, 36, 37, 38, 39, 40, 41, 42, 43, 44, 57, 58, 59, 60, 61, 62, 63, 64, 65, 66, 78, 79, 80, 81, 82, 83, 84] (by decide +kernel) (by decide +kernel)
set_option maxRecDepth 20000 in
theorem gX4_init_X0_init : GoodIn wsX4_init (wsX0_init) := ggX4_init_X0_init
set_option maxRecDepth 20000 in
theorem ggX4_init_X2_init : GoodIn wsX4_init wsX2_init := goodIn_r _ [47, 48, 2, 3, 49, 50, 5, 6, 51, 21, 22, 23, 24, 25, 26, 27, 28, 29, 30, 31, 32, 33, 34, 35, 36, 37, 38, 39, 40, 41, 42, 43, 44, 73, 74, 75, 57, 58, 59, 60, 61, 62, 63, 64, 65, 66, 78, 79, 80, 81, 82, 83, 84] (by decide +kernel) (by decide +kernel)
set_option maxRecDepth 20000 in
theorem gX4_init_X2_init : GoodIn wsX4_init (wsX2_init) := ggX4_init_X2_init
set_option maxRecDepth 20000 in
theorem ggX4_init_X3_init : GoodIn wsX4_init wsX3_init := goodIn_r _ [53, 54, 2, 3, 55, 56, 76, 77] (by decide +kernel) (by decide +kernel)
set_option maxRecDepth 20000 in
theorem gX4_init_X3_init_n36 : GoodIn wsX4_init (wsX3_init) := ggX4_init_X3_init
theorem dX4_init_0 : decode cX4_init 0 = .ok (.aload_n 0, 1) := by decide +kernel
theorem dX4_init_1 : decode cX4_init 1 = .ok (.invokespecial 1, 3) := by decide +kernel
theorem dX4_init_4 : decode cX4_init 4 = .ok (.aload_n 0, 1) := by decide +kernel
theorem dX4_init_5 : decode cX4_init 5 = .ok (.new 7, 3) := by decide +kernel
theorem dX4_init_8 : decode cX4_init 8 = .ok (.dup, 1) := by decide +kernel
theorem dX4_init_9 : decode cX4_init 9 = .ok (.invokespecial 9, 3) := by decide +kernel
theorem dX4_init_12 : decode cX4_init 12 = .ok (.putfield 10, 3) := by decide +kernel
theorem dX4_init_15 : decode cX4_init 15 = .ok (.aload_n 0, 1) := by decide +kernel
theorem dX4_init_16 : decode cX4_init 16 = .ok (.new 7, 3) := by decide +kernel
theorem dX4_init_19 : decode cX4_init 19 = .ok (.dup, 1) := by decide +kernel
theorem dX4_init_20 : decode cX4_init 20 = .ok (.invokespecial 9, 3) := by decide +kernel
theorem dX4_init_23 : decode cX4_init 23 = .ok (.putfield 16, 3) := by decide +kernel
theorem dX4_init_26 : decode cX4_init 26 = .ok (.aload_n 0, 1) := by decide +kernel
theorem dX4_init_27 : decode cX4_init 27 = .ok (.new 19, 3) := by decide +kernel
theorem dX4_init_30 : decode cX4_init 30 = .ok (.dup, 1) := by decide +kernel
theorem dX4_init_31 : decode cX4_init 31 = .ok (.invokespecial 21, 3) := by decide +kernel
theorem dX4_init_34 : decode cX4_init 34 = .ok (.putfield 22, 3) := by decide +kernel
theorem dX4_init_37 : decode cX4_init 37 = .ok (.aload_n 0, 1) := by decide +kernel
theorem dX4_init_38 : decode cX4_init 38 = .ok (.iconst 2, 1) := by decide +kernel
theorem dX4_init_39 : decode cX4_init 39 = .ok (.anewarray 7, 3) := by decide +kernel
theorem dX4_init_42 : decode cX4_init 42 = .ok (.dup, 1) := by decide +kernel
theorem dX4_init_43 : decode cX4_init 43 = .ok (.iconst 0, 1) := by decide +kernel
theorem dX4_init_44 : decode cX4_init 44 = .ok (.new 7, 3) := by decide +kernel
theorem dX4_init_47 : decode cX4_init 47 = .ok (.dup, 1) := by decide +kernel
theorem dX4_init_48 : decode cX4_init 48 = .ok (.invokespecial 9, 3) := by decide +kernel
theorem dX4_init_51 : decode cX4_init 51 = .ok (.aastore, 1) := by decide +kernel
theorem dX4_init_52 : decode cX4_init 52 = .ok (.dup, 1) := by decide +kernel
theorem dX4_init_53 : decode cX4_init 53 = .ok (.iconst 1, 1) := by decide +kernel
theorem dX4_init_54 : decode cX4_init 54 = .ok (.new 7, 3) := by decide +kernel
theorem dX4_init_57 : decode cX4_init 57 = .ok (.dup, 1) := by decide +kernel
theorem dX4_init_58 : decode cX4_init 58 = .ok (.invokespecial 9, 3) := by decide +kernel
theorem dX4_init_61 : decode cX4_init 61 = .ok (.aastore, 1) := by decide +kernel
theorem dX4_init_62 : decode cX4_init 62 = .ok (.putfield 26, 3) := by decide +kernel
theorem dX4_init_65 : decode cX4_init 65 = .ok (.aload_n 0, 1) := by decide +kernel
theorem dX4_init_66 : decode cX4_init 66 = .ok (.aload_n 0, 1) := by decide +kernel
theorem dX4_init_67 : decode cX4_init 67 = .ok (.getfield 26, 3) := by decide +kernel
theorem dX4_init_70 : decode cX4_init 70 = .ok (.arraylength, 1) := by decide +kernel
theorem dX4_init_71 : decode cX4_init 71 = .ok (.newarray .boolean, 2) := by decide +kernel
theorem dX4_init_73 : decode cX4_init 73 = .ok (.putfield 30, 3) := by decide +kernel
theorem dX4_init_76 : decode cX4_init 76 = .ok (.aload_n 0, 1) := by decide +kernel
theorem dX4_init_77 : decode cX4_init 77 = .ok (.new 34, 3) := by decide +kernel
theorem dX4_init_80 : decode cX4_init 80 = .ok (.dup, 1) := by decide +kernel
theorem dX4_init_81 : decode cX4_init 81 = .ok (.invokespecial 36, 3) := by decide +kernel
theorem dX4_init_84 : decode cX4_init 84 = .ok (.putfield 37, 3) := by decide +kernel
theorem dX4_init_87 : decode cX4_init 87 = .ok (.return_, 1) := by decide +kernel
set_option maxRecDepth 20000 in
theorem ggX4_set_X2_note : GoodIn wsX4_set wsX2_note := goodIn_r _ [7, 8, 9, 10, 11, 6, 12, 13, 14, 15, 16, 17, 18, 19, 20, 21, 22, 23, 24, 25, 26, 27, 28, 29, 30, 31, 32, 33, 34, 35, 36, 37, 38, 39, 40, 41, 42, 43, 44, 45, 46, 47, 48, 49, 71, 72, 73, 74, 75, 76, 77, 78, 79, 80, 81, 82, 83, 84, 85, 86, 87, 88, 89, 90] (by decide +kernel) (by decide +kernel)
set_option maxRecDepth 20000 in
theorem gX4_set_X2_note : GoodIn wsX4_set (wsV RX4 41 RX2 yX2_note wsX2_note) := goodIn_app (goodIn_of _ (by decide +kernel)) ggX4_set_X2_note
set_option maxRecDepth 20000 in
theorem ggX4_set_X0_choose : GoodIn wsX4_set wsX0_choose := goodIn_r _ [53, 24, 54, 55, 74, 75, 76, 77, 78, 79, 80, 81, 82, 83] (by decide +kernel) (by decide +kernel)
set_option maxRecDepth 20000 in
theorem gX4_set_X0_choose : GoodIn wsX4_set (wsV RX4 45 RX0 yX0_choose wsX0_choose) := goodIn_app (goodIn_of _ (by decide +kernel)) ggX4_set_X0_choose
set_option maxRecDepth 20000 in
theorem ggX4_set_X4_recorded : GoodIn wsX4_set wsX4_recorded := goodIn_r _ [60, 1, 61, 62, 63, 6, 64, 8, 14, 15, 16, 17, 18, 65, 66, 67, 68, 69, 70, 71, 72, 73] (by decide +kernel) (by decide +kernel)
set_option maxRecDepth 20000 in
theorem gX4_set_X4_recorded : GoodIn wsX4_set (wsV RX4 49 RX4 yX4_recorded wsX4_recorded) := goodIn_app (goodIn_of _ (by decide +kernel)) ggX4_set_X4_recorded
theorem dX4_set_0 : decode cX4_set 0 = .ok (.aload_n 0, 1) := by decide +kernel
theorem dX4_set_1 : decode cX4_set 1 = .ok (.getfield 22, 3) := by decide +kernel
theorem dX4_set_4 : decode cX4_set 4 = .ok (.aload_n 0, 1) := by decide +kernel
theorem dX4_set_5 : decode cX4_set 5 = .ok (.getfield 10, 3) := by decide +kernel
theorem dX4_set_8 : decode cX4_set 8 = .ok (.invokevirtual 41, 3) := by decide +kernel
theorem dX4_set_11 : decode cX4_set 11 = .ok (.aload_n 0, 1) := by decide +kernel
theorem dX4_set_12 : decode cX4_set 12 = .ok (.aload_n 0, 1) := by decide +kernel
theorem dX4_set_13 : decode cX4_set 13 = .ok (.getfield 10, 3) := by decide +kernel
theorem dX4_set_16 : decode cX4_set 16 = .ok (.iload_n 1, 1) := by decide +kernel
theorem dX4_set_17 : decode cX4_set 17 = .ok (.iload_n 2, 1) := by decide +kernel
theorem dX4_set_18 : decode cX4_set 18 = .ok (.invokevirtual 45, 3) := by decide +kernel
theorem dX4_set_21 : decode cX4_set 21 = .ok (.invokevirtual 49, 3) := by decide +kernel
theorem dX4_set_24 : decode cX4_set 24 = .ok (.ireturn, 1) := by decide +kernel
set_option maxRecDepth 20000 in
theorem ggX4_arrive_X2_note : GoodIn wsX4_arrive wsX2_note := goodIn_r _ [7, 8, 9, 10, 11, 6, 12, 13, 14, 15, 16, 17, 18, 19, 20, 21, 22, 23, 24, 25, 26, 27, 28, 29, 30, 31, 32, 33, 34, 35, 36, 37, 38, 39, 40, 41, 42, 43, 44, 45, 46, 47, 48, 49, 80, 81, 82, 83, 84, 85, 86, 87, 88, 89, 90, 91, 92, 93, 94, 95, 96, 97, 98, 99] (by decide +kernel) (by decide +kernel)
set_option maxRecDepth 20000 in
theorem gX4_arrive_X2_note : GoodIn wsX4_arrive (wsV RX4 41 RX2 yX2_note wsX2_note) := goodIn_app (goodIn_of _ (by decide +kernel)) ggX4_arrive_X2_note
set_option maxRecDepth 20000 in
theorem ggX4_arrive_X0_takeBox : GoodIn wsX4_arrive wsX0_takeBox := goodIn_r _ [53, 30, 31, 29, 54, 55, 41, 56, 57, 58, 59, 60, 43, 44, 61, 62, 63, 64, 45, 46, 47, 48, 49, 83, 84, 85, 86, 87, 88, 89, 90, 91, 92, 93, 94, 95, 96, 97, 98, 99] (by decide +kernel) (by decide +kernel)
set_option maxRecDepth 20000 in
theorem gX4_arrive_X0_takeBox : GoodIn wsX4_arrive (wsV RX4 53 RX0 yX0_takeBox wsX0_takeBox) := goodIn_app (goodIn_of _ (by decide +kernel)) ggX4_arrive_X0_takeBox
set_option maxRecDepth 20000 in
theorem ggX4_arrive_X4_recorded : GoodIn wsX4_arrive wsX4_recorded := goodIn_r _ [69, 1, 70, 71, 72, 6, 73, 8, 14, 15, 16, 17, 18, 74, 75, 76, 77, 78, 79, 80, 81, 82] (by decide +kernel) (by decide +kernel)
set_option maxRecDepth 20000 in
theorem gX4_arrive_X4_recorded : GoodIn wsX4_arrive (wsV RX4 49 RX4 yX4_recorded wsX4_recorded) := goodIn_app (goodIn_of _ (by decide +kernel)) ggX4_arrive_X4_recorded
theorem dX4_arrive_0 : decode cX4_arrive 0 = .ok (.aload_n 0, 1) := by decide +kernel
theorem dX4_arrive_1 : decode cX4_arrive 1 = .ok (.getfield 22, 3) := by decide +kernel
theorem dX4_arrive_4 : decode cX4_arrive 4 = .ok (.aload_n 0, 1) := by decide +kernel
theorem dX4_arrive_5 : decode cX4_arrive 5 = .ok (.getfield 10, 3) := by decide +kernel
theorem dX4_arrive_8 : decode cX4_arrive 8 = .ok (.invokevirtual 41, 3) := by decide +kernel
theorem dX4_arrive_11 : decode cX4_arrive 11 = .ok (.aload_n 0, 1) := by decide +kernel
theorem dX4_arrive_12 : decode cX4_arrive 12 = .ok (.aload_n 0, 1) := by decide +kernel
theorem dX4_arrive_13 : decode cX4_arrive 13 = .ok (.getfield 10, 3) := by decide +kernel
theorem dX4_arrive_16 : decode cX4_arrive 16 = .ok (.iload_n 1, 1) := by decide +kernel
theorem dX4_arrive_17 : decode cX4_arrive 17 = .ok (.invokevirtual 53, 3) := by decide +kernel
theorem dX4_arrive_20 : decode cX4_arrive 20 = .ok (.invokevirtual 49, 3) := by decide +kernel
theorem dX4_arrive_23 : decode cX4_arrive 23 = .ok (.ireturn, 1) := by decide +kernel
set_option maxRecDepth 20000 in
theorem ggX4_turn_X2_note : GoodIn wsX4_turn wsX2_note := goodIn_r _ [7, 8, 9, 10, 11, 6, 12, 13, 14, 15, 16, 17, 18, 19, 20, 21, 22, 23, 24, 25, 26, 27, 28, 29, 30, 31, 32, 33, 34, 35, 36, 37, 38, 39, 40, 41, 42, 43, 44, 45, 46, 47, 48, 49, 89, 90, 91, 92, 93, 94, 95, 96, 97, 98, 99, 100, 101, 102, 103, 104, 105, 106, 107, 108] (by decide +kernel) (by decide +kernel)
set_option maxRecDepth 20000 in
theorem gX4_turn_X2_note : GoodIn wsX4_turn (wsV RX4 41 RX2 yX2_note wsX2_note) := goodIn_app (goodIn_of _ (by decide +kernel)) ggX4_turn_X2_note
set_option maxRecDepth 20000 in
theorem ggX4_turn_X0_turnBox : GoodIn wsX4_turn wsX0_turnBox := goodIn_r _ [53, 31, 54, 55, 56, 57, 58, 22, 59, 30, 60, 61, 41, 62, 63, 64, 17, 65, 66, 67, 68, 69, 70, 71, 72, 73, 43, 44, 92, 93, 94, 95, 96, 97, 98, 99, 100, 101, 102, 103, 104, 105, 106, 107, 108] (by decide +kernel) (by decide +kernel)
set_option maxRecDepth 20000 in
theorem gX4_turn_X0_turnBox : GoodIn wsX4_turn (wsV RX4 56 RX0 yX0_turnBox wsX0_turnBox) := goodIn_app (goodIn_of _ (by decide +kernel)) ggX4_turn_X0_turnBox
set_option maxRecDepth 20000 in
theorem ggX4_turn_X4_recorded : GoodIn wsX4_turn wsX4_recorded := goodIn_r _ [78, 1, 79, 80, 81, 6, 82, 8, 14, 15, 16, 17, 18, 83, 84, 85, 86, 87, 88, 89, 90, 91] (by decide +kernel) (by decide +kernel)
set_option maxRecDepth 20000 in
theorem gX4_turn_X4_recorded : GoodIn wsX4_turn (wsV RX4 49 RX4 yX4_recorded wsX4_recorded) := goodIn_app (goodIn_of _ (by decide +kernel)) ggX4_turn_X4_recorded
theorem dX4_turn_0 : decode cX4_turn 0 = .ok (.aload_n 0, 1) := by decide +kernel
theorem dX4_turn_1 : decode cX4_turn 1 = .ok (.getfield 22, 3) := by decide +kernel
theorem dX4_turn_4 : decode cX4_turn 4 = .ok (.aload_n 0, 1) := by decide +kernel
theorem dX4_turn_5 : decode cX4_turn 5 = .ok (.getfield 10, 3) := by decide +kernel
theorem dX4_turn_8 : decode cX4_turn 8 = .ok (.invokevirtual 41, 3) := by decide +kernel
theorem dX4_turn_11 : decode cX4_turn 11 = .ok (.aload_n 0, 1) := by decide +kernel
theorem dX4_turn_12 : decode cX4_turn 12 = .ok (.aload_n 0, 1) := by decide +kernel
theorem dX4_turn_13 : decode cX4_turn 13 = .ok (.getfield 10, 3) := by decide +kernel
theorem dX4_turn_16 : decode cX4_turn 16 = .ok (.iload_n 1, 1) := by decide +kernel
theorem dX4_turn_17 : decode cX4_turn 17 = .ok (.iload_n 2, 1) := by decide +kernel
theorem dX4_turn_18 : decode cX4_turn 18 = .ok (.invokevirtual 56, 3) := by decide +kernel
theorem dX4_turn_21 : decode cX4_turn 21 = .ok (.invokevirtual 49, 3) := by decide +kernel
theorem dX4_turn_24 : decode cX4_turn 24 = .ok (.ireturn, 1) := by decide +kernel
set_option maxRecDepth 20000 in
theorem ggX4_pass_X2_note : GoodIn wsX4_pass wsX2_note := goodIn_r _ [7, 8, 9, 10, 11, 6, 12, 13, 14, 15, 16, 17, 18, 19, 20, 21, 22, 23, 24, 25, 26, 27, 28, 29, 30, 31, 32, 33, 34, 35, 36, 37, 38, 39, 40, 41, 42, 43, 44, 45, 46, 47, 48, 49, 149, 150, 151, 152, 153, 154, 155, 156, 157, 158, 159, 160, 161, 162, 163, 164, 165, 166, 167, 168] (by decide +kernel) (by decide +kernel)
set_option maxRecDepth 20000 in
theorem gX4_pass_X2_note : GoodIn wsX4_pass (wsV RX4 41 RX2 yX2_note wsX2_note) := goodIn_app (goodIn_of _ (by decide +kernel)) ggX4_pass_X2_note
set_option maxRecDepth 20000 in
theorem ggX4_pass_X0_letPass : GoodIn wsX4_pass wsX0_letPass := goodIn_r _ [53, 29, 54, 55, 56, 22, 57, 58, 59, 60, 61, 62, 63, 64, 65, 24, 30, 31, 66, 37, 67, 68, 69, 70, 71, 72, 73, 74, 75, 32, 33, 34, 76, 77, 78, 79, 35, 36, 80, 81, 82, 83, 84, 85, 86, 87, 88, 89, 90, 91, 92, 93, 94, 95, 96, 97, 98, 99, 100, 101, 102, 41, 103, 43, 44, 104, 105, 106, 107, 108, 109, 110, 111, 112, 113, 114, 115, 116, 117, 118, 119, 120, 121, 122, 123, 124, 125, 126, 127, 128, 129, 130, 131, 132, 133, 152, 153, 154, 155, 156, 157, 158, 159, 160, 161, 162, 163, 164, 165, 166, 167, 168] (by decide +kernel) (by decide +kernel)
set_option maxRecDepth 20000 in
theorem gX4_pass_X0_letPass : GoodIn wsX4_pass (wsV RX4 59 RX0 yX0_letPass wsX0_letPass) := goodIn_app (goodIn_of _ (by decide +kernel)) ggX4_pass_X0_letPass
set_option maxRecDepth 20000 in
theorem ggX4_pass_X4_recorded : GoodIn wsX4_pass wsX4_recorded := goodIn_r _ [138, 1, 139, 140, 141, 6, 142, 8, 14, 15, 16, 17, 18, 143, 144, 145, 146, 147, 148, 149, 150, 151] (by decide +kernel) (by decide +kernel)
set_option maxRecDepth 20000 in
theorem gX4_pass_X4_recorded : GoodIn wsX4_pass (wsV RX4 49 RX4 yX4_recorded wsX4_recorded) := goodIn_app (goodIn_of _ (by decide +kernel)) ggX4_pass_X4_recorded
theorem dX4_pass_0 : decode cX4_pass 0 = .ok (.aload_n 0, 1) := by decide +kernel
theorem dX4_pass_1 : decode cX4_pass 1 = .ok (.getfield 22, 3) := by decide +kernel
theorem dX4_pass_4 : decode cX4_pass 4 = .ok (.aload_n 0, 1) := by decide +kernel
theorem dX4_pass_5 : decode cX4_pass 5 = .ok (.getfield 10, 3) := by decide +kernel
theorem dX4_pass_8 : decode cX4_pass 8 = .ok (.invokevirtual 41, 3) := by decide +kernel
theorem dX4_pass_11 : decode cX4_pass 11 = .ok (.aload_n 0, 1) := by decide +kernel
theorem dX4_pass_12 : decode cX4_pass 12 = .ok (.aload_n 0, 1) := by decide +kernel
theorem dX4_pass_13 : decode cX4_pass 13 = .ok (.getfield 10, 3) := by decide +kernel
theorem dX4_pass_16 : decode cX4_pass 16 = .ok (.iload_n 1, 1) := by decide +kernel
theorem dX4_pass_17 : decode cX4_pass 17 = .ok (.invokevirtual 59, 3) := by decide +kernel
theorem dX4_pass_20 : decode cX4_pass 20 = .ok (.invokevirtual 49, 3) := by decide +kernel
theorem dX4_pass_23 : decode cX4_pass 23 = .ok (.ireturn, 1) := by decide +kernel
set_option maxRecDepth 20000 in
theorem ggX4_recorded_X2_keepNoted : GoodIn wsX4_recorded wsX2_keepNoted := goodIn_r _ [6, 7, 8, 9, 10, 11, 12, 19, 20, 21] (by decide +kernel) (by decide +kernel)
set_option maxRecDepth 20000 in
theorem gX4_recorded_X2_keepNoted : GoodIn wsX4_recorded (wsV RX4 62 RX2 yX2_keepNoted wsX2_keepNoted) := goodIn_app (goodIn_of _ (by decide +kernel)) ggX4_recorded_X2_keepNoted
theorem dX4_recorded_0 : decode cX4_recorded 0 = .ok (.iload_n 1, 1) := by decide +kernel
theorem dX4_recorded_1 : decode cX4_recorded 1 = .ok (.ifCond .lt 10, 3) := by decide +kernel
theorem dX4_recorded_4 : decode cX4_recorded 4 = .ok (.aload_n 0, 1) := by decide +kernel
theorem dX4_recorded_5 : decode cX4_recorded 5 = .ok (.getfield 22, 3) := by decide +kernel
theorem dX4_recorded_8 : decode cX4_recorded 8 = .ok (.invokevirtual 62, 3) := by decide +kernel
theorem dX4_recorded_11 : decode cX4_recorded 11 = .ok (.iload_n 1, 1) := by decide +kernel
theorem dX4_recorded_12 : decode cX4_recorded 12 = .ok (.ireturn, 1) := by decide +kernel
set_option maxRecDepth 20000 in
theorem ggX4_box_X0_aboutBox : GoodIn wsX4_box wsX0_aboutBox := goodIn_r _ [6, 7, 8, 9, 10, 5, 11, 12, 13, 14, 15, 16, 17, 18, 19, 20, 21, 22, 23, 24, 31, 32, 33, 34, 35, 36, 37, 38, 39, 40, 41, 42, 43, 44, 45, 46, 47] (by decide +kernel) (by decide +kernel)
set_option maxRecDepth 20000 in
theorem gX4_box_X0_aboutBox : GoodIn wsX4_box (wsV RX4 65 RX0 yX0_aboutBox wsX0_aboutBox) := goodIn_app (goodIn_of _ (by decide +kernel)) ggX4_box_X0_aboutBox
theorem dX4_box_0 : decode cX4_box 0 = .ok (.aload_n 0, 1) := by decide +kernel
theorem dX4_box_1 : decode cX4_box 1 = .ok (.getfield 10, 3) := by decide +kernel
theorem dX4_box_4 : decode cX4_box 4 = .ok (.iload_n 1, 1) := by decide +kernel
theorem dX4_box_5 : decode cX4_box 5 = .ok (.iload_n 2, 1) := by decide +kernel
theorem dX4_box_6 : decode cX4_box 6 = .ok (.invokevirtual 65, 3) := by decide +kernel
theorem dX4_box_9 : decode cX4_box 9 = .ok (.ireturn, 1) := by decide +kernel
set_option maxRecDepth 20000 in
theorem ggX4_plan_X0_planAt : GoodIn wsX4_plan wsX0_planAt := goodIn_r _ [6, 7, 8, 15, 16, 17, 18, 19, 20, 21, 22, 23, 24] (by decide +kernel) (by decide +kernel)
set_option maxRecDepth 20000 in
theorem gX4_plan_X0_planAt : GoodIn wsX4_plan (wsV RX4 68 RX0 yX0_planAt wsX0_planAt) := goodIn_app (goodIn_of _ (by decide +kernel)) ggX4_plan_X0_planAt
theorem dX4_plan_0 : decode cX4_plan 0 = .ok (.aload_n 0, 1) := by decide +kernel
theorem dX4_plan_1 : decode cX4_plan 1 = .ok (.getfield 10, 3) := by decide +kernel
theorem dX4_plan_4 : decode cX4_plan 4 = .ok (.iload_n 1, 1) := by decide +kernel
theorem dX4_plan_5 : decode cX4_plan 5 = .ok (.invokevirtual 68, 3) := by decide +kernel
theorem dX4_plan_8 : decode cX4_plan 8 = .ok (.ireturn, 1) := by decide +kernel
set_option maxRecDepth 20000 in
theorem ggX4_report_X0_aboutReport : GoodIn wsX4_report wsX0_aboutReport := goodIn_r _ [6, 7, 8, 9, 10, 17, 18, 19, 20, 21, 22, 23, 24, 25, 26] (by decide +kernel) (by decide +kernel)
set_option maxRecDepth 20000 in
theorem gX4_report_X0_aboutReport : GoodIn wsX4_report (wsV RX4 71 RX0 yX0_aboutReport wsX0_aboutReport) := goodIn_app (goodIn_of _ (by decide +kernel)) ggX4_report_X0_aboutReport
theorem dX4_report_0 : decode cX4_report 0 = .ok (.aload_n 0, 1) := by decide +kernel
theorem dX4_report_1 : decode cX4_report 1 = .ok (.getfield 10, 3) := by decide +kernel
theorem dX4_report_4 : decode cX4_report 4 = .ok (.iload_n 1, 1) := by decide +kernel
theorem dX4_report_5 : decode cX4_report 5 = .ok (.iload_n 2, 1) := by decide +kernel
theorem dX4_report_6 : decode cX4_report 6 = .ok (.invokevirtual 71, 3) := by decide +kernel
theorem dX4_report_9 : decode cX4_report 9 = .ok (.ireturn, 1) := by decide +kernel
set_option maxRecDepth 20000 in
theorem ggX4_count_X0_number : GoodIn wsX4_count wsX0_number := goodIn_r _ [10, 11, 12, 13, 14, 15, 27, 28, 29, 30, 31, 32, 33, 34, 35, 36] (by decide +kernel) (by decide +kernel)
set_option maxRecDepth 20000 in
theorem gX4_count_X0_number : GoodIn wsX4_count (wsV RX4 81 RX0 yX0_number wsX0_number) := goodIn_app (goodIn_of _ (by decide +kernel)) ggX4_count_X0_number
theorem dX4_count_0 : decode cX4_count 0 = .ok (.iload_n 1, 1) := by decide +kernel
theorem dX4_count_1 : decode cX4_count 1 = .ok (.ifCond .lt 9, 3) := by decide +kernel
theorem dX4_count_4 : decode cX4_count 4 = .ok (.iload_n 1, 1) := by decide +kernel
theorem dX4_count_5 : decode cX4_count 5 = .ok (.bipush 23, 2) := by decide +kernel
theorem dX4_count_7 : decode cX4_count 7 = .ok (.if_icmp .le 6, 3) := by decide +kernel
theorem dX4_count_10 : decode cX4_count 10 = .ok (.bipush (-2), 2) := by decide +kernel
theorem dX4_count_12 : decode cX4_count 12 = .ok (.ireturn, 1) := by decide +kernel
theorem dX4_count_13 : decode cX4_count 13 = .ok (.iload_n 1, 1) := by decide +kernel
theorem dX4_count_14 : decode cX4_count 14 = .ok (.bipush 22, 2) := by decide +kernel
theorem dX4_count_16 : decode cX4_count 16 = .ok (.if_icmp .ne 11, 3) := by decide +kernel
theorem dX4_count_19 : decode cX4_count 19 = .ok (.aload_n 0, 1) := by decide +kernel
theorem dX4_count_20 : decode cX4_count 20 = .ok (.getfield 37, 3) := by decide +kernel
theorem dX4_count_23 : decode cX4_count 23 = .ok (.getfield 74, 3) := by decide +kernel
theorem dX4_count_26 : decode cX4_count 26 = .ok (.ireturn, 1) := by decide +kernel
theorem dX4_count_27 : decode cX4_count 27 = .ok (.iload_n 1, 1) := by decide +kernel
theorem dX4_count_28 : decode cX4_count 28 = .ok (.bipush 23, 2) := by decide +kernel
theorem dX4_count_30 : decode cX4_count 30 = .ok (.if_icmp .ne 11, 3) := by decide +kernel
theorem dX4_count_33 : decode cX4_count 33 = .ok (.aload_n 0, 1) := by decide +kernel
theorem dX4_count_34 : decode cX4_count 34 = .ok (.getfield 22, 3) := by decide +kernel
theorem dX4_count_37 : decode cX4_count 37 = .ok (.getfield 78, 3) := by decide +kernel
theorem dX4_count_40 : decode cX4_count 40 = .ok (.ireturn, 1) := by decide +kernel
theorem dX4_count_41 : decode cX4_count 41 = .ok (.aload_n 0, 1) := by decide +kernel
theorem dX4_count_42 : decode cX4_count 42 = .ok (.getfield 10, 3) := by decide +kernel
theorem dX4_count_45 : decode cX4_count 45 = .ok (.iload_n 1, 1) := by decide +kernel
theorem dX4_count_46 : decode cX4_count 46 = .ok (.invokevirtual 81, 3) := by decide +kernel
theorem dX4_count_49 : decode cX4_count 49 = .ok (.ireturn, 1) := by decide +kernel
set_option maxRecDepth 20000 in
theorem ggX4_ifPass_X4_canTry : GoodIn wsX4_ifPass wsX4_canTry := goodIn_r _ [7] (by decide +kernel) (by decide +kernel)
set_option maxRecDepth 20000 in
theorem gX4_ifPass_X4_canTry : GoodIn wsX4_ifPass (va_wsS RX4 84 yX4_canTry wsX4_canTry) := goodIn_app (goodIn_of _ (by decide +kernel)) ggX4_ifPass_X4_canTry
set_option maxRecDepth 20000 in
theorem ggX4_ifPass_X0_copyFrom : GoodIn wsX4_ifPass wsX0_copyFrom := goodIn_r _ [12, 13, 14, 15, 16, 17, 18, 19, 20, 21, 22, 23, 24, 25, 26, 27, 28, 29, 30, 31, 32, 33, 34, 35, 36, 37, 38, 125, 126, 127, 128, 129, 130, 131, 132, 133, 134, 135, 136, 137, 138, 139, 140, 141] (by decide +kernel) (by decide +kernel)
set_option maxRecDepth 20000 in
theorem gX4_ifPass_X0_copyFrom : GoodIn wsX4_ifPass (wsV RX4 92 RX0 yX0_copyFrom wsX0_copyFrom) := goodIn_app (goodIn_of _ (by decide +kernel)) ggX4_ifPass_X0_copyFrom
set_option maxRecDepth 20000 in
theorem ggX4_ifPass_X0_tickOn : GoodIn wsX4_ifPass wsX0_tickOn := goodIn_r _ [42, 18, 43, 44, 45, 11, 46, 13, 19, 20, 47, 26, 48, 49, 50, 51, 52, 53, 54, 55, 56, 21, 22, 23, 57, 58, 59, 60, 24, 25, 61, 62, 63, 64, 65, 66, 67, 68, 69, 70, 71, 72, 73, 74, 75, 76, 77, 78, 79, 80, 81, 82, 83, 30, 84, 32, 33, 85, 86, 87, 88, 89, 90, 91, 92, 93, 94, 95, 96, 97, 98, 99, 100, 101, 102, 103, 104, 105, 106, 107, 108, 109, 110, 111, 112, 113, 114, 125, 126, 127, 128, 129, 130, 131, 132, 133, 134, 135, 136, 137, 138, 139, 140, 141] (by decide +kernel) (by decide +kernel)
set_option maxRecDepth 20000 in
theorem gX4_ifPass_X0_tickOn : GoodIn wsX4_ifPass (wsV RX4 95 RX0 yX0_tickOn wsX0_tickOn) := goodIn_app (goodIn_of _ (by decide +kernel)) ggX4_ifPass_X0_tickOn
set_option maxRecDepth 20000 in
theorem ggX4_ifPass_X0_number : GoodIn wsX4_ifPass wsX0_number := goodIn_r _ [118, 19, 21, 24, 18, 13, 125, 126, 127, 128, 129, 130, 131, 132, 133, 134] (by decide +kernel) (by decide +kernel)
set_option maxRecDepth 20000 in
theorem gX4_ifPass_X0_number : GoodIn wsX4_ifPass (wsV RX4 81 RX0 yX0_number wsX0_number) := goodIn_app (goodIn_of _ (by decide +kernel)) ggX4_ifPass_X0_number
theorem dX4_ifPass_0 : decode cX4_ifPass 0 = .ok (.iload_n 1, 1) := by decide +kernel
theorem dX4_ifPass_1 : decode cX4_ifPass 1 = .ok (.invokestatic 84, 3) := by decide +kernel
theorem dX4_ifPass_4 : decode cX4_ifPass 4 = .ok (.ifCond .eq 15, 3) := by decide +kernel
theorem dX4_ifPass_7 : decode cX4_ifPass 7 = .ok (.iload_n 2, 1) := by decide +kernel
theorem dX4_ifPass_8 : decode cX4_ifPass 8 = .ok (.ifCond .lt 11, 3) := by decide +kernel
theorem dX4_ifPass_11 : decode cX4_ifPass 11 = .ok (.iload_n 2, 1) := by decide +kernel
theorem dX4_ifPass_12 : decode cX4_ifPass 12 = .ok (.getstatic 88, 3) := by decide +kernel
theorem dX4_ifPass_15 : decode cX4_ifPass 15 = .ok (.arraylength, 1) := by decide +kernel
theorem dX4_ifPass_16 : decode cX4_ifPass 16 = .ok (.if_icmp .le 6, 3) := by decide +kernel
theorem dX4_ifPass_19 : decode cX4_ifPass 19 = .ok (.bipush (-2), 2) := by decide +kernel
theorem dX4_ifPass_21 : decode cX4_ifPass 21 = .ok (.ireturn, 1) := by decide +kernel
theorem dX4_ifPass_22 : decode cX4_ifPass 22 = .ok (.aload_n 0, 1) := by decide +kernel
theorem dX4_ifPass_23 : decode cX4_ifPass 23 = .ok (.getfield 16, 3) := by decide +kernel
theorem dX4_ifPass_26 : decode cX4_ifPass 26 = .ok (.aload_n 0, 1) := by decide +kernel
theorem dX4_ifPass_27 : decode cX4_ifPass 27 = .ok (.getfield 10, 3) := by decide +kernel
theorem dX4_ifPass_30 : decode cX4_ifPass 30 = .ok (.invokevirtual 92, 3) := by decide +kernel
theorem dX4_ifPass_33 : decode cX4_ifPass 33 = .ok (.aload_n 0, 1) := by decide +kernel
theorem dX4_ifPass_34 : decode cX4_ifPass 34 = .ok (.getfield 16, 3) := by decide +kernel
theorem dX4_ifPass_37 : decode cX4_ifPass 37 = .ok (.iload_n 1, 1) := by decide +kernel
theorem dX4_ifPass_38 : decode cX4_ifPass 38 = .ok (.invokevirtual 95, 3) := by decide +kernel
theorem dX4_ifPass_41 : decode cX4_ifPass 41 = .ok (.iload_n 2, 1) := by decide +kernel
theorem dX4_ifPass_42 : decode cX4_ifPass 42 = .ok (.getstatic 88, 3) := by decide +kernel
theorem dX4_ifPass_45 : decode cX4_ifPass 45 = .ok (.arraylength, 1) := by decide +kernel
theorem dX4_ifPass_46 : decode cX4_ifPass 46 = .ok (.if_icmp .ne 13, 3) := by decide +kernel
theorem dX4_ifPass_49 : decode cX4_ifPass 49 = .ok (.aload_n 0, 1) := by decide +kernel
theorem dX4_ifPass_50 : decode cX4_ifPass 50 = .ok (.getfield 16, 3) := by decide +kernel
theorem dX4_ifPass_53 : decode cX4_ifPass 53 = .ok (.bipush 10, 2) := by decide +kernel
theorem dX4_ifPass_55 : decode cX4_ifPass 55 = .ok (.invokevirtual 81, 3) := by decide +kernel
theorem dX4_ifPass_58 : decode cX4_ifPass 58 = .ok (.ireturn, 1) := by decide +kernel
theorem dX4_ifPass_59 : decode cX4_ifPass 59 = .ok (.aload_n 0, 1) := by decide +kernel
theorem dX4_ifPass_60 : decode cX4_ifPass 60 = .ok (.getfield 16, 3) := by decide +kernel
theorem dX4_ifPass_63 : decode cX4_ifPass 63 = .ok (.getstatic 88, 3) := by decide +kernel
theorem dX4_ifPass_66 : decode cX4_ifPass 66 = .ok (.iload_n 2, 1) := by decide +kernel
theorem dX4_ifPass_67 : decode cX4_ifPass 67 = .ok (.iaload, 1) := by decide +kernel
theorem dX4_ifPass_68 : decode cX4_ifPass 68 = .ok (.invokevirtual 81, 3) := by decide +kernel
theorem dX4_ifPass_71 : decode cX4_ifPass 71 = .ok (.aload_n 0, 1) := by decide +kernel
theorem dX4_ifPass_72 : decode cX4_ifPass 72 = .ok (.getfield 10, 3) := by decide +kernel
theorem dX4_ifPass_75 : decode cX4_ifPass 75 = .ok (.getstatic 88, 3) := by decide +kernel
theorem dX4_ifPass_78 : decode cX4_ifPass 78 = .ok (.iload_n 2, 1) := by decide +kernel
theorem dX4_ifPass_79 : decode cX4_ifPass 79 = .ok (.iaload, 1) := by decide +kernel
theorem dX4_ifPass_80 : decode cX4_ifPass 80 = .ok (.invokevirtual 81, 3) := by decide +kernel
theorem dX4_ifPass_83 : decode cX4_ifPass 83 = .ok (.isub, 1) := by decide +kernel
theorem dX4_ifPass_84 : decode cX4_ifPass 84 = .ok (.ireturn, 1) := by decide +kernel
set_option maxRecDepth 20000 in
theorem ggX4_bestGuess_X4_canTry : GoodIn wsX4_bestGuess wsX4_canTry := goodIn_r _ [4] (by decide +kernel) (by decide +kernel)
set_option maxRecDepth 20000 in
theorem gX4_bestGuess_X4_canTry : GoodIn wsX4_bestGuess (va_wsS RX4 84 yX4_canTry wsX4_canTry) := goodIn_app (goodIn_of _ (by decide +kernel)) ggX4_bestGuess_X4_canTry
set_option maxRecDepth 20000 in
theorem ggX4_bestGuess_X4_goodWithGuess : GoodIn wsX4_bestGuess wsX4_goodWithGuess := goodIn_r _ [8, 9, 10, 11, 12, 13, 14, 15, 16, 17, 18, 19, 20, 21, 22, 23, 24, 25, 26, 27, 28, 29, 30, 31, 32, 33, 34, 35, 36, 37, 38, 39, 40, 41, 42, 43, 44, 45, 46, 47, 48, 49, 50, 51, 52, 53, 54, 55, 56, 57, 58, 59, 60, 61, 62, 63, 64, 65, 66, 67, 68, 69, 70, 71, 72, 73, 74, 75, 76, 77, 78, 79, 80, 81, 82, 83, 84, 85, 86, 87, 88, 89, 90, 91, 92, 93, 94, 95, 96, 97, 98, 99, 100, 101, 102, 103, 104, 105, 106, 107, 108, 109, 110, 111, 112, 113, 114, 115, 116, 117, 118, 119, 120, 121, 122, 123, 124, 125, 126, 127, 128, 129, 130, 131, 132, 133, 134, 135, 136, 137, 138, 139, 140, 141, 142, 143, 144, 145] (by decide +kernel) (by decide +kernel)
set_option maxRecDepth 20000 in
theorem gX4_bestGuess_X4_goodWithGuess : GoodIn wsX4_bestGuess (wsV RX4 99 RX4 yX4_goodWithGuess wsX4_goodWithGuess) := goodIn_app (goodIn_of _ (by decide +kernel)) ggX4_bestGuess_X4_goodWithGuess
theorem dX4_bestGuess_0 : decode cX4_bestGuess 0 = .ok (.iload_n 1, 1) := by decide +kernel
theorem dX4_bestGuess_1 : decode cX4_bestGuess 1 = .ok (.invokestatic 84, 3) := by decide +kernel
theorem dX4_bestGuess_4 : decode cX4_bestGuess 4 = .ok (.ifCond .eq 12, 3) := by decide +kernel
theorem dX4_bestGuess_7 : decode cX4_bestGuess 7 = .ok (.iload_n 2, 1) := by decide +kernel
theorem dX4_bestGuess_8 : decode cX4_bestGuess 8 = .ok (.ifCond .lt 8, 3) := by decide +kernel
theorem dX4_bestGuess_11 : decode cX4_bestGuess 11 = .ok (.iload_n 2, 1) := by decide +kernel
theorem dX4_bestGuess_12 : decode cX4_bestGuess 12 = .ok (.iconst 1, 1) := by decide +kernel
theorem dX4_bestGuess_13 : decode cX4_bestGuess 13 = .ok (.if_icmp .le 6, 3) := by decide +kernel
theorem dX4_bestGuess_16 : decode cX4_bestGuess 16 = .ok (.bipush (-2), 2) := by decide +kernel
theorem dX4_bestGuess_18 : decode cX4_bestGuess 18 = .ok (.ireturn, 1) := by decide +kernel
theorem dX4_bestGuess_19 : decode cX4_bestGuess 19 = .ok (.iconst 0, 1) := by decide +kernel
theorem dX4_bestGuess_20 : decode cX4_bestGuess 20 = .ok (.istore_n 3, 1) := by decide +kernel
theorem dX4_bestGuess_21 : decode cX4_bestGuess 21 = .ok (.iconst (-1), 1) := by decide +kernel
theorem dX4_bestGuess_22 : decode cX4_bestGuess 22 = .ok (.istore 4, 2) := by decide +kernel
theorem dX4_bestGuess_24 : decode cX4_bestGuess 24 = .ok (.iconst 0, 1) := by decide +kernel
theorem dX4_bestGuess_25 : decode cX4_bestGuess 25 = .ok (.istore 5, 2) := by decide +kernel
theorem dX4_bestGuess_27 : decode cX4_bestGuess 27 = .ok (.iload 5, 2) := by decide +kernel
theorem dX4_bestGuess_29 : decode cX4_bestGuess 29 = .ok (.iconst 5, 1) := by decide +kernel
theorem dX4_bestGuess_30 : decode cX4_bestGuess 30 = .ok (.if_icmp .gt 32, 3) := by decide +kernel
theorem dX4_bestGuess_33 : decode cX4_bestGuess 33 = .ok (.aload_n 0, 1) := by decide +kernel
theorem dX4_bestGuess_34 : decode cX4_bestGuess 34 = .ok (.iload 5, 2) := by decide +kernel
theorem dX4_bestGuess_36 : decode cX4_bestGuess 36 = .ok (.iload_n 1, 1) := by decide +kernel
theorem dX4_bestGuess_37 : decode cX4_bestGuess 37 = .ok (.invokevirtual 99, 3) := by decide +kernel
theorem dX4_bestGuess_40 : decode cX4_bestGuess 40 = .ok (.istore 6, 2) := by decide +kernel
theorem dX4_bestGuess_42 : decode cX4_bestGuess 42 = .ok (.iload 6, 2) := by decide +kernel
theorem dX4_bestGuess_44 : decode cX4_bestGuess 44 = .ok (.iload 4, 2) := by decide +kernel
theorem dX4_bestGuess_46 : decode cX4_bestGuess 46 = .ok (.if_icmp .le 10, 3) := by decide +kernel
theorem dX4_bestGuess_49 : decode cX4_bestGuess 49 = .ok (.iload 5, 2) := by decide +kernel
theorem dX4_bestGuess_51 : decode cX4_bestGuess 51 = .ok (.istore_n 3, 1) := by decide +kernel
theorem dX4_bestGuess_52 : decode cX4_bestGuess 52 = .ok (.iload 6, 2) := by decide +kernel
theorem dX4_bestGuess_54 : decode cX4_bestGuess 54 = .ok (.istore 4, 2) := by decide +kernel
theorem dX4_bestGuess_56 : decode cX4_bestGuess 56 = .ok (.iinc 5 1, 3) := by decide +kernel
theorem dX4_bestGuess_59 : decode cX4_bestGuess 59 = .ok (.goto (-32), 3) := by decide +kernel
theorem dX4_bestGuess_62 : decode cX4_bestGuess 62 = .ok (.iload_n 2, 1) := by decide +kernel
theorem dX4_bestGuess_63 : decode cX4_bestGuess 63 = .ok (.ifCond .ne 7, 3) := by decide +kernel
theorem dX4_bestGuess_66 : decode cX4_bestGuess 66 = .ok (.iload_n 3, 1) := by decide +kernel
theorem dX4_bestGuess_67 : decode cX4_bestGuess 67 = .ok (.goto 5, 3) := by decide +kernel
theorem dX4_bestGuess_70 : decode cX4_bestGuess 70 = .ok (.iload 4, 2) := by decide +kernel
theorem dX4_bestGuess_72 : decode cX4_bestGuess 72 = .ok (.ireturn, 1) := by decide +kernel
set_option maxRecDepth 20000 in
theorem ggX4_neededSlack_X4_canTry : GoodIn wsX4_neededSlack wsX4_canTry := goodIn_r _ [4] (by decide +kernel) (by decide +kernel)
set_option maxRecDepth 20000 in
theorem gX4_neededSlack_X4_canTry : GoodIn wsX4_neededSlack (va_wsS RX4 84 yX4_canTry wsX4_canTry) := goodIn_app (goodIn_of _ (by decide +kernel)) ggX4_neededSlack_X4_canTry
set_option maxRecDepth 20000 in
theorem ggX4_neededSlack_X4_starvesWithSlack : GoodIn wsX4_neededSlack wsX4_starvesWithSlack := goodIn_r _ [8, 9, 10, 11, 12, 13, 14, 15, 16, 17, 18, 19, 20, 21, 22, 23, 24, 25, 26, 27, 28, 29, 30, 31, 32, 33, 34, 35, 36, 37, 38, 39, 40, 41, 42, 43, 44, 45, 46, 47, 48, 49, 50, 51, 52, 53, 54, 55, 56, 57, 58, 59, 60, 61, 62, 63, 64, 65, 66, 67, 68, 69, 70, 71, 72, 73, 74, 75, 76, 77, 78, 79, 80, 81, 82, 83, 84, 85, 86, 87, 88, 89, 90, 91, 92, 93, 94, 95, 96, 97, 98, 99, 100, 101, 102, 103, 104, 105, 106, 107, 108, 109, 110, 111, 112, 113, 114, 115, 116, 117, 118, 119, 120, 121, 122, 123, 124, 125, 126, 127, 128, 129, 130, 131, 132, 133, 134, 135, 136, 137, 138, 139, 140, 141, 142, 143, 144, 145] (by decide +kernel) (by decide +kernel)
set_option maxRecDepth 20000 in
theorem gX4_neededSlack_X4_starvesWithSlack : GoodIn wsX4_neededSlack (wsV RX4 102 RX4 yX4_starvesWithSlack wsX4_starvesWithSlack) := goodIn_app (goodIn_of _ (by decide +kernel)) ggX4_neededSlack_X4_starvesWithSlack
theorem dX4_neededSlack_0 : decode cX4_neededSlack 0 = .ok (.iload_n 1, 1) := by decide +kernel
theorem dX4_neededSlack_1 : decode cX4_neededSlack 1 = .ok (.invokestatic 84, 3) := by decide +kernel
theorem dX4_neededSlack_4 : decode cX4_neededSlack 4 = .ok (.ifCond .ne 6, 3) := by decide +kernel
theorem dX4_neededSlack_7 : decode cX4_neededSlack 7 = .ok (.bipush (-2), 2) := by decide +kernel
theorem dX4_neededSlack_9 : decode cX4_neededSlack 9 = .ok (.ireturn, 1) := by decide +kernel
theorem dX4_neededSlack_10 : decode cX4_neededSlack 10 = .ok (.iconst 0, 1) := by decide +kernel
theorem dX4_neededSlack_11 : decode cX4_neededSlack 11 = .ok (.istore_n 2, 1) := by decide +kernel
theorem dX4_neededSlack_12 : decode cX4_neededSlack 12 = .ok (.bipush 32, 2) := by decide +kernel
theorem dX4_neededSlack_14 : decode cX4_neededSlack 14 = .ok (.istore_n 3, 1) := by decide +kernel
theorem dX4_neededSlack_15 : decode cX4_neededSlack 15 = .ok (.iload_n 3, 1) := by decide +kernel
theorem dX4_neededSlack_16 : decode cX4_neededSlack 16 = .ok (.ifCond .le 38, 3) := by decide +kernel
theorem dX4_neededSlack_19 : decode cX4_neededSlack 19 = .ok (.iload_n 2, 1) := by decide +kernel
theorem dX4_neededSlack_20 : decode cX4_neededSlack 20 = .ok (.iload_n 3, 1) := by decide +kernel
theorem dX4_neededSlack_21 : decode cX4_neededSlack 21 = .ok (.iadd, 1) := by decide +kernel
theorem dX4_neededSlack_22 : decode cX4_neededSlack 22 = .ok (.iconst 1, 1) := by decide +kernel
theorem dX4_neededSlack_23 : decode cX4_neededSlack 23 = .ok (.isub, 1) := by decide +kernel
theorem dX4_neededSlack_24 : decode cX4_neededSlack 24 = .ok (.istore 4, 2) := by decide +kernel
theorem dX4_neededSlack_26 : decode cX4_neededSlack 26 = .ok (.iload 4, 2) := by decide +kernel
theorem dX4_neededSlack_28 : decode cX4_neededSlack 28 = .ok (.bipush 60, 2) := by decide +kernel
theorem dX4_neededSlack_30 : decode cX4_neededSlack 30 = .ok (.if_icmp .gt 17, 3) := by decide +kernel
theorem dX4_neededSlack_33 : decode cX4_neededSlack 33 = .ok (.aload_n 0, 1) := by decide +kernel
theorem dX4_neededSlack_34 : decode cX4_neededSlack 34 = .ok (.iload 4, 2) := by decide +kernel
theorem dX4_neededSlack_36 : decode cX4_neededSlack 36 = .ok (.iload_n 1, 1) := by decide +kernel
theorem dX4_neededSlack_37 : decode cX4_neededSlack 37 = .ok (.invokevirtual 102, 3) := by decide +kernel
theorem dX4_neededSlack_40 : decode cX4_neededSlack 40 = .ok (.ifCond .eq 7, 3) := by decide +kernel
theorem dX4_neededSlack_43 : decode cX4_neededSlack 43 = .ok (.iload_n 2, 1) := by decide +kernel
theorem dX4_neededSlack_44 : decode cX4_neededSlack 44 = .ok (.iload_n 3, 1) := by decide +kernel
theorem dX4_neededSlack_45 : decode cX4_neededSlack 45 = .ok (.iadd, 1) := by decide +kernel
theorem dX4_neededSlack_46 : decode cX4_neededSlack 46 = .ok (.istore_n 2, 1) := by decide +kernel
theorem dX4_neededSlack_47 : decode cX4_neededSlack 47 = .ok (.iload_n 3, 1) := by decide +kernel
theorem dX4_neededSlack_48 : decode cX4_neededSlack 48 = .ok (.iconst 2, 1) := by decide +kernel
theorem dX4_neededSlack_49 : decode cX4_neededSlack 49 = .ok (.idiv, 1) := by decide +kernel
theorem dX4_neededSlack_50 : decode cX4_neededSlack 50 = .ok (.istore_n 3, 1) := by decide +kernel
theorem dX4_neededSlack_51 : decode cX4_neededSlack 51 = .ok (.goto (-36), 3) := by decide +kernel
theorem dX4_neededSlack_54 : decode cX4_neededSlack 54 = .ok (.iload_n 2, 1) := by decide +kernel
theorem dX4_neededSlack_55 : decode cX4_neededSlack 55 = .ok (.bipush 60, 2) := by decide +kernel
theorem dX4_neededSlack_57 : decode cX4_neededSlack 57 = .ok (.if_icmp .le 8, 3) := by decide +kernel
theorem dX4_neededSlack_60 : decode cX4_neededSlack 60 = .ok (.bipush (-6), 2) := by decide +kernel
theorem dX4_neededSlack_62 : decode cX4_neededSlack 62 = .ok (.goto 4, 3) := by decide +kernel
theorem dX4_neededSlack_65 : decode cX4_neededSlack 65 = .ok (.iload_n 2, 1) := by decide +kernel
theorem dX4_neededSlack_66 : decode cX4_neededSlack 66 = .ok (.ireturn, 1) := by decide +kernel
theorem dX4_canTry_0 : decode cX4_canTry 0 = .ok (.iload_n 0, 1) := by decide +kernel
theorem dX4_canTry_1 : decode cX4_canTry 1 = .ok (.iconst 1, 1) := by decide +kernel
theorem dX4_canTry_2 : decode cX4_canTry 2 = .ok (.if_icmp .lt 13, 3) := by decide +kernel
theorem dX4_canTry_5 : decode cX4_canTry 5 = .ok (.iload_n 0, 1) := by decide +kernel
theorem dX4_canTry_6 : decode cX4_canTry 6 = .ok (.bipush 99, 2) := by decide +kernel
theorem dX4_canTry_8 : decode cX4_canTry 8 = .ok (.if_icmp .gt 7, 3) := by decide +kernel
theorem dX4_canTry_11 : decode cX4_canTry 11 = .ok (.iconst 1, 1) := by decide +kernel
theorem dX4_canTry_12 : decode cX4_canTry 12 = .ok (.goto 4, 3) := by decide +kernel
theorem dX4_canTry_15 : decode cX4_canTry 15 = .ok (.iconst 0, 1) := by decide +kernel
theorem dX4_canTry_16 : decode cX4_canTry 16 = .ok (.ireturn, 1) := by decide +kernel
set_option maxRecDepth 20000 in
theorem ggX4_goodWithGuess_X0_copyFrom : GoodIn wsX4_goodWithGuess wsX0_copyFrom := goodIn_r _ [8, 9, 10, 11, 12, 13, 14, 15, 16, 17, 18, 19, 20, 21, 22, 23, 24, 25, 26, 27, 28, 29, 30, 31, 32, 33, 34, 121, 122, 123, 124, 125, 126, 127, 128, 129, 130, 131, 132, 133, 134, 135, 136, 137] (by decide +kernel) (by decide +kernel)
set_option maxRecDepth 20000 in
theorem gX4_goodWithGuess_X0_copyFrom : GoodIn wsX4_goodWithGuess (wsV RX4 92 RX0 yX0_copyFrom wsX0_copyFrom) := goodIn_app (goodIn_of _ (by decide +kernel)) ggX4_goodWithGuess_X0_copyFrom
set_option maxRecDepth 20000 in
theorem ggX4_goodWithGuess_X0_tickOn : GoodIn wsX4_goodWithGuess wsX0_tickOn := goodIn_r _ [38, 14, 39, 40, 41, 7, 42, 9, 15, 16, 43, 22, 44, 45, 46, 47, 48, 49, 50, 51, 52, 17, 18, 19, 53, 54, 55, 56, 20, 21, 57, 58, 59, 60, 61, 62, 63, 64, 65, 66, 67, 68, 69, 70, 71, 72, 73, 74, 75, 76, 77, 78, 79, 26, 80, 28, 29, 81, 82, 83, 84, 85, 86, 87, 88, 89, 90, 91, 92, 93, 94, 95, 96, 97, 98, 99, 100, 101, 102, 103, 104, 105, 106, 107, 108, 109, 110, 121, 122, 123, 124, 125, 126, 127, 128, 129, 130, 131, 132, 133, 134, 135, 136, 137] (by decide +kernel) (by decide +kernel)
set_option maxRecDepth 20000 in
theorem gX4_goodWithGuess_X0_tickOn : GoodIn wsX4_goodWithGuess (wsV RX4 95 RX0 yX0_tickOn wsX0_tickOn) := goodIn_app (goodIn_of _ (by decide +kernel)) ggX4_goodWithGuess_X0_tickOn
set_option maxRecDepth 20000 in
theorem ggX4_goodWithGuess_X0_number : GoodIn wsX4_goodWithGuess wsX0_number := goodIn_r _ [114, 15, 17, 20, 14, 9, 121, 122, 123, 124, 125, 126, 127, 128, 129, 130] (by decide +kernel) (by decide +kernel)
set_option maxRecDepth 20000 in
theorem gX4_goodWithGuess_X0_number : GoodIn wsX4_goodWithGuess (wsV RX4 81 RX0 yX0_number wsX0_number) := goodIn_app (goodIn_of _ (by decide +kernel)) ggX4_goodWithGuess_X0_number
theorem dX4_goodWithGuess_0 : decode cX4_goodWithGuess 0 = .ok (.aload_n 0, 1) := by decide +kernel
theorem dX4_goodWithGuess_1 : decode cX4_goodWithGuess 1 = .ok (.getfield 16, 3) := by decide +kernel
theorem dX4_goodWithGuess_4 : decode cX4_goodWithGuess 4 = .ok (.aload_n 0, 1) := by decide +kernel
theorem dX4_goodWithGuess_5 : decode cX4_goodWithGuess 5 = .ok (.getfield 10, 3) := by decide +kernel
theorem dX4_goodWithGuess_8 : decode cX4_goodWithGuess 8 = .ok (.invokevirtual 92, 3) := by decide +kernel
theorem dX4_goodWithGuess_11 : decode cX4_goodWithGuess 11 = .ok (.aload_n 0, 1) := by decide +kernel
theorem dX4_goodWithGuess_12 : decode cX4_goodWithGuess 12 = .ok (.getfield 16, 3) := by decide +kernel
theorem dX4_goodWithGuess_15 : decode cX4_goodWithGuess 15 = .ok (.getfield 106, 3) := by decide +kernel
theorem dX4_goodWithGuess_18 : decode cX4_goodWithGuess 18 = .ok (.iconst 2, 1) := by decide +kernel
theorem dX4_goodWithGuess_19 : decode cX4_goodWithGuess 19 = .ok (.iload_n 1, 1) := by decide +kernel
theorem dX4_goodWithGuess_20 : decode cX4_goodWithGuess 20 = .ok (.iastore, 1) := by decide +kernel
theorem dX4_goodWithGuess_21 : decode cX4_goodWithGuess 21 = .ok (.aload_n 0, 1) := by decide +kernel
theorem dX4_goodWithGuess_22 : decode cX4_goodWithGuess 22 = .ok (.getfield 16, 3) := by decide +kernel
theorem dX4_goodWithGuess_25 : decode cX4_goodWithGuess 25 = .ok (.iload_n 2, 1) := by decide +kernel
theorem dX4_goodWithGuess_26 : decode cX4_goodWithGuess 26 = .ok (.invokevirtual 95, 3) := by decide +kernel
theorem dX4_goodWithGuess_29 : decode cX4_goodWithGuess 29 = .ok (.aload_n 0, 1) := by decide +kernel
theorem dX4_goodWithGuess_30 : decode cX4_goodWithGuess 30 = .ok (.getfield 16, 3) := by decide +kernel
theorem dX4_goodWithGuess_33 : decode cX4_goodWithGuess 33 = .ok (.iconst 3, 1) := by decide +kernel
theorem dX4_goodWithGuess_34 : decode cX4_goodWithGuess 34 = .ok (.invokevirtual 81, 3) := by decide +kernel
theorem dX4_goodWithGuess_37 : decode cX4_goodWithGuess 37 = .ok (.aload_n 0, 1) := by decide +kernel
theorem dX4_goodWithGuess_38 : decode cX4_goodWithGuess 38 = .ok (.getfield 10, 3) := by decide +kernel
theorem dX4_goodWithGuess_41 : decode cX4_goodWithGuess 41 = .ok (.iconst 3, 1) := by decide +kernel
theorem dX4_goodWithGuess_42 : decode cX4_goodWithGuess 42 = .ok (.invokevirtual 81, 3) := by decide +kernel
theorem dX4_goodWithGuess_45 : decode cX4_goodWithGuess 45 = .ok (.isub, 1) := by decide +kernel
theorem dX4_goodWithGuess_46 : decode cX4_goodWithGuess 46 = .ok (.ireturn, 1) := by decide +kernel
set_option maxRecDepth 20000 in
theorem ggX4_starvesWithSlack_X0_copyFrom : GoodIn wsX4_starvesWithSlack wsX0_copyFrom := goodIn_r _ [8, 9, 10, 11, 12, 13, 14, 15, 16, 17, 18, 19, 20, 21, 22, 23, 24, 25, 26, 27, 28, 29, 30, 31, 32, 33, 34, 121, 122, 123, 124, 125, 126, 127, 128, 129, 130, 131, 132, 133, 134, 135, 136, 137] (by decide +kernel) (by decide +kernel)
set_option maxRecDepth 20000 in
theorem gX4_starvesWithSlack_X0_copyFrom : GoodIn wsX4_starvesWithSlack (wsV RX4 92 RX0 yX0_copyFrom wsX0_copyFrom) := goodIn_app (goodIn_of _ (by decide +kernel)) ggX4_starvesWithSlack_X0_copyFrom
set_option maxRecDepth 20000 in
theorem ggX4_starvesWithSlack_X0_tickOn : GoodIn wsX4_starvesWithSlack wsX0_tickOn := goodIn_r _ [38, 14, 39, 40, 41, 7, 42, 9, 15, 16, 43, 22, 44, 45, 46, 47, 48, 49, 50, 51, 52, 17, 18, 19, 53, 54, 55, 56, 20, 21, 57, 58, 59, 60, 61, 62, 63, 64, 65, 66, 67, 68, 69, 70, 71, 72, 73, 74, 75, 76, 77, 78, 79, 26, 80, 28, 29, 81, 82, 83, 84, 85, 86, 87, 88, 89, 90, 91, 92, 93, 94, 95, 96, 97, 98, 99, 100, 101, 102, 103, 104, 105, 106, 107, 108, 109, 110, 121, 122, 123, 124, 125, 126, 127, 128, 129, 130, 131, 132, 133, 134, 135, 136, 137] (by decide +kernel) (by decide +kernel)
set_option maxRecDepth 20000 in
theorem gX4_starvesWithSlack_X0_tickOn : GoodIn wsX4_starvesWithSlack (wsV RX4 95 RX0 yX0_tickOn wsX0_tickOn) := goodIn_app (goodIn_of _ (by decide +kernel)) ggX4_starvesWithSlack_X0_tickOn
set_option maxRecDepth 20000 in
theorem ggX4_starvesWithSlack_X0_number : GoodIn wsX4_starvesWithSlack wsX0_number := goodIn_r _ [114, 15, 17, 20, 14, 9, 121, 122, 123, 124, 125, 126, 127, 128, 129, 130] (by decide +kernel) (by decide +kernel)
set_option maxRecDepth 20000 in
theorem gX4_starvesWithSlack_X0_number : GoodIn wsX4_starvesWithSlack (wsV RX4 81 RX0 yX0_number wsX0_number) := goodIn_app (goodIn_of _ (by decide +kernel)) ggX4_starvesWithSlack_X0_number
theorem dX4_starvesWithSlack_0 : decode cX4_starvesWithSlack 0 = .ok (.aload_n 0, 1) := by decide +kernel
theorem dX4_starvesWithSlack_1 : decode cX4_starvesWithSlack 1 = .ok (.getfield 16, 3) := by decide +kernel
theorem dX4_starvesWithSlack_4 : decode cX4_starvesWithSlack 4 = .ok (.aload_n 0, 1) := by decide +kernel
theorem dX4_starvesWithSlack_5 : decode cX4_starvesWithSlack 5 = .ok (.getfield 10, 3) := by decide +kernel
theorem dX4_starvesWithSlack_8 : decode cX4_starvesWithSlack 8 = .ok (.invokevirtual 92, 3) := by decide +kernel
theorem dX4_starvesWithSlack_11 : decode cX4_starvesWithSlack 11 = .ok (.aload_n 0, 1) := by decide +kernel
theorem dX4_starvesWithSlack_12 : decode cX4_starvesWithSlack 12 = .ok (.getfield 16, 3) := by decide +kernel
theorem dX4_starvesWithSlack_15 : decode cX4_starvesWithSlack 15 = .ok (.getfield 109, 3) := by decide +kernel
theorem dX4_starvesWithSlack_18 : decode cX4_starvesWithSlack 18 = .ok (.bipush 10, 2) := by decide +kernel
theorem dX4_starvesWithSlack_20 : decode cX4_starvesWithSlack 20 = .ok (.iload_n 1, 1) := by decide +kernel
theorem dX4_starvesWithSlack_21 : decode cX4_starvesWithSlack 21 = .ok (.iastore, 1) := by decide +kernel
theorem dX4_starvesWithSlack_22 : decode cX4_starvesWithSlack 22 = .ok (.aload_n 0, 1) := by decide +kernel
theorem dX4_starvesWithSlack_23 : decode cX4_starvesWithSlack 23 = .ok (.getfield 16, 3) := by decide +kernel
theorem dX4_starvesWithSlack_26 : decode cX4_starvesWithSlack 26 = .ok (.iload_n 2, 1) := by decide +kernel
theorem dX4_starvesWithSlack_27 : decode cX4_starvesWithSlack 27 = .ok (.invokevirtual 95, 3) := by decide +kernel
theorem dX4_starvesWithSlack_30 : decode cX4_starvesWithSlack 30 = .ok (.aload_n 0, 1) := by decide +kernel
theorem dX4_starvesWithSlack_31 : decode cX4_starvesWithSlack 31 = .ok (.getfield 16, 3) := by decide +kernel
theorem dX4_starvesWithSlack_34 : decode cX4_starvesWithSlack 34 = .ok (.bipush 9, 2) := by decide +kernel
theorem dX4_starvesWithSlack_36 : decode cX4_starvesWithSlack 36 = .ok (.invokevirtual 81, 3) := by decide +kernel
theorem dX4_starvesWithSlack_39 : decode cX4_starvesWithSlack 39 = .ok (.aload_n 0, 1) := by decide +kernel
theorem dX4_starvesWithSlack_40 : decode cX4_starvesWithSlack 40 = .ok (.getfield 10, 3) := by decide +kernel
theorem dX4_starvesWithSlack_43 : decode cX4_starvesWithSlack 43 = .ok (.bipush 9, 2) := by decide +kernel
theorem dX4_starvesWithSlack_45 : decode cX4_starvesWithSlack 45 = .ok (.invokevirtual 81, 3) := by decide +kernel
theorem dX4_starvesWithSlack_48 : decode cX4_starvesWithSlack 48 = .ok (.if_icmp .le 7, 3) := by decide +kernel
theorem dX4_starvesWithSlack_51 : decode cX4_starvesWithSlack 51 = .ok (.iconst 1, 1) := by decide +kernel
theorem dX4_starvesWithSlack_52 : decode cX4_starvesWithSlack 52 = .ok (.goto 4, 3) := by decide +kernel
theorem dX4_starvesWithSlack_55 : decode cX4_starvesWithSlack 55 = .ok (.iconst 0, 1) := by decide +kernel
theorem dX4_starvesWithSlack_56 : decode cX4_starvesWithSlack 56 = .ok (.ireturn, 1) := by decide +kernel
set_option maxRecDepth 20000 in
theorem ggX4_put_X3_append : GoodIn wsX4_put wsX3_append := goodIn_r _ [6, 7, 8, 9, 10, 5, 11, 12, 13, 14, 21, 22] (by decide +kernel) (by decide +kernel)
set_option maxRecDepth 20000 in
theorem gX4_put_X3_append : GoodIn wsX4_put (wsV RX4 112 RX3 yX3_append wsX3_append) := goodIn_app (goodIn_of _ (by decide +kernel)) ggX4_put_X3_append
theorem dX4_put_0 : decode cX4_put 0 = .ok (.aload_n 0, 1) := by decide +kernel
theorem dX4_put_1 : decode cX4_put 1 = .ok (.getfield 37, 3) := by decide +kernel
theorem dX4_put_4 : decode cX4_put 4 = .ok (.lload_n 1, 1) := by decide +kernel
theorem dX4_put_5 : decode cX4_put 5 = .ok (.invokevirtual 112, 3) := by decide +kernel
theorem dX4_put_8 : decode cX4_put 8 = .ok (.ireturn, 1) := by decide +kernel
set_option maxRecDepth 20000 in
theorem ggX4_wipe_X3_empty : GoodIn wsX4_wipe wsX3_empty := goodIn_r _ [6, 7, 14, 15] (by decide +kernel) (by decide +kernel)
set_option maxRecDepth 20000 in
theorem gX4_wipe_X3_empty : GoodIn wsX4_wipe (wsV RX4 116 RX3 yX3_empty wsX3_empty) := goodIn_app (goodIn_of _ (by decide +kernel)) ggX4_wipe_X3_empty
theorem dX4_wipe_0 : decode cX4_wipe 0 = .ok (.aload_n 0, 1) := by decide +kernel
theorem dX4_wipe_1 : decode cX4_wipe 1 = .ok (.getfield 37, 3) := by decide +kernel
theorem dX4_wipe_4 : decode cX4_wipe 4 = .ok (.invokevirtual 116, 3) := by decide +kernel
theorem dX4_wipe_7 : decode cX4_wipe 7 = .ok (.ireturn, 1) := by decide +kernel
set_option maxRecDepth 20000 in
theorem ggX4_fault_X3_firstFault : GoodIn wsX4_fault wsX3_firstFault := goodIn_r _ [6, 7, 8, 9, 10, 5, 11, 12, 13, 14, 15, 16, 17, 24, 25] (by decide +kernel) (by decide +kernel)
set_option maxRecDepth 20000 in
theorem gX4_fault_X3_firstFault : GoodIn wsX4_fault (wsV RX4 120 RX3 yX3_firstFault wsX3_firstFault) := goodIn_app (goodIn_of _ (by decide +kernel)) ggX4_fault_X3_firstFault
theorem dX4_fault_0 : decode cX4_fault 0 = .ok (.aload_n 0, 1) := by decide +kernel
theorem dX4_fault_1 : decode cX4_fault 1 = .ok (.getfield 37, 3) := by decide +kernel
theorem dX4_fault_4 : decode cX4_fault 4 = .ok (.invokevirtual 120, 3) := by decide +kernel
theorem dX4_fault_7 : decode cX4_fault 7 = .ok (.ireturn, 1) := by decide +kernel
set_option maxRecDepth 20000 in
theorem ggX4_carryOut_X3_firstFault : GoodIn wsX4_carryOut wsX3_firstFault := goodIn_r _ [9, 10, 11, 12, 13, 8, 14, 15, 16, 17, 18, 19, 20, 221, 222] (by decide +kernel) (by decide +kernel)
set_option maxRecDepth 20000 in
theorem gX4_carryOut_X3_firstFault : GoodIn wsX4_carryOut (wsV RX4 120 RX3 yX3_firstFault wsX3_firstFault) := goodIn_app (goodIn_of _ (by decide +kernel)) ggX4_carryOut_X3_firstFault
set_option maxRecDepth 20000 in
theorem ggX4_carryOut_X2_note : GoodIn wsX4_carryOut wsX2_note := goodIn_r _ [25, 26, 27, 28, 29, 24, 30, 31, 32, 33, 34, 35, 36, 37, 38, 39, 40, 41, 42, 43, 44, 45, 46, 47, 48, 49, 50, 51, 52, 53, 54, 55, 56, 57, 58, 59, 60, 61, 62, 63, 64, 65, 66, 67, 223, 224, 225, 226, 227, 228, 229, 230, 231, 232, 233, 234, 235, 236, 237, 238, 239, 240, 241, 242] (by decide +kernel) (by decide +kernel)
set_option maxRecDepth 20000 in
theorem gX4_carryOut_X2_note : GoodIn wsX4_carryOut (wsV RX4 41 RX2 yX2_note wsX2_note) := goodIn_app (goodIn_of _ (by decide +kernel)) ggX4_carryOut_X2_note
set_option maxRecDepth 20000 in
theorem ggX4_carryOut_X3_isOrder : GoodIn wsX4_carryOut wsX3_isOrder := goodIn_r _ [71, 72, 73, 74, 8, 75, 10, 11, 221, 222] (by decide +kernel) (by decide +kernel)
set_option maxRecDepth 20000 in
theorem gX4_carryOut_X3_isOrder : GoodIn wsX4_carryOut (wsV RX4 123 RX3 yX3_isOrder wsX3_isOrder) := goodIn_app (goodIn_of _ (by decide +kernel)) ggX4_carryOut_X3_isOrder
set_option maxRecDepth 20000 in
theorem ggX4_carryOut_X4_follow : GoodIn wsX4_carryOut wsX4_follow := goodIn_r _ [80, 1, 3, 81, 73, 74, 8, 75, 10, 11, 82, 83, 84, 85, 72, 18, 19, 20, 86, 87, 88, 40, 89, 48, 49, 47, 90, 91, 59, 92, 93, 94, 95, 96, 61, 62, 97, 98, 99, 100, 63, 64, 65, 66, 67, 101, 102, 103, 104, 105, 106, 107, 108, 109, 110, 111, 112, 113, 114, 115, 116, 42, 117, 55, 118, 119, 120, 121, 122, 123, 124, 125, 126, 50, 51, 52, 127, 128, 129, 130, 53, 54, 131, 132, 133, 134, 135, 136, 137, 138, 139, 140, 141, 142, 143, 144, 145, 146, 147, 148, 149, 150, 151, 152, 153, 154, 155, 156, 157, 158, 159, 160, 161, 162, 163, 164, 165, 166, 167, 168, 169, 170, 171, 172, 173, 174, 175, 176, 177, 178, 179, 180, 181, 182, 183, 184, 185, 186, 187, 188, 189, 190, 191, 192, 193, 194, 195, 196, 197, 35, 198, 199, 200, 201, 202, 215, 216, 217, 218, 219, 220, 221, 222, 226, 227, 228, 229, 230, 231, 232, 233, 234, 235, 236, 237, 238, 239, 240, 241, 242] (by decide +kernel) (by decide +kernel)
set_option maxRecDepth 20000 in
theorem gX4_carryOut_X4_follow : GoodIn wsX4_carryOut (wsV RX4 126 RX4 yX4_follow wsX4_follow) := goodIn_app (goodIn_of _ (by decide +kernel)) ggX4_carryOut_X4_follow
set_option maxRecDepth 20000 in
theorem ggX4_carryOut_X3_empty : GoodIn wsX4_carryOut wsX3_empty := goodIn_r _ [206, 10, 221, 222] (by decide +kernel) (by decide +kernel)
set_option maxRecDepth 20000 in
theorem gX4_carryOut_X3_empty : GoodIn wsX4_carryOut (wsV RX4 116 RX3 yX3_empty wsX3_empty) := goodIn_app (goodIn_of _ (by decide +kernel)) ggX4_carryOut_X3_empty
set_option maxRecDepth 20000 in
theorem ggX4_carryOut_X4_recorded : GoodIn wsX4_carryOut wsX4_recorded := goodIn_r _ [210, 2, 211, 212, 213, 24, 214, 26, 32, 33, 34, 35, 36, 215, 216, 217, 218, 219, 220, 223, 224, 225] (by decide +kernel) (by decide +kernel)
set_option maxRecDepth 20000 in
theorem gX4_carryOut_X4_recorded : GoodIn wsX4_carryOut (wsV RX4 49 RX4 yX4_recorded wsX4_recorded) := goodIn_app (goodIn_of _ (by decide +kernel)) ggX4_carryOut_X4_recorded
theorem dX4_carryOut_0 : decode cX4_carryOut 0 = .ok (.aload_n 0, 1) := by decide +kernel
theorem dX4_carryOut_1 : decode cX4_carryOut 1 = .ok (.getfield 37, 3) := by decide +kernel
theorem dX4_carryOut_4 : decode cX4_carryOut 4 = .ok (.invokevirtual 120, 3) := by decide +kernel
theorem dX4_carryOut_7 : decode cX4_carryOut 7 = .ok (.bipush (-6), 2) := by decide +kernel
theorem dX4_carryOut_9 : decode cX4_carryOut 9 = .ok (.if_icmp .eq 6, 3) := by decide +kernel
theorem dX4_carryOut_12 : decode cX4_carryOut 12 = .ok (.bipush (-3), 2) := by decide +kernel
theorem dX4_carryOut_14 : decode cX4_carryOut 14 = .ok (.ireturn, 1) := by decide +kernel
theorem dX4_carryOut_15 : decode cX4_carryOut 15 = .ok (.aload_n 0, 1) := by decide +kernel
theorem dX4_carryOut_16 : decode cX4_carryOut 16 = .ok (.getfield 22, 3) := by decide +kernel
theorem dX4_carryOut_19 : decode cX4_carryOut 19 = .ok (.aload_n 0, 1) := by decide +kernel
theorem dX4_carryOut_20 : decode cX4_carryOut 20 = .ok (.getfield 10, 3) := by decide +kernel
theorem dX4_carryOut_23 : decode cX4_carryOut 23 = .ok (.invokevirtual 41, 3) := by decide +kernel
theorem dX4_carryOut_26 : decode cX4_carryOut 26 = .ok (.iconst 0, 1) := by decide +kernel
theorem dX4_carryOut_27 : decode cX4_carryOut 27 = .ok (.istore_n 1, 1) := by decide +kernel
theorem dX4_carryOut_28 : decode cX4_carryOut 28 = .ok (.iconst 0, 1) := by decide +kernel
theorem dX4_carryOut_29 : decode cX4_carryOut 29 = .ok (.istore_n 2, 1) := by decide +kernel
theorem dX4_carryOut_30 : decode cX4_carryOut 30 = .ok (.iload_n 2, 1) := by decide +kernel
theorem dX4_carryOut_31 : decode cX4_carryOut 31 = .ok (.aload_n 0, 1) := by decide +kernel
theorem dX4_carryOut_32 : decode cX4_carryOut 32 = .ok (.getfield 37, 3) := by decide +kernel
theorem dX4_carryOut_35 : decode cX4_carryOut 35 = .ok (.getfield 74, 3) := by decide +kernel
theorem dX4_carryOut_38 : decode cX4_carryOut 38 = .ok (.if_icmp .ge 34, 3) := by decide +kernel
theorem dX4_carryOut_41 : decode cX4_carryOut 41 = .ok (.aload_n 0, 1) := by decide +kernel
theorem dX4_carryOut_42 : decode cX4_carryOut 42 = .ok (.getfield 37, 3) := by decide +kernel
theorem dX4_carryOut_45 : decode cX4_carryOut 45 = .ok (.iload_n 2, 1) := by decide +kernel
theorem dX4_carryOut_46 : decode cX4_carryOut 46 = .ok (.invokevirtual 123, 3) := by decide +kernel
theorem dX4_carryOut_49 : decode cX4_carryOut 49 = .ok (.ifCond .eq 17, 3) := by decide +kernel
theorem dX4_carryOut_52 : decode cX4_carryOut 52 = .ok (.aload_n 0, 1) := by decide +kernel
theorem dX4_carryOut_53 : decode cX4_carryOut 53 = .ok (.iload_n 2, 1) := by decide +kernel
theorem dX4_carryOut_54 : decode cX4_carryOut 54 = .ok (.invokevirtual 126, 3) := by decide +kernel
theorem dX4_carryOut_57 : decode cX4_carryOut 57 = .ok (.ifCond .ge 6, 3) := by decide +kernel
theorem dX4_carryOut_60 : decode cX4_carryOut 60 = .ok (.goto 12, 3) := by decide +kernel
theorem dX4_carryOut_63 : decode cX4_carryOut 63 = .ok (.iinc 1 1, 3) := by decide +kernel
theorem dX4_carryOut_66 : decode cX4_carryOut 66 = .ok (.iinc 2 1, 3) := by decide +kernel
theorem dX4_carryOut_69 : decode cX4_carryOut 69 = .ok (.goto (-39), 3) := by decide +kernel
theorem dX4_carryOut_72 : decode cX4_carryOut 72 = .ok (.aload_n 0, 1) := by decide +kernel
theorem dX4_carryOut_73 : decode cX4_carryOut 73 = .ok (.getfield 37, 3) := by decide +kernel
theorem dX4_carryOut_76 : decode cX4_carryOut 76 = .ok (.invokevirtual 116, 3) := by decide +kernel
theorem dX4_carryOut_79 : decode cX4_carryOut 79 = .ok (.pop, 1) := by decide +kernel
theorem dX4_carryOut_80 : decode cX4_carryOut 80 = .ok (.aload_n 0, 1) := by decide +kernel
theorem dX4_carryOut_81 : decode cX4_carryOut 81 = .ok (.iload_n 1, 1) := by decide +kernel
theorem dX4_carryOut_82 : decode cX4_carryOut 82 = .ok (.invokevirtual 49, 3) := by decide +kernel
theorem dX4_carryOut_85 : decode cX4_carryOut 85 = .ok (.ireturn, 1) := by decide +kernel
set_option maxRecDepth 20000 in
theorem ggX4_follow_X3_signAt : GoodIn wsX4_follow wsX3_signAt := goodIn_r _ [7, 8, 9, 161, 162] (by decide +kernel) (by decide +kernel)
set_option maxRecDepth 20000 in
theorem gX4_follow_X3_signAt : GoodIn wsX4_follow (wsV RX4 129 RX3 yX3_signAt wsX3_signAt) := goodIn_app (goodIn_of _ (by decide +kernel)) ggX4_follow_X3_signAt
set_option maxRecDepth 20000 in
theorem ggX4_follow_X3_numberAt : GoodIn wsX4_follow wsX3_numberAt := goodIn_r _ [13, 8, 14, 4, 5, 6, 7, 9, 15, 16, 17, 161, 162] (by decide +kernel) (by decide +kernel)
set_option maxRecDepth 20000 in
theorem gX4_follow_X3_numberAt : GoodIn wsX4_follow (wsV RX4 133 RX3 yX3_numberAt wsX3_numberAt) := goodIn_app (goodIn_of _ (by decide +kernel)) ggX4_follow_X3_numberAt
set_option maxRecDepth 20000 in
theorem ggX4_follow_X0_takeBox : GoodIn wsX4_follow wsX0_takeBox := goodIn_r _ [22, 23, 24, 25, 26, 27, 28, 29, 30, 31, 32, 33, 34, 35, 36, 37, 38, 39, 40, 41, 42, 43, 44, 163, 164, 165, 166, 167, 168, 169, 170, 171, 172, 173, 174, 175, 176, 177, 178, 179] (by decide +kernel) (by decide +kernel)
set_option maxRecDepth 20000 in
theorem gX4_follow_X0_takeBox : GoodIn wsX4_follow (wsV RX4 53 RX0 yX0_takeBox wsX0_takeBox) := goodIn_app (goodIn_of _ (by decide +kernel)) ggX4_follow_X0_takeBox
set_option maxRecDepth 20000 in
theorem ggX4_follow_X0_letPass : GoodIn wsX4_follow wsX0_letPass := goodIn_r _ [48, 25, 49, 50, 51, 21, 52, 53, 54, 55, 56, 57, 58, 59, 60, 61, 23, 24, 62, 63, 64, 65, 66, 67, 68, 69, 70, 71, 72, 73, 74, 75, 76, 77, 78, 79, 80, 81, 82, 83, 84, 85, 86, 87, 88, 89, 90, 91, 92, 93, 94, 95, 96, 97, 98, 99, 100, 101, 102, 103, 104, 28, 105, 34, 35, 106, 107, 108, 109, 110, 111, 112, 113, 114, 115, 116, 117, 118, 119, 120, 121, 122, 123, 124, 30, 31, 32, 33, 125, 126, 127, 128, 129, 130, 131, 163, 164, 165, 166, 167, 168, 169, 170, 171, 172, 173, 174, 175, 176, 177, 178, 179] (by decide +kernel) (by decide +kernel)
set_option maxRecDepth 20000 in
theorem gX4_follow_X0_letPass : GoodIn wsX4_follow (wsV RX4 59 RX0 yX0_letPass wsX0_letPass) := goodIn_app (goodIn_of _ (by decide +kernel)) ggX4_follow_X0_letPass
set_option maxRecDepth 20000 in
theorem ggX4_follow_X0_choose : GoodIn wsX4_follow wsX0_choose := goodIn_r _ [135, 61, 136, 137, 163, 164, 165, 166, 167, 168, 169, 170, 171, 172] (by decide +kernel) (by decide +kernel)
set_option maxRecDepth 20000 in
theorem gX4_follow_X0_choose : GoodIn wsX4_follow (wsV RX4 45 RX0 yX0_choose wsX0_choose) := goodIn_app (goodIn_of _ (by decide +kernel)) ggX4_follow_X0_choose
set_option maxRecDepth 20000 in
theorem ggX4_follow_X0_turnBox : GoodIn wsX4_follow wsX0_turnBox := goodIn_r _ [141, 24, 62, 142, 143, 144, 145, 21, 146, 23, 26, 27, 28, 29, 147, 148, 149, 150, 151, 152, 153, 154, 30, 31, 32, 33, 34, 35, 163, 164, 165, 166, 167, 168, 169, 170, 171, 172, 173, 174, 175, 176, 177, 178, 179] (by decide +kernel) (by decide +kernel)
set_option maxRecDepth 20000 in
theorem gX4_follow_X0_turnBox : GoodIn wsX4_follow (wsV RX4 56 RX0 yX0_turnBox wsX0_turnBox) := goodIn_app (goodIn_of _ (by decide +kernel)) ggX4_follow_X0_turnBox
theorem dX4_follow_0 : decode cX4_follow 0 = .ok (.aload_n 0, 1) := by decide +kernel
theorem dX4_follow_1 : decode cX4_follow 1 = .ok (.getfield 37, 3) := by decide +kernel
theorem dX4_follow_4 : decode cX4_follow 4 = .ok (.iload_n 1, 1) := by decide +kernel
theorem dX4_follow_5 : decode cX4_follow 5 = .ok (.invokevirtual 129, 3) := by decide +kernel
theorem dX4_follow_8 : decode cX4_follow 8 = .ok (.lookupswitch 91 #[(98, 36), (115, 72), (119, 54)], 36) := by decide +kernel
theorem dX4_follow_44 : decode cX4_follow 44 = .ok (.aload_n 0, 1) := by decide +kernel
theorem dX4_follow_45 : decode cX4_follow 45 = .ok (.getfield 10, 3) := by decide +kernel
theorem dX4_follow_48 : decode cX4_follow 48 = .ok (.aload_n 0, 1) := by decide +kernel
theorem dX4_follow_49 : decode cX4_follow 49 = .ok (.getfield 37, 3) := by decide +kernel
theorem dX4_follow_52 : decode cX4_follow 52 = .ok (.iload_n 1, 1) := by decide +kernel
theorem dX4_follow_53 : decode cX4_follow 53 = .ok (.iconst 1, 1) := by decide +kernel
theorem dX4_follow_54 : decode cX4_follow 54 = .ok (.iadd, 1) := by decide +kernel
theorem dX4_follow_55 : decode cX4_follow 55 = .ok (.invokevirtual 133, 3) := by decide +kernel
theorem dX4_follow_58 : decode cX4_follow 58 = .ok (.invokevirtual 53, 3) := by decide +kernel
theorem dX4_follow_61 : decode cX4_follow 61 = .ok (.ireturn, 1) := by decide +kernel
theorem dX4_follow_62 : decode cX4_follow 62 = .ok (.aload_n 0, 1) := by decide +kernel
theorem dX4_follow_63 : decode cX4_follow 63 = .ok (.getfield 10, 3) := by decide +kernel
theorem dX4_follow_66 : decode cX4_follow 66 = .ok (.aload_n 0, 1) := by decide +kernel
theorem dX4_follow_67 : decode cX4_follow 67 = .ok (.getfield 37, 3) := by decide +kernel
theorem dX4_follow_70 : decode cX4_follow 70 = .ok (.iload_n 1, 1) := by decide +kernel
theorem dX4_follow_71 : decode cX4_follow 71 = .ok (.iconst 1, 1) := by decide +kernel
theorem dX4_follow_72 : decode cX4_follow 72 = .ok (.iadd, 1) := by decide +kernel
theorem dX4_follow_73 : decode cX4_follow 73 = .ok (.invokevirtual 133, 3) := by decide +kernel
theorem dX4_follow_76 : decode cX4_follow 76 = .ok (.invokevirtual 59, 3) := by decide +kernel
theorem dX4_follow_79 : decode cX4_follow 79 = .ok (.ireturn, 1) := by decide +kernel
theorem dX4_follow_80 : decode cX4_follow 80 = .ok (.aload_n 0, 1) := by decide +kernel
theorem dX4_follow_81 : decode cX4_follow 81 = .ok (.getfield 10, 3) := by decide +kernel
theorem dX4_follow_84 : decode cX4_follow 84 = .ok (.iconst 0, 1) := by decide +kernel
theorem dX4_follow_85 : decode cX4_follow 85 = .ok (.aload_n 0, 1) := by decide +kernel
theorem dX4_follow_86 : decode cX4_follow 86 = .ok (.getfield 37, 3) := by decide +kernel
theorem dX4_follow_89 : decode cX4_follow 89 = .ok (.iload_n 1, 1) := by decide +kernel
theorem dX4_follow_90 : decode cX4_follow 90 = .ok (.iconst 1, 1) := by decide +kernel
theorem dX4_follow_91 : decode cX4_follow 91 = .ok (.iadd, 1) := by decide +kernel
theorem dX4_follow_92 : decode cX4_follow 92 = .ok (.invokevirtual 133, 3) := by decide +kernel
theorem dX4_follow_95 : decode cX4_follow 95 = .ok (.invokevirtual 45, 3) := by decide +kernel
theorem dX4_follow_98 : decode cX4_follow 98 = .ok (.ireturn, 1) := by decide +kernel
theorem dX4_follow_99 : decode cX4_follow 99 = .ok (.aload_n 0, 1) := by decide +kernel
theorem dX4_follow_100 : decode cX4_follow 100 = .ok (.getfield 10, 3) := by decide +kernel
theorem dX4_follow_103 : decode cX4_follow 103 = .ok (.aload_n 0, 1) := by decide +kernel
theorem dX4_follow_104 : decode cX4_follow 104 = .ok (.getfield 37, 3) := by decide +kernel
theorem dX4_follow_107 : decode cX4_follow 107 = .ok (.iload_n 1, 1) := by decide +kernel
theorem dX4_follow_108 : decode cX4_follow 108 = .ok (.iconst 1, 1) := by decide +kernel
theorem dX4_follow_109 : decode cX4_follow 109 = .ok (.iadd, 1) := by decide +kernel
theorem dX4_follow_110 : decode cX4_follow 110 = .ok (.invokevirtual 129, 3) := by decide +kernel
theorem dX4_follow_113 : decode cX4_follow 113 = .ok (.bipush 48, 2) := by decide +kernel
theorem dX4_follow_115 : decode cX4_follow 115 = .ok (.isub, 1) := by decide +kernel
theorem dX4_follow_116 : decode cX4_follow 116 = .ok (.aload_n 0, 1) := by decide +kernel
theorem dX4_follow_117 : decode cX4_follow 117 = .ok (.getfield 37, 3) := by decide +kernel
theorem dX4_follow_120 : decode cX4_follow 120 = .ok (.iload_n 1, 1) := by decide +kernel
theorem dX4_follow_121 : decode cX4_follow 121 = .ok (.iconst 3, 1) := by decide +kernel
theorem dX4_follow_122 : decode cX4_follow 122 = .ok (.iadd, 1) := by decide +kernel
theorem dX4_follow_123 : decode cX4_follow 123 = .ok (.invokevirtual 133, 3) := by decide +kernel
theorem dX4_follow_126 : decode cX4_follow 126 = .ok (.invokevirtual 56, 3) := by decide +kernel
theorem dX4_follow_129 : decode cX4_follow 129 = .ok (.ireturn, 1) := by decide +kernel
set_option maxRecDepth 20000 in
theorem ggX4_undo_X2_takeBack : GoodIn wsX4_undo wsX2_takeBack := goodIn_r _ [8, 9, 10, 11, 12, 7, 13, 14, 15, 16, 17, 18, 19, 20, 21, 22, 23, 24, 25, 26, 27, 28, 29, 30, 31, 32, 33, 34, 35, 36, 37, 38, 39, 40, 41, 42, 43, 44, 45, 46, 47, 48, 49, 50, 57, 58, 59, 60, 61, 62, 63, 64, 65, 66, 67, 68, 69, 70, 71, 72, 73, 74, 75, 76] (by decide +kernel) (by decide +kernel)
set_option maxRecDepth 20000 in
theorem gX4_undo_X2_takeBack : GoodIn wsX4_undo (wsV RX4 136 RX2 yX2_takeBack wsX2_takeBack) := goodIn_app (goodIn_of _ (by decide +kernel)) ggX4_undo_X2_takeBack
theorem dX4_undo_0 : decode cX4_undo 0 = .ok (.aload_n 0, 1) := by decide +kernel
theorem dX4_undo_1 : decode cX4_undo 1 = .ok (.getfield 22, 3) := by decide +kernel
theorem dX4_undo_4 : decode cX4_undo 4 = .ok (.getfield 78, 3) := by decide +kernel
theorem dX4_undo_7 : decode cX4_undo 7 = .ok (.ifCond .ne 6, 3) := by decide +kernel
theorem dX4_undo_10 : decode cX4_undo 10 = .ok (.bipush (-5), 2) := by decide +kernel
theorem dX4_undo_12 : decode cX4_undo 12 = .ok (.ireturn, 1) := by decide +kernel
theorem dX4_undo_13 : decode cX4_undo 13 = .ok (.aload_n 0, 1) := by decide +kernel
theorem dX4_undo_14 : decode cX4_undo 14 = .ok (.getfield 22, 3) := by decide +kernel
theorem dX4_undo_17 : decode cX4_undo 17 = .ok (.aload_n 0, 1) := by decide +kernel
theorem dX4_undo_18 : decode cX4_undo 18 = .ok (.getfield 10, 3) := by decide +kernel
theorem dX4_undo_21 : decode cX4_undo 21 = .ok (.invokevirtual 136, 3) := by decide +kernel
theorem dX4_undo_24 : decode cX4_undo 24 = .ok (.aload_n 0, 1) := by decide +kernel
theorem dX4_undo_25 : decode cX4_undo 25 = .ok (.getfield 22, 3) := by decide +kernel
theorem dX4_undo_28 : decode cX4_undo 28 = .ok (.getfield 78, 3) := by decide +kernel
theorem dX4_undo_31 : decode cX4_undo 31 = .ok (.ireturn, 1) := by decide +kernel
set_option maxRecDepth 20000 in
theorem ggX4_save_X4_isSlot : GoodIn wsX4_save wsX4_isSlot := goodIn_r _ [8, 1, 44, 45, 46, 47, 48, 49] (by decide +kernel) (by decide +kernel)
set_option maxRecDepth 20000 in
theorem gX4_save_X4_isSlot : GoodIn wsX4_save (wsV RX4 139 RX4 yX4_isSlot wsX4_isSlot) := goodIn_app (goodIn_of _ (by decide +kernel)) ggX4_save_X4_isSlot
set_option maxRecDepth 20000 in
theorem ggX4_save_X0_copyFrom : GoodIn wsX4_save wsX0_copyFrom := goodIn_r _ [13, 14, 15, 16, 17, 18, 19, 20, 21, 22, 23, 24, 25, 26, 27, 28, 29, 30, 31, 32, 33, 34, 35, 36, 37, 38, 39, 50, 51, 52, 53, 54, 55, 56, 57, 58, 59, 60, 61, 62, 63, 64, 65, 66] (by decide +kernel) (by decide +kernel)
set_option maxRecDepth 20000 in
theorem gX4_save_X0_copyFrom : GoodIn wsX4_save (wsV RX4 92 RX0 yX0_copyFrom wsX0_copyFrom) := goodIn_app (goodIn_of _ (by decide +kernel)) ggX4_save_X0_copyFrom
set_option maxRecDepth 20000 in
theorem ggX4_save_X0_number : GoodIn wsX4_save wsX0_number := goodIn_r _ [43, 20, 22, 25, 19, 14, 50, 51, 52, 53, 54, 55, 56, 57, 58, 59] (by decide +kernel) (by decide +kernel)
set_option maxRecDepth 20000 in
theorem gX4_save_X0_number : GoodIn wsX4_save (wsV RX4 81 RX0 yX0_number wsX0_number) := goodIn_app (goodIn_of _ (by decide +kernel)) ggX4_save_X0_number
theorem dX4_save_0 : decode cX4_save 0 = .ok (.aload_n 0, 1) := by decide +kernel
theorem dX4_save_1 : decode cX4_save 1 = .ok (.iload_n 1, 1) := by decide +kernel
theorem dX4_save_2 : decode cX4_save 2 = .ok (.invokevirtual 139, 3) := by decide +kernel
theorem dX4_save_5 : decode cX4_save 5 = .ok (.ifCond .ne 6, 3) := by decide +kernel
theorem dX4_save_8 : decode cX4_save 8 = .ok (.bipush (-2), 2) := by decide +kernel
theorem dX4_save_10 : decode cX4_save 10 = .ok (.ireturn, 1) := by decide +kernel
theorem dX4_save_11 : decode cX4_save 11 = .ok (.aload_n 0, 1) := by decide +kernel
theorem dX4_save_12 : decode cX4_save 12 = .ok (.getfield 26, 3) := by decide +kernel
theorem dX4_save_15 : decode cX4_save 15 = .ok (.iload_n 1, 1) := by decide +kernel
theorem dX4_save_16 : decode cX4_save 16 = .ok (.aaload, 1) := by decide +kernel
theorem dX4_save_17 : decode cX4_save 17 = .ok (.aload_n 0, 1) := by decide +kernel
theorem dX4_save_18 : decode cX4_save 18 = .ok (.getfield 10, 3) := by decide +kernel
theorem dX4_save_21 : decode cX4_save 21 = .ok (.invokevirtual 92, 3) := by decide +kernel
theorem dX4_save_24 : decode cX4_save 24 = .ok (.aload_n 0, 1) := by decide +kernel
theorem dX4_save_25 : decode cX4_save 25 = .ok (.getfield 30, 3) := by decide +kernel
theorem dX4_save_28 : decode cX4_save 28 = .ok (.iload_n 1, 1) := by decide +kernel
theorem dX4_save_29 : decode cX4_save 29 = .ok (.iconst 1, 1) := by decide +kernel
theorem dX4_save_30 : decode cX4_save 30 = .ok (.bastore, 1) := by decide +kernel
theorem dX4_save_31 : decode cX4_save 31 = .ok (.aload_n 0, 1) := by decide +kernel
theorem dX4_save_32 : decode cX4_save 32 = .ok (.getfield 10, 3) := by decide +kernel
theorem dX4_save_35 : decode cX4_save 35 = .ok (.iconst 0, 1) := by decide +kernel
theorem dX4_save_36 : decode cX4_save 36 = .ok (.invokevirtual 81, 3) := by decide +kernel
theorem dX4_save_39 : decode cX4_save 39 = .ok (.ireturn, 1) := by decide +kernel
set_option maxRecDepth 20000 in
theorem ggX4_restore_X4_isSlot : GoodIn wsX4_restore wsX4_isSlot := goodIn_r _ [9, 4, 70, 71, 72, 73, 74, 75] (by decide +kernel) (by decide +kernel)
set_option maxRecDepth 20000 in
theorem gX4_restore_X4_isSlot : GoodIn wsX4_restore (wsV RX4 139 RX4 yX4_isSlot wsX4_isSlot) := goodIn_app (goodIn_of _ (by decide +kernel)) ggX4_restore_X4_isSlot
set_option maxRecDepth 20000 in
theorem ggX4_restore_X2_note : GoodIn wsX4_restore wsX2_note := goodIn_r _ [14, 15, 16, 17, 18, 13, 19, 20, 21, 22, 23, 24, 25, 26, 27, 28, 29, 30, 31, 32, 33, 34, 35, 36, 37, 38, 39, 40, 41, 42, 43, 44, 45, 46, 47, 48, 49, 50, 51, 52, 53, 54, 55, 56, 76, 77, 78, 79, 80, 81, 82, 83, 84, 85, 86, 87, 88, 89, 90, 91, 92, 93, 94, 95] (by decide +kernel) (by decide +kernel)
set_option maxRecDepth 20000 in
theorem gX4_restore_X2_note : GoodIn wsX4_restore (wsV RX4 41 RX2 yX2_note wsX2_note) := goodIn_app (goodIn_of _ (by decide +kernel)) ggX4_restore_X2_note
set_option maxRecDepth 20000 in
theorem ggX4_restore_X0_copyFrom : GoodIn wsX4_restore wsX0_copyFrom := goodIn_r _ [30, 31, 32, 33, 34, 35, 36, 37, 38, 39, 40, 41, 42, 43, 44, 45, 46, 47, 48, 49, 50, 51, 52, 53, 54, 55, 56, 79, 80, 81, 82, 83, 84, 85, 86, 87, 88, 89, 90, 91, 92, 93, 94, 95] (by decide +kernel) (by decide +kernel)
set_option maxRecDepth 20000 in
theorem gX4_restore_X0_copyFrom : GoodIn wsX4_restore (wsV RX4 92 RX0 yX0_copyFrom wsX0_copyFrom) := goodIn_app (goodIn_of _ (by decide +kernel)) ggX4_restore_X0_copyFrom
set_option maxRecDepth 20000 in
theorem ggX4_restore_X0_number : GoodIn wsX4_restore wsX0_number := goodIn_r _ [61, 37, 39, 42, 36, 31, 79, 80, 81, 82, 83, 84, 85, 86, 87, 88] (by decide +kernel) (by decide +kernel)
set_option maxRecDepth 20000 in
theorem gX4_restore_X0_number : GoodIn wsX4_restore (wsV RX4 81 RX0 yX0_number wsX0_number) := goodIn_app (goodIn_of _ (by decide +kernel)) ggX4_restore_X0_number
set_option maxRecDepth 20000 in
theorem ggX4_restore_X4_recorded : GoodIn wsX4_restore wsX4_recorded := goodIn_r _ [65, 2, 66, 67, 68, 13, 69, 15, 21, 22, 23, 24, 25, 70, 71, 72, 73, 74, 75, 76, 77, 78] (by decide +kernel) (by decide +kernel)
set_option maxRecDepth 20000 in
theorem gX4_restore_X4_recorded : GoodIn wsX4_restore (wsV RX4 49 RX4 yX4_recorded wsX4_recorded) := goodIn_app (goodIn_of _ (by decide +kernel)) ggX4_restore_X4_recorded
theorem dX4_restore_0 : decode cX4_restore 0 = .ok (.aload_n 0, 1) := by decide +kernel
theorem dX4_restore_1 : decode cX4_restore 1 = .ok (.iload_n 1, 1) := by decide +kernel
theorem dX4_restore_2 : decode cX4_restore 2 = .ok (.invokevirtual 139, 3) := by decide +kernel
theorem dX4_restore_5 : decode cX4_restore 5 = .ok (.ifCond .ne 6, 3) := by decide +kernel
theorem dX4_restore_8 : decode cX4_restore 8 = .ok (.bipush (-2), 2) := by decide +kernel
theorem dX4_restore_10 : decode cX4_restore 10 = .ok (.ireturn, 1) := by decide +kernel
theorem dX4_restore_11 : decode cX4_restore 11 = .ok (.aload_n 0, 1) := by decide +kernel
theorem dX4_restore_12 : decode cX4_restore 12 = .ok (.getfield 30, 3) := by decide +kernel
theorem dX4_restore_15 : decode cX4_restore 15 = .ok (.iload_n 1, 1) := by decide +kernel
theorem dX4_restore_16 : decode cX4_restore 16 = .ok (.baload, 1) := by decide +kernel
theorem dX4_restore_17 : decode cX4_restore 17 = .ok (.ifCond .ne 6, 3) := by decide +kernel
theorem dX4_restore_20 : decode cX4_restore 20 = .ok (.bipush (-5), 2) := by decide +kernel
theorem dX4_restore_22 : decode cX4_restore 22 = .ok (.ireturn, 1) := by decide +kernel
theorem dX4_restore_23 : decode cX4_restore 23 = .ok (.aload_n 0, 1) := by decide +kernel
theorem dX4_restore_24 : decode cX4_restore 24 = .ok (.getfield 22, 3) := by decide +kernel
theorem dX4_restore_27 : decode cX4_restore 27 = .ok (.aload_n 0, 1) := by decide +kernel
theorem dX4_restore_28 : decode cX4_restore 28 = .ok (.getfield 10, 3) := by decide +kernel
theorem dX4_restore_31 : decode cX4_restore 31 = .ok (.invokevirtual 41, 3) := by decide +kernel
theorem dX4_restore_34 : decode cX4_restore 34 = .ok (.aload_n 0, 1) := by decide +kernel
theorem dX4_restore_35 : decode cX4_restore 35 = .ok (.getfield 10, 3) := by decide +kernel
theorem dX4_restore_38 : decode cX4_restore 38 = .ok (.aload_n 0, 1) := by decide +kernel
theorem dX4_restore_39 : decode cX4_restore 39 = .ok (.getfield 26, 3) := by decide +kernel
theorem dX4_restore_42 : decode cX4_restore 42 = .ok (.iload_n 1, 1) := by decide +kernel
theorem dX4_restore_43 : decode cX4_restore 43 = .ok (.aaload, 1) := by decide +kernel
theorem dX4_restore_44 : decode cX4_restore 44 = .ok (.invokevirtual 92, 3) := by decide +kernel
theorem dX4_restore_47 : decode cX4_restore 47 = .ok (.aload_n 0, 1) := by decide +kernel
theorem dX4_restore_48 : decode cX4_restore 48 = .ok (.aload_n 0, 1) := by decide +kernel
theorem dX4_restore_49 : decode cX4_restore 49 = .ok (.getfield 10, 3) := by decide +kernel
theorem dX4_restore_52 : decode cX4_restore 52 = .ok (.iconst 0, 1) := by decide +kernel
theorem dX4_restore_53 : decode cX4_restore 53 = .ok (.invokevirtual 81, 3) := by decide +kernel
theorem dX4_restore_56 : decode cX4_restore 56 = .ok (.invokevirtual 49, 3) := by decide +kernel
theorem dX4_restore_59 : decode cX4_restore 59 = .ok (.ireturn, 1) := by decide +kernel
theorem dX4_isSlot_0 : decode cX4_isSlot 0 = .ok (.iload_n 1, 1) := by decide +kernel
theorem dX4_isSlot_1 : decode cX4_isSlot 1 = .ok (.ifCond .lt 16, 3) := by decide +kernel
theorem dX4_isSlot_4 : decode cX4_isSlot 4 = .ok (.iload_n 1, 1) := by decide +kernel
theorem dX4_isSlot_5 : decode cX4_isSlot 5 = .ok (.aload_n 0, 1) := by decide +kernel
theorem dX4_isSlot_6 : decode cX4_isSlot 6 = .ok (.getfield 26, 3) := by decide +kernel
theorem dX4_isSlot_9 : decode cX4_isSlot 9 = .ok (.arraylength, 1) := by decide +kernel
theorem dX4_isSlot_10 : decode cX4_isSlot 10 = .ok (.if_icmp .ge 7, 3) := by decide +kernel
theorem dX4_isSlot_13 : decode cX4_isSlot 13 = .ok (.iconst 1, 1) := by decide +kernel
theorem dX4_isSlot_14 : decode cX4_isSlot 14 = .ok (.goto 4, 3) := by decide +kernel
theorem dX4_isSlot_17 : decode cX4_isSlot 17 = .ok (.iconst 0, 1) := by decide +kernel
theorem dX4_isSlot_18 : decode cX4_isSlot 18 = .ok (.ireturn, 1) := by decide +kernel
end
section
theorem dX5_init_0 : decode cX5_init 0 = .ok (.aload_n 0, 1) := by decide +kernel
theorem dX5_init_1 : decode cX5_init 1 = .ok (.invokespecial 1, 3) := by decide +kernel
theorem dX5_init_4 : decode cX5_init 4 = .ok (.aload_n 0, 1) := by decide +kernel
theorem dX5_init_5 : decode cX5_init 5 = .ok (.sipush 160, 3) := by decide +kernel
theorem dX5_init_8 : decode cX5_init 8 = .ok (.newarray .int, 2) := by decide +kernel
theorem dX5_init_10 : decode cX5_init 10 = .ok (.putfield 7, 3) := by decide +kernel
theorem dX5_init_13 : decode cX5_init 13 = .ok (.aload_n 0, 1) := by decide +kernel
theorem dX5_init_14 : decode cX5_init 14 = .ok (.sipush 160, 3) := by decide +kernel
theorem dX5_init_17 : decode cX5_init 17 = .ok (.newarray .int, 2) := by decide +kernel
theorem dX5_init_19 : decode cX5_init 19 = .ok (.putfield 13, 3) := by decide +kernel
theorem dX5_init_22 : decode cX5_init 22 = .ok (.aload_n 0, 1) := by decide +kernel
theorem dX5_init_23 : decode cX5_init 23 = .ok (.sipush 960, 3) := by decide +kernel
theorem dX5_init_26 : decode cX5_init 26 = .ok (.newarray .int, 2) := by decide +kernel
theorem dX5_init_28 : decode cX5_init 28 = .ok (.putfield 16, 3) := by decide +kernel
theorem dX5_init_31 : decode cX5_init 31 = .ok (.aload_n 0, 1) := by decide +kernel
theorem dX5_init_32 : decode cX5_init 32 = .ok (.sipush 320, 3) := by decide +kernel
theorem dX5_init_35 : decode cX5_init 35 = .ok (.newarray .int, 2) := by decide +kernel
theorem dX5_init_37 : decode cX5_init 37 = .ok (.putfield 19, 3) := by decide +kernel
theorem dX5_init_40 : decode cX5_init 40 = .ok (.aload_n 0, 1) := by decide +kernel
theorem dX5_init_41 : decode cX5_init 41 = .ok (.iconst 2, 1) := by decide +kernel
theorem dX5_init_42 : decode cX5_init 42 = .ok (.newarray .int, 2) := by decide +kernel
theorem dX5_init_44 : decode cX5_init 44 = .ok (.putfield 22, 3) := by decide +kernel
theorem dX5_init_47 : decode cX5_init 47 = .ok (.aload_n 0, 1) := by decide +kernel
theorem dX5_init_48 : decode cX5_init 48 = .ok (.bipush 60, 2) := by decide +kernel
theorem dX5_init_50 : decode cX5_init 50 = .ok (.newarray .int, 2) := by decide +kernel
theorem dX5_init_52 : decode cX5_init 52 = .ok (.putfield 25, 3) := by decide +kernel
theorem dX5_init_55 : decode cX5_init 55 = .ok (.aload_n 0, 1) := by decide +kernel
theorem dX5_init_56 : decode cX5_init 56 = .ok (.getfield 7, 3) := by decide +kernel
theorem dX5_init_59 : decode cX5_init 59 = .ok (.iconst 0, 1) := by decide +kernel
theorem dX5_init_60 : decode cX5_init 60 = .ok (.iconst 3, 1) := by decide +kernel
theorem dX5_init_61 : decode cX5_init 61 = .ok (.iastore, 1) := by decide +kernel
theorem dX5_init_62 : decode cX5_init 62 = .ok (.aload_n 0, 1) := by decide +kernel
theorem dX5_init_63 : decode cX5_init 63 = .ok (.getfield 7, 3) := by decide +kernel
theorem dX5_init_66 : decode cX5_init 66 = .ok (.iconst 1, 1) := by decide +kernel
theorem dX5_init_67 : decode cX5_init 67 = .ok (.iconst 2, 1) := by decide +kernel
theorem dX5_init_68 : decode cX5_init 68 = .ok (.iastore, 1) := by decide +kernel
theorem dX5_init_69 : decode cX5_init 69 = .ok (.aload_n 0, 1) := by decide +kernel
theorem dX5_init_70 : decode cX5_init 70 = .ok (.getfield 7, 3) := by decide +kernel
theorem dX5_init_73 : decode cX5_init 73 = .ok (.iconst 2, 1) := by decide +kernel
theorem dX5_init_74 : decode cX5_init 74 = .ok (.iconst 2, 1) := by decide +kernel
theorem dX5_init_75 : decode cX5_init 75 = .ok (.iastore, 1) := by decide +kernel
theorem dX5_init_76 : decode cX5_init 76 = .ok (.aload_n 0, 1) := by decide +kernel
theorem dX5_init_77 : decode cX5_init 77 = .ok (.getfield 7, 3) := by decide +kernel
theorem dX5_init_80 : decode cX5_init 80 = .ok (.iconst 3, 1) := by decide +kernel
theorem dX5_init_81 : decode cX5_init 81 = .ok (.iconst 4, 1) := by decide +kernel
theorem dX5_init_82 : decode cX5_init 82 = .ok (.iastore, 1) := by decide +kernel
theorem dX5_init_83 : decode cX5_init 83 = .ok (.aload_n 0, 1) := by decide +kernel
theorem dX5_init_84 : decode cX5_init 84 = .ok (.getfield 7, 3) := by decide +kernel
theorem dX5_init_87 : decode cX5_init 87 = .ok (.iconst 4, 1) := by decide +kernel
theorem dX5_init_88 : decode cX5_init 88 = .ok (.bipush 6, 2) := by decide +kernel
theorem dX5_init_90 : decode cX5_init 90 = .ok (.iastore, 1) := by decide +kernel
theorem dX5_init_91 : decode cX5_init 91 = .ok (.aload_n 0, 1) := by decide +kernel
theorem dX5_init_92 : decode cX5_init 92 = .ok (.getfield 7, 3) := by decide +kernel
theorem dX5_init_95 : decode cX5_init 95 = .ok (.iconst 5, 1) := by decide +kernel
theorem dX5_init_96 : decode cX5_init 96 = .ok (.bipush 20, 2) := by decide +kernel
theorem dX5_init_98 : decode cX5_init 98 = .ok (.iastore, 1) := by decide +kernel
theorem dX5_init_99 : decode cX5_init 99 = .ok (.aload_n 0, 1) := by decide +kernel
theorem dX5_init_100 : decode cX5_init 100 = .ok (.getfield 7, 3) := by decide +kernel
theorem dX5_init_103 : decode cX5_init 103 = .ok (.bipush 6, 2) := by decide +kernel
theorem dX5_init_105 : decode cX5_init 105 = .ok (.iconst 1, 1) := by decide +kernel
theorem dX5_init_106 : decode cX5_init 106 = .ok (.iastore, 1) := by decide +kernel
theorem dX5_init_107 : decode cX5_init 107 = .ok (.aload_n 0, 1) := by decide +kernel
theorem dX5_init_108 : decode cX5_init 108 = .ok (.getfield 7, 3) := by decide +kernel
theorem dX5_init_111 : decode cX5_init 111 = .ok (.bipush 7, 2) := by decide +kernel
theorem dX5_init_113 : decode cX5_init 113 = .ok (.iconst 2, 1) := by decide +kernel
theorem dX5_init_114 : decode cX5_init 114 = .ok (.iastore, 1) := by decide +kernel
theorem dX5_init_115 : decode cX5_init 115 = .ok (.aload_n 0, 1) := by decide +kernel
theorem dX5_init_116 : decode cX5_init 116 = .ok (.getfield 7, 3) := by decide +kernel
theorem dX5_init_119 : decode cX5_init 119 = .ok (.bipush 18, 2) := by decide +kernel
theorem dX5_init_121 : decode cX5_init 121 = .ok (.bipush 20, 2) := by decide +kernel
theorem dX5_init_123 : decode cX5_init 123 = .ok (.iastore, 1) := by decide +kernel
theorem dX5_init_124 : decode cX5_init 124 = .ok (.return_, 1) := by decide +kernel
theorem dX5_in_0 : decode cX5_in 0 = .ok (.lload_n 0, 1) := by decide +kernel
theorem dX5_in_1 : decode cX5_in 1 = .ok (.lload_n 2, 1) := by decide +kernel
theorem dX5_in_2 : decode cX5_in 2 = .ok (.lcmp, 1) := by decide +kernel
theorem dX5_in_3 : decode cX5_in 3 = .ok (.ifCond .lt 14, 3) := by decide +kernel
theorem dX5_in_6 : decode cX5_in 6 = .ok (.lload_n 0, 1) := by decide +kernel
theorem dX5_in_7 : decode cX5_in 7 = .ok (.lload 4, 2) := by decide +kernel
theorem dX5_in_9 : decode cX5_in 9 = .ok (.lcmp, 1) := by decide +kernel
theorem dX5_in_10 : decode cX5_in 10 = .ok (.ifCond .gt 7, 3) := by decide +kernel
theorem dX5_in_13 : decode cX5_in 13 = .ok (.iconst 1, 1) := by decide +kernel
theorem dX5_in_14 : decode cX5_in 14 = .ok (.goto 4, 3) := by decide +kernel
theorem dX5_in_17 : decode cX5_in 17 = .ok (.iconst 0, 1) := by decide +kernel
theorem dX5_in_18 : decode cX5_in 18 = .ok (.ireturn, 1) := by decide +kernel
theorem dX5_keep_0 : decode cX5_keep 0 = .ok (.iconst 0, 1) := by decide +kernel
theorem dX5_keep_1 : decode cX5_keep 1 = .ok (.istore_n 1, 1) := by decide +kernel
theorem dX5_keep_2 : decode cX5_keep 2 = .ok (.iload_n 1, 1) := by decide +kernel
theorem dX5_keep_3 : decode cX5_keep 3 = .ok (.sipush 160, 3) := by decide +kernel
theorem dX5_keep_6 : decode cX5_keep 6 = .ok (.if_icmp .ge 21, 3) := by decide +kernel
theorem dX5_keep_9 : decode cX5_keep 9 = .ok (.aload_n 0, 1) := by decide +kernel
theorem dX5_keep_10 : decode cX5_keep 10 = .ok (.getfield 13, 3) := by decide +kernel
theorem dX5_keep_13 : decode cX5_keep 13 = .ok (.iload_n 1, 1) := by decide +kernel
theorem dX5_keep_14 : decode cX5_keep 14 = .ok (.aload_n 0, 1) := by decide +kernel
theorem dX5_keep_15 : decode cX5_keep 15 = .ok (.getfield 7, 3) := by decide +kernel
theorem dX5_keep_18 : decode cX5_keep 18 = .ok (.iload_n 1, 1) := by decide +kernel
theorem dX5_keep_19 : decode cX5_keep 19 = .ok (.iaload, 1) := by decide +kernel
theorem dX5_keep_20 : decode cX5_keep 20 = .ok (.iastore, 1) := by decide +kernel
theorem dX5_keep_21 : decode cX5_keep 21 = .ok (.iinc 1 1, 3) := by decide +kernel
theorem dX5_keep_24 : decode cX5_keep 24 = .ok (.goto (-22), 3) := by decide +kernel
theorem dX5_keep_27 : decode cX5_keep 27 = .ok (.return_, 1) := by decide +kernel
theorem dX5_giveBack_0 : decode cX5_giveBack 0 = .ok (.iconst 0, 1) := by decide +kernel
theorem dX5_giveBack_1 : decode cX5_giveBack 1 = .ok (.istore_n 1, 1) := by decide +kernel
theorem dX5_giveBack_2 : decode cX5_giveBack 2 = .ok (.iload_n 1, 1) := by decide +kernel
theorem dX5_giveBack_3 : decode cX5_giveBack 3 = .ok (.sipush 160, 3) := by decide +kernel
theorem dX5_giveBack_6 : decode cX5_giveBack 6 = .ok (.if_icmp .ge 21, 3) := by decide +kernel
theorem dX5_giveBack_9 : decode cX5_giveBack 9 = .ok (.aload_n 0, 1) := by decide +kernel
theorem dX5_giveBack_10 : decode cX5_giveBack 10 = .ok (.getfield 7, 3) := by decide +kernel
theorem dX5_giveBack_13 : decode cX5_giveBack 13 = .ok (.iload_n 1, 1) := by decide +kernel
theorem dX5_giveBack_14 : decode cX5_giveBack 14 = .ok (.aload_n 0, 1) := by decide +kernel
theorem dX5_giveBack_15 : decode cX5_giveBack 15 = .ok (.getfield 13, 3) := by decide +kernel
theorem dX5_giveBack_18 : decode cX5_giveBack 18 = .ok (.iload_n 1, 1) := by decide +kernel
theorem dX5_giveBack_19 : decode cX5_giveBack 19 = .ok (.iaload, 1) := by decide +kernel
theorem dX5_giveBack_20 : decode cX5_giveBack 20 = .ok (.iastore, 1) := by decide +kernel
theorem dX5_giveBack_21 : decode cX5_giveBack 21 = .ok (.iinc 1 1, 3) := by decide +kernel
theorem dX5_giveBack_24 : decode cX5_giveBack 24 = .ok (.goto (-22), 3) := by decide +kernel
theorem dX5_giveBack_27 : decode cX5_giveBack 27 = .ok (.return_, 1) := by decide +kernel
theorem dX5_changed_0 : decode cX5_changed 0 = .ok (.iload_n 1, 1) := by decide +kernel
theorem dX5_changed_1 : decode cX5_changed 1 = .ok (.ifCond .ge 5, 3) := by decide +kernel
theorem dX5_changed_4 : decode cX5_changed 4 = .ok (.iload_n 1, 1) := by decide +kernel
theorem dX5_changed_5 : decode cX5_changed 5 = .ok (.ireturn, 1) := by decide +kernel
theorem dX5_changed_6 : decode cX5_changed 6 = .ok (.aload_n 0, 1) := by decide +kernel
theorem dX5_changed_7 : decode cX5_changed 7 = .ok (.getfield 28, 3) := by decide +kernel
theorem dX5_changed_10 : decode cX5_changed 10 = .ok (.bipush 6, 2) := by decide +kernel
theorem dX5_changed_12 : decode cX5_changed 12 = .ok (.if_icmp .ne 44, 3) := by decide +kernel
theorem dX5_changed_15 : decode cX5_changed 15 = .ok (.iconst 0, 1) := by decide +kernel
theorem dX5_changed_16 : decode cX5_changed 16 = .ok (.istore_n 2, 1) := by decide +kernel
theorem dX5_changed_17 : decode cX5_changed 17 = .ok (.iload_n 2, 1) := by decide +kernel
theorem dX5_changed_18 : decode cX5_changed 18 = .ok (.sipush 800, 3) := by decide +kernel
theorem dX5_changed_21 : decode cX5_changed 21 = .ok (.if_icmp .ge 25, 3) := by decide +kernel
theorem dX5_changed_24 : decode cX5_changed 24 = .ok (.aload_n 0, 1) := by decide +kernel
theorem dX5_changed_25 : decode cX5_changed 25 = .ok (.getfield 16, 3) := by decide +kernel
theorem dX5_changed_28 : decode cX5_changed 28 = .ok (.iload_n 2, 1) := by decide +kernel
theorem dX5_changed_29 : decode cX5_changed 29 = .ok (.aload_n 0, 1) := by decide +kernel
theorem dX5_changed_30 : decode cX5_changed 30 = .ok (.getfield 16, 3) := by decide +kernel
theorem dX5_changed_33 : decode cX5_changed 33 = .ok (.iload_n 2, 1) := by decide +kernel
theorem dX5_changed_34 : decode cX5_changed 34 = .ok (.sipush 160, 3) := by decide +kernel
theorem dX5_changed_37 : decode cX5_changed 37 = .ok (.iadd, 1) := by decide +kernel
theorem dX5_changed_38 : decode cX5_changed 38 = .ok (.iaload, 1) := by decide +kernel
theorem dX5_changed_39 : decode cX5_changed 39 = .ok (.iastore, 1) := by decide +kernel
theorem dX5_changed_40 : decode cX5_changed 40 = .ok (.iinc 2 1, 3) := by decide +kernel
theorem dX5_changed_43 : decode cX5_changed 43 = .ok (.goto (-26), 3) := by decide +kernel
theorem dX5_changed_46 : decode cX5_changed 46 = .ok (.aload_n 0, 1) := by decide +kernel
theorem dX5_changed_47 : decode cX5_changed 47 = .ok (.dup, 1) := by decide +kernel
theorem dX5_changed_48 : decode cX5_changed 48 = .ok (.getfield 28, 3) := by decide +kernel
theorem dX5_changed_51 : decode cX5_changed 51 = .ok (.iconst 1, 1) := by decide +kernel
theorem dX5_changed_52 : decode cX5_changed 52 = .ok (.isub, 1) := by decide +kernel
theorem dX5_changed_53 : decode cX5_changed 53 = .ok (.putfield 28, 3) := by decide +kernel
theorem dX5_changed_56 : decode cX5_changed 56 = .ok (.iconst 0, 1) := by decide +kernel
theorem dX5_changed_57 : decode cX5_changed 57 = .ok (.istore_n 2, 1) := by decide +kernel
theorem dX5_changed_58 : decode cX5_changed 58 = .ok (.iload_n 2, 1) := by decide +kernel
theorem dX5_changed_59 : decode cX5_changed 59 = .ok (.sipush 160, 3) := by decide +kernel
theorem dX5_changed_62 : decode cX5_changed 62 = .ok (.if_icmp .ge 30, 3) := by decide +kernel
theorem dX5_changed_65 : decode cX5_changed 65 = .ok (.aload_n 0, 1) := by decide +kernel
theorem dX5_changed_66 : decode cX5_changed 66 = .ok (.getfield 16, 3) := by decide +kernel
theorem dX5_changed_69 : decode cX5_changed 69 = .ok (.sipush 160, 3) := by decide +kernel
theorem dX5_changed_72 : decode cX5_changed 72 = .ok (.aload_n 0, 1) := by decide +kernel
theorem dX5_changed_73 : decode cX5_changed 73 = .ok (.getfield 28, 3) := by decide +kernel
theorem dX5_changed_76 : decode cX5_changed 76 = .ok (.imul, 1) := by decide +kernel
theorem dX5_changed_77 : decode cX5_changed 77 = .ok (.iload_n 2, 1) := by decide +kernel
theorem dX5_changed_78 : decode cX5_changed 78 = .ok (.iadd, 1) := by decide +kernel
theorem dX5_changed_79 : decode cX5_changed 79 = .ok (.aload_n 0, 1) := by decide +kernel
theorem dX5_changed_80 : decode cX5_changed 80 = .ok (.getfield 13, 3) := by decide +kernel
theorem dX5_changed_83 : decode cX5_changed 83 = .ok (.iload_n 2, 1) := by decide +kernel
theorem dX5_changed_84 : decode cX5_changed 84 = .ok (.iaload, 1) := by decide +kernel
theorem dX5_changed_85 : decode cX5_changed 85 = .ok (.iastore, 1) := by decide +kernel
theorem dX5_changed_86 : decode cX5_changed 86 = .ok (.iinc 2 1, 3) := by decide +kernel
theorem dX5_changed_89 : decode cX5_changed 89 = .ok (.goto (-31), 3) := by decide +kernel
theorem dX5_changed_92 : decode cX5_changed 92 = .ok (.aload_n 0, 1) := by decide +kernel
theorem dX5_changed_93 : decode cX5_changed 93 = .ok (.dup, 1) := by decide +kernel
theorem dX5_changed_94 : decode cX5_changed 94 = .ok (.getfield 28, 3) := by decide +kernel
theorem dX5_changed_97 : decode cX5_changed 97 = .ok (.iconst 1, 1) := by decide +kernel
theorem dX5_changed_98 : decode cX5_changed 98 = .ok (.iadd, 1) := by decide +kernel
theorem dX5_changed_99 : decode cX5_changed 99 = .ok (.putfield 28, 3) := by decide +kernel
theorem dX5_changed_102 : decode cX5_changed 102 = .ok (.iload_n 1, 1) := by decide +kernel
theorem dX5_changed_103 : decode cX5_changed 103 = .ok (.ireturn, 1) := by decide +kernel
theorem dX5_get_0 : decode cX5_get 0 = .ok (.aload_n 0, 1) := by decide +kernel
theorem dX5_get_1 : decode cX5_get 1 = .ok (.getfield 7, 3) := by decide +kernel
theorem dX5_get_4 : decode cX5_get 4 = .ok (.bipush 27, 2) := by decide +kernel
theorem dX5_get_6 : decode cX5_get 6 = .ok (.bipush 6, 2) := by decide +kernel
theorem dX5_get_8 : decode cX5_get 8 = .ok (.iload_n 1, 1) := by decide +kernel
theorem dX5_get_9 : decode cX5_get 9 = .ok (.imul, 1) := by decide +kernel
theorem dX5_get_10 : decode cX5_get 10 = .ok (.iadd, 1) := by decide +kernel
theorem dX5_get_11 : decode cX5_get 11 = .ok (.iload_n 2, 1) := by decide +kernel
theorem dX5_get_12 : decode cX5_get 12 = .ok (.iadd, 1) := by decide +kernel
theorem dX5_get_13 : decode cX5_get 13 = .ok (.iaload, 1) := by decide +kernel
theorem dX5_get_14 : decode cX5_get 14 = .ok (.ireturn, 1) := by decide +kernel
theorem dX5_put_0 : decode cX5_put 0 = .ok (.aload_n 0, 1) := by decide +kernel
theorem dX5_put_1 : decode cX5_put 1 = .ok (.getfield 7, 3) := by decide +kernel
theorem dX5_put_4 : decode cX5_put 4 = .ok (.bipush 27, 2) := by decide +kernel
theorem dX5_put_6 : decode cX5_put 6 = .ok (.bipush 6, 2) := by decide +kernel
theorem dX5_put_8 : decode cX5_put 8 = .ok (.iload_n 1, 1) := by decide +kernel
theorem dX5_put_9 : decode cX5_put 9 = .ok (.imul, 1) := by decide +kernel
theorem dX5_put_10 : decode cX5_put 10 = .ok (.iadd, 1) := by decide +kernel
theorem dX5_put_11 : decode cX5_put 11 = .ok (.iload_n 2, 1) := by decide +kernel
theorem dX5_put_12 : decode cX5_put 12 = .ok (.iadd, 1) := by decide +kernel
theorem dX5_put_13 : decode cX5_put 13 = .ok (.iload_n 3, 1) := by decide +kernel
theorem dX5_put_14 : decode cX5_put 14 = .ok (.iastore, 1) := by decide +kernel
theorem dX5_put_15 : decode cX5_put 15 = .ok (.return_, 1) := by decide +kernel
set_option maxRecDepth 20000 in
theorem ggX5_back_X5_get : GoodIn wsX5_back wsX5_get := goodIn_r _ [5, 6, 7, 8, 9, 10, 11, 12, 13, 14, 15, 16, 17, 18] (by decide +kernel) (by decide +kernel)
set_option maxRecDepth 20000 in
theorem gX5_back_X5_get : GoodIn wsX5_back (wsV RX5 32 RX5 yX5_get wsX5_get) := goodIn_app (goodIn_of _ (by decide +kernel)) ggX5_back_X5_get
theorem dX5_back_0 : decode cX5_back 0 = .ok (.aload_n 0, 1) := by decide +kernel
theorem dX5_back_1 : decode cX5_back 1 = .ok (.iload_n 1, 1) := by decide +kernel
theorem dX5_back_2 : decode cX5_back 2 = .ok (.iconst 0, 1) := by decide +kernel
theorem dX5_back_3 : decode cX5_back 3 = .ok (.invokevirtual 32, 3) := by decide +kernel
theorem dX5_back_6 : decode cX5_back 6 = .ok (.aload_n 0, 1) := by decide +kernel
theorem dX5_back_7 : decode cX5_back 7 = .ok (.iload_n 1, 1) := by decide +kernel
theorem dX5_back_8 : decode cX5_back 8 = .ok (.iconst 1, 1) := by decide +kernel
theorem dX5_back_9 : decode cX5_back 9 = .ok (.invokevirtual 32, 3) := by decide +kernel
theorem dX5_back_12 : decode cX5_back 12 = .ok (.isub, 1) := by decide +kernel
theorem dX5_back_13 : decode cX5_back 13 = .ok (.ireturn, 1) := by decide +kernel
set_option maxRecDepth 20000 in
theorem ggX5_isBox_X5_in : GoodIn wsX5_isBox wsX5_in := goodIn_r _ [5] (by decide +kernel) (by decide +kernel)
set_option maxRecDepth 20000 in
theorem gX5_isBox_X5_in : GoodIn wsX5_isBox (va_wsS RX5 36 yX5_in wsX5_in) := goodIn_app (goodIn_of _ (by decide +kernel)) ggX5_isBox_X5_in
theorem dX5_isBox_0 : decode cX5_isBox 0 = .ok (.iload_n 1, 1) := by decide +kernel
theorem dX5_isBox_1 : decode cX5_isBox 1 = .ok (.i2l, 1) := by decide +kernel
theorem dX5_isBox_2 : decode cX5_isBox 2 = .ok (.lconst 0, 1) := by decide +kernel
theorem dX5_isBox_3 : decode cX5_isBox 3 = .ok (.aload_n 0, 1) := by decide +kernel
theorem dX5_isBox_4 : decode cX5_isBox 4 = .ok (.getfield 7, 3) := by decide +kernel
theorem dX5_isBox_7 : decode cX5_isBox 7 = .ok (.bipush 9, 2) := by decide +kernel
theorem dX5_isBox_9 : decode cX5_isBox 9 = .ok (.iaload, 1) := by decide +kernel
theorem dX5_isBox_10 : decode cX5_isBox 10 = .ok (.i2l, 1) := by decide +kernel
theorem dX5_isBox_11 : decode cX5_isBox 11 = .ok (.lconst 1, 1) := by decide +kernel
theorem dX5_isBox_12 : decode cX5_isBox 12 = .ok (.lsub, 1) := by decide +kernel
theorem dX5_isBox_13 : decode cX5_isBox 13 = .ok (.invokestatic 36, 3) := by decide +kernel
theorem dX5_isBox_16 : decode cX5_isBox 16 = .ok (.ireturn, 1) := by decide +kernel
set_option maxRecDepth 20000 in
theorem ggX5_isLength_X5_in : GoodIn wsX5_isLength wsX5_in := goodIn_r _ [6] (by decide +kernel) (by decide +kernel)
set_option maxRecDepth 20000 in
theorem gX5_isLength_X5_in : GoodIn wsX5_isLength (va_wsS RX5 36 yX5_in wsX5_in) := goodIn_app (goodIn_of _ (by decide +kernel)) ggX5_isLength_X5_in
theorem dX5_isLength_0 : decode cX5_isLength 0 = .ok (.iload_n 0, 1) := by decide +kernel
theorem dX5_isLength_1 : decode cX5_isLength 1 = .ok (.i2l, 1) := by decide +kernel
theorem dX5_isLength_2 : decode cX5_isLength 2 = .ok (.ldc2_w 40, 3) := by decide +kernel
theorem dX5_isLength_5 : decode cX5_isLength 5 = .ok (.ldc2_w 42, 3) := by decide +kernel
theorem dX5_isLength_8 : decode cX5_isLength 8 = .ok (.invokestatic 36, 3) := by decide +kernel
theorem dX5_isLength_11 : decode cX5_isLength 11 = .ok (.ireturn, 1) := by decide +kernel
theorem dX5_takesOut_0 : decode cX5_takesOut 0 = .ok (.iload_n 2, 1) := by decide +kernel
theorem dX5_takesOut_1 : decode cX5_takesOut 1 = .ok (.iload 4, 2) := by decide +kernel
theorem dX5_takesOut_3 : decode cX5_takesOut 3 = .ok (.imul, 1) := by decide +kernel
theorem dX5_takesOut_4 : decode cX5_takesOut 4 = .ok (.istore 5, 2) := by decide +kernel
theorem dX5_takesOut_6 : decode cX5_takesOut 6 = .ok (.iload 5, 2) := by decide +kernel
theorem dX5_takesOut_8 : decode cX5_takesOut 8 = .ok (.iload_n 2, 1) := by decide +kernel
theorem dX5_takesOut_9 : decode cX5_takesOut 9 = .ok (.iload_n 3, 1) := by decide +kernel
theorem dX5_takesOut_10 : decode cX5_takesOut 10 = .ok (.iconst 1, 1) := by decide +kernel
theorem dX5_takesOut_11 : decode cX5_takesOut 11 = .ok (.isub, 1) := by decide +kernel
theorem dX5_takesOut_12 : decode cX5_takesOut 12 = .ok (.imul, 1) := by decide +kernel
theorem dX5_takesOut_13 : decode cX5_takesOut 13 = .ok (.if_icmp .ge 29, 3) := by decide +kernel
theorem dX5_takesOut_16 : decode cX5_takesOut 16 = .ok (.aload_n 0, 1) := by decide +kernel
theorem dX5_takesOut_17 : decode cX5_takesOut 17 = .ok (.getfield 7, 3) := by decide +kernel
theorem dX5_takesOut_20 : decode cX5_takesOut 20 = .ok (.iload_n 1, 1) := by decide +kernel
theorem dX5_takesOut_21 : decode cX5_takesOut 21 = .ok (.iload 5, 2) := by decide +kernel
theorem dX5_takesOut_23 : decode cX5_takesOut 23 = .ok (.iadd, 1) := by decide +kernel
theorem dX5_takesOut_24 : decode cX5_takesOut 24 = .ok (.aload_n 0, 1) := by decide +kernel
theorem dX5_takesOut_25 : decode cX5_takesOut 25 = .ok (.getfield 7, 3) := by decide +kernel
theorem dX5_takesOut_28 : decode cX5_takesOut 28 = .ok (.iload_n 1, 1) := by decide +kernel
theorem dX5_takesOut_29 : decode cX5_takesOut 29 = .ok (.iload 5, 2) := by decide +kernel
theorem dX5_takesOut_31 : decode cX5_takesOut 31 = .ok (.iadd, 1) := by decide +kernel
theorem dX5_takesOut_32 : decode cX5_takesOut 32 = .ok (.iload_n 2, 1) := by decide +kernel
theorem dX5_takesOut_33 : decode cX5_takesOut 33 = .ok (.iadd, 1) := by decide +kernel
theorem dX5_takesOut_34 : decode cX5_takesOut 34 = .ok (.iaload, 1) := by decide +kernel
theorem dX5_takesOut_35 : decode cX5_takesOut 35 = .ok (.iastore, 1) := by decide +kernel
theorem dX5_takesOut_36 : decode cX5_takesOut 36 = .ok (.iinc 5 1, 3) := by decide +kernel
theorem dX5_takesOut_39 : decode cX5_takesOut 39 = .ok (.goto (-33), 3) := by decide +kernel
theorem dX5_takesOut_42 : decode cX5_takesOut 42 = .ok (.return_, 1) := by decide +kernel
set_option maxRecDepth 20000 in
theorem ggX5_moves_X5_get : GoodIn wsX5_moves wsX5_get := goodIn_r _ [6, 1, 11, 12, 13, 14, 15, 16, 17, 18, 19, 20, 21, 22] (by decide +kernel) (by decide +kernel)
set_option maxRecDepth 20000 in
theorem gX5_moves_X5_get : GoodIn wsX5_moves (wsV RX5 32 RX5 yX5_get wsX5_get) := goodIn_app (goodIn_of _ (by decide +kernel)) ggX5_moves_X5_get
set_option maxRecDepth 20000 in
theorem ggX5_moves_X5_put : GoodIn wsX5_moves wsX5_put := goodIn_r _ [10, 1, 11, 12, 13, 14, 15, 16, 17, 18, 19, 20, 21, 22] (by decide +kernel) (by decide +kernel)
set_option maxRecDepth 20000 in
theorem gX5_moves_X5_put : GoodIn wsX5_moves (wsV RX5 44 RX5 yX5_put wsX5_put) := goodIn_app (goodIn_of _ (by decide +kernel)) ggX5_moves_X5_put
theorem dX5_moves_0 : decode cX5_moves 0 = .ok (.iconst 0, 1) := by decide +kernel
theorem dX5_moves_1 : decode cX5_moves 1 = .ok (.istore_n 1, 1) := by decide +kernel
theorem dX5_moves_2 : decode cX5_moves 2 = .ok (.iload_n 1, 1) := by decide +kernel
theorem dX5_moves_3 : decode cX5_moves 3 = .ok (.aload_n 0, 1) := by decide +kernel
theorem dX5_moves_4 : decode cX5_moves 4 = .ok (.getfield 7, 3) := by decide +kernel
theorem dX5_moves_7 : decode cX5_moves 7 = .ok (.bipush 9, 2) := by decide +kernel
theorem dX5_moves_9 : decode cX5_moves 9 = .ok (.iaload, 1) := by decide +kernel
theorem dX5_moves_10 : decode cX5_moves 10 = .ok (.if_icmp .ge 28, 3) := by decide +kernel
theorem dX5_moves_13 : decode cX5_moves 13 = .ok (.aload_n 0, 1) := by decide +kernel
theorem dX5_moves_14 : decode cX5_moves 14 = .ok (.iload_n 1, 1) := by decide +kernel
theorem dX5_moves_15 : decode cX5_moves 15 = .ok (.iconst 0, 1) := by decide +kernel
theorem dX5_moves_16 : decode cX5_moves 16 = .ok (.aload_n 0, 1) := by decide +kernel
theorem dX5_moves_17 : decode cX5_moves 17 = .ok (.iload_n 1, 1) := by decide +kernel
theorem dX5_moves_18 : decode cX5_moves 18 = .ok (.iconst 0, 1) := by decide +kernel
theorem dX5_moves_19 : decode cX5_moves 19 = .ok (.invokevirtual 32, 3) := by decide +kernel
theorem dX5_moves_22 : decode cX5_moves 22 = .ok (.aload_n 0, 1) := by decide +kernel
theorem dX5_moves_23 : decode cX5_moves 23 = .ok (.getfield 7, 3) := by decide +kernel
theorem dX5_moves_26 : decode cX5_moves 26 = .ok (.iconst 0, 1) := by decide +kernel
theorem dX5_moves_27 : decode cX5_moves 27 = .ok (.iaload, 1) := by decide +kernel
theorem dX5_moves_28 : decode cX5_moves 28 = .ok (.iadd, 1) := by decide +kernel
theorem dX5_moves_29 : decode cX5_moves 29 = .ok (.invokevirtual 44, 3) := by decide +kernel
theorem dX5_moves_32 : decode cX5_moves 32 = .ok (.iinc 1 1, 3) := by decide +kernel
theorem dX5_moves_35 : decode cX5_moves 35 = .ok (.goto (-33), 3) := by decide +kernel
theorem dX5_moves_38 : decode cX5_moves 38 = .ok (.iconst 4, 1) := by decide +kernel
theorem dX5_moves_39 : decode cX5_moves 39 = .ok (.istore_n 1, 1) := by decide +kernel
theorem dX5_moves_40 : decode cX5_moves 40 = .ok (.iload_n 1, 1) := by decide +kernel
theorem dX5_moves_41 : decode cX5_moves 41 = .ok (.ifCond .le 29, 3) := by decide +kernel
theorem dX5_moves_44 : decode cX5_moves 44 = .ok (.aload_n 0, 1) := by decide +kernel
theorem dX5_moves_45 : decode cX5_moves 45 = .ok (.getfield 7, 3) := by decide +kernel
theorem dX5_moves_48 : decode cX5_moves 48 = .ok (.bipush 22, 2) := by decide +kernel
theorem dX5_moves_50 : decode cX5_moves 50 = .ok (.iload_n 1, 1) := by decide +kernel
theorem dX5_moves_51 : decode cX5_moves 51 = .ok (.iadd, 1) := by decide +kernel
theorem dX5_moves_52 : decode cX5_moves 52 = .ok (.aload_n 0, 1) := by decide +kernel
theorem dX5_moves_53 : decode cX5_moves 53 = .ok (.getfield 7, 3) := by decide +kernel
theorem dX5_moves_56 : decode cX5_moves 56 = .ok (.bipush 22, 2) := by decide +kernel
theorem dX5_moves_58 : decode cX5_moves 58 = .ok (.iload_n 1, 1) := by decide +kernel
theorem dX5_moves_59 : decode cX5_moves 59 = .ok (.iadd, 1) := by decide +kernel
theorem dX5_moves_60 : decode cX5_moves 60 = .ok (.iconst 1, 1) := by decide +kernel
theorem dX5_moves_61 : decode cX5_moves 61 = .ok (.isub, 1) := by decide +kernel
theorem dX5_moves_62 : decode cX5_moves 62 = .ok (.iaload, 1) := by decide +kernel
theorem dX5_moves_63 : decode cX5_moves 63 = .ok (.iastore, 1) := by decide +kernel
theorem dX5_moves_64 : decode cX5_moves 64 = .ok (.iinc 1 (-1), 3) := by decide +kernel
theorem dX5_moves_67 : decode cX5_moves 67 = .ok (.goto (-27), 3) := by decide +kernel
theorem dX5_moves_70 : decode cX5_moves 70 = .ok (.aload_n 0, 1) := by decide +kernel
theorem dX5_moves_71 : decode cX5_moves 71 = .ok (.getfield 7, 3) := by decide +kernel
theorem dX5_moves_74 : decode cX5_moves 74 = .ok (.bipush 22, 2) := by decide +kernel
theorem dX5_moves_76 : decode cX5_moves 76 = .ok (.aload_n 0, 1) := by decide +kernel
theorem dX5_moves_77 : decode cX5_moves 77 = .ok (.getfield 7, 3) := by decide +kernel
theorem dX5_moves_80 : decode cX5_moves 80 = .ok (.iconst 0, 1) := by decide +kernel
theorem dX5_moves_81 : decode cX5_moves 81 = .ok (.iaload, 1) := by decide +kernel
theorem dX5_moves_82 : decode cX5_moves 82 = .ok (.iastore, 1) := by decide +kernel
theorem dX5_moves_83 : decode cX5_moves 83 = .ok (.aload_n 0, 1) := by decide +kernel
theorem dX5_moves_84 : decode cX5_moves 84 = .ok (.getfield 7, 3) := by decide +kernel
theorem dX5_moves_87 : decode cX5_moves 87 = .ok (.bipush 21, 2) := by decide +kernel
theorem dX5_moves_89 : decode cX5_moves 89 = .ok (.dup2, 1) := by decide +kernel
theorem dX5_moves_90 : decode cX5_moves 90 = .ok (.iaload, 1) := by decide +kernel
theorem dX5_moves_91 : decode cX5_moves 91 = .ok (.aload_n 0, 1) := by decide +kernel
theorem dX5_moves_92 : decode cX5_moves 92 = .ok (.getfield 7, 3) := by decide +kernel
theorem dX5_moves_95 : decode cX5_moves 95 = .ok (.iconst 0, 1) := by decide +kernel
theorem dX5_moves_96 : decode cX5_moves 96 = .ok (.iaload, 1) := by decide +kernel
theorem dX5_moves_97 : decode cX5_moves 97 = .ok (.iadd, 1) := by decide +kernel
theorem dX5_moves_98 : decode cX5_moves 98 = .ok (.iastore, 1) := by decide +kernel
theorem dX5_moves_99 : decode cX5_moves 99 = .ok (.return_, 1) := by decide +kernel
set_option maxRecDepth 20000 in
theorem ggX5_sees_X5_get : GoodIn wsX5_sees wsX5_get := goodIn_r _ [6, 1, 11, 12, 13, 14, 15, 16, 17, 18, 19, 20, 21, 22] (by decide +kernel) (by decide +kernel)
set_option maxRecDepth 20000 in
theorem gX5_sees_X5_get : GoodIn wsX5_sees (wsV RX5 32 RX5 yX5_get wsX5_get) := goodIn_app (goodIn_of _ (by decide +kernel)) ggX5_sees_X5_get
set_option maxRecDepth 20000 in
theorem ggX5_sees_X5_put : GoodIn wsX5_sees wsX5_put := goodIn_r _ [10, 1, 11, 12, 13, 14, 15, 16, 17, 18, 19, 20, 21, 22] (by decide +kernel) (by decide +kernel)
set_option maxRecDepth 20000 in
theorem gX5_sees_X5_put : GoodIn wsX5_sees (wsV RX5 44 RX5 yX5_put wsX5_put) := goodIn_app (goodIn_of _ (by decide +kernel)) ggX5_sees_X5_put
theorem dX5_sees_0 : decode cX5_sees 0 = .ok (.iconst 0, 1) := by decide +kernel
theorem dX5_sees_1 : decode cX5_sees 1 = .ok (.istore_n 1, 1) := by decide +kernel
theorem dX5_sees_2 : decode cX5_sees 2 = .ok (.iload_n 1, 1) := by decide +kernel
theorem dX5_sees_3 : decode cX5_sees 3 = .ok (.aload_n 0, 1) := by decide +kernel
theorem dX5_sees_4 : decode cX5_sees 4 = .ok (.getfield 7, 3) := by decide +kernel
theorem dX5_sees_7 : decode cX5_sees 7 = .ok (.bipush 9, 2) := by decide +kernel
theorem dX5_sees_9 : decode cX5_sees 9 = .ok (.iaload, 1) := by decide +kernel
theorem dX5_sees_10 : decode cX5_sees 10 = .ok (.if_icmp .ge 106, 3) := by decide +kernel
theorem dX5_sees_13 : decode cX5_sees 13 = .ok (.aload_n 0, 1) := by decide +kernel
theorem dX5_sees_14 : decode cX5_sees 14 = .ok (.iload_n 1, 1) := by decide +kernel
theorem dX5_sees_15 : decode cX5_sees 15 = .ok (.iconst 2, 1) := by decide +kernel
theorem dX5_sees_16 : decode cX5_sees 16 = .ok (.invokevirtual 32, 3) := by decide +kernel
theorem dX5_sees_19 : decode cX5_sees 19 = .ok (.ifCond .ne 91, 3) := by decide +kernel
theorem dX5_sees_22 : decode cX5_sees 22 = .ok (.aload_n 0, 1) := by decide +kernel
theorem dX5_sees_23 : decode cX5_sees 23 = .ok (.iload_n 1, 1) := by decide +kernel
theorem dX5_sees_24 : decode cX5_sees 24 = .ok (.iconst 0, 1) := by decide +kernel
theorem dX5_sees_25 : decode cX5_sees 25 = .ok (.invokevirtual 32, 3) := by decide +kernel
theorem dX5_sees_28 : decode cX5_sees 28 = .ok (.bipush 20, 2) := by decide +kernel
theorem dX5_sees_30 : decode cX5_sees 30 = .ok (.if_icmp .lt 80, 3) := by decide +kernel
theorem dX5_sees_33 : decode cX5_sees 33 = .ok (.aload_n 0, 1) := by decide +kernel
theorem dX5_sees_34 : decode cX5_sees 34 = .ok (.iload_n 1, 1) := by decide +kernel
theorem dX5_sees_35 : decode cX5_sees 35 = .ok (.iconst 2, 1) := by decide +kernel
theorem dX5_sees_36 : decode cX5_sees 36 = .ok (.iconst 1, 1) := by decide +kernel
theorem dX5_sees_37 : decode cX5_sees 37 = .ok (.invokevirtual 44, 3) := by decide +kernel
theorem dX5_sees_40 : decode cX5_sees 40 = .ok (.aload_n 0, 1) := by decide +kernel
theorem dX5_sees_41 : decode cX5_sees 41 = .ok (.getfield 7, 3) := by decide +kernel
theorem dX5_sees_44 : decode cX5_sees 44 = .ok (.bipush 75, 2) := by decide +kernel
theorem dX5_sees_46 : decode cX5_sees 46 = .ok (.iconst 2, 1) := by decide +kernel
theorem dX5_sees_47 : decode cX5_sees 47 = .ok (.aload_n 0, 1) := by decide +kernel
theorem dX5_sees_48 : decode cX5_sees 48 = .ok (.getfield 7, 3) := by decide +kernel
theorem dX5_sees_51 : decode cX5_sees 51 = .ok (.bipush 19, 2) := by decide +kernel
theorem dX5_sees_53 : decode cX5_sees 53 = .ok (.iaload, 1) := by decide +kernel
theorem dX5_sees_54 : decode cX5_sees 54 = .ok (.imul, 1) := by decide +kernel
theorem dX5_sees_55 : decode cX5_sees 55 = .ok (.iadd, 1) := by decide +kernel
theorem dX5_sees_56 : decode cX5_sees 56 = .ok (.aload_n 0, 1) := by decide +kernel
theorem dX5_sees_57 : decode cX5_sees 57 = .ok (.getfield 7, 3) := by decide +kernel
theorem dX5_sees_60 : decode cX5_sees 60 = .ok (.bipush 8, 2) := by decide +kernel
theorem dX5_sees_62 : decode cX5_sees 62 = .ok (.iaload, 1) := by decide +kernel
theorem dX5_sees_63 : decode cX5_sees 63 = .ok (.aload_n 0, 1) := by decide +kernel
theorem dX5_sees_64 : decode cX5_sees 64 = .ok (.getfield 7, 3) := by decide +kernel
theorem dX5_sees_67 : decode cX5_sees 67 = .ok (.iconst 1, 1) := by decide +kernel
theorem dX5_sees_68 : decode cX5_sees 68 = .ok (.iaload, 1) := by decide +kernel
theorem dX5_sees_69 : decode cX5_sees 69 = .ok (.iadd, 1) := by decide +kernel
theorem dX5_sees_70 : decode cX5_sees 70 = .ok (.iastore, 1) := by decide +kernel
theorem dX5_sees_71 : decode cX5_sees 71 = .ok (.aload_n 0, 1) := by decide +kernel
theorem dX5_sees_72 : decode cX5_sees 72 = .ok (.getfield 7, 3) := by decide +kernel
theorem dX5_sees_75 : decode cX5_sees 75 = .ok (.bipush 75, 2) := by decide +kernel
theorem dX5_sees_77 : decode cX5_sees 77 = .ok (.iconst 2, 1) := by decide +kernel
theorem dX5_sees_78 : decode cX5_sees 78 = .ok (.aload_n 0, 1) := by decide +kernel
theorem dX5_sees_79 : decode cX5_sees 79 = .ok (.getfield 7, 3) := by decide +kernel
theorem dX5_sees_82 : decode cX5_sees 82 = .ok (.bipush 19, 2) := by decide +kernel
theorem dX5_sees_84 : decode cX5_sees 84 = .ok (.iaload, 1) := by decide +kernel
theorem dX5_sees_85 : decode cX5_sees 85 = .ok (.imul, 1) := by decide +kernel
theorem dX5_sees_86 : decode cX5_sees 86 = .ok (.iadd, 1) := by decide +kernel
theorem dX5_sees_87 : decode cX5_sees 87 = .ok (.iconst 1, 1) := by decide +kernel
theorem dX5_sees_88 : decode cX5_sees 88 = .ok (.iadd, 1) := by decide +kernel
theorem dX5_sees_89 : decode cX5_sees 89 = .ok (.aload_n 0, 1) := by decide +kernel
theorem dX5_sees_90 : decode cX5_sees 90 = .ok (.iload_n 1, 1) := by decide +kernel
theorem dX5_sees_91 : decode cX5_sees 91 = .ok (.iconst 0, 1) := by decide +kernel
theorem dX5_sees_92 : decode cX5_sees 92 = .ok (.invokevirtual 32, 3) := by decide +kernel
theorem dX5_sees_95 : decode cX5_sees 95 = .ok (.bipush 20, 2) := by decide +kernel
theorem dX5_sees_97 : decode cX5_sees 97 = .ok (.isub, 1) := by decide +kernel
theorem dX5_sees_98 : decode cX5_sees 98 = .ok (.iastore, 1) := by decide +kernel
theorem dX5_sees_99 : decode cX5_sees 99 = .ok (.aload_n 0, 1) := by decide +kernel
theorem dX5_sees_100 : decode cX5_sees 100 = .ok (.getfield 7, 3) := by decide +kernel
theorem dX5_sees_103 : decode cX5_sees 103 = .ok (.bipush 19, 2) := by decide +kernel
theorem dX5_sees_105 : decode cX5_sees 105 = .ok (.dup2, 1) := by decide +kernel
theorem dX5_sees_106 : decode cX5_sees 106 = .ok (.iaload, 1) := by decide +kernel
theorem dX5_sees_107 : decode cX5_sees 107 = .ok (.iconst 1, 1) := by decide +kernel
theorem dX5_sees_108 : decode cX5_sees 108 = .ok (.iadd, 1) := by decide +kernel
theorem dX5_sees_109 : decode cX5_sees 109 = .ok (.iastore, 1) := by decide +kernel
theorem dX5_sees_110 : decode cX5_sees 110 = .ok (.iinc 1 1, 3) := by decide +kernel
theorem dX5_sees_113 : decode cX5_sees 113 = .ok (.goto (-111), 3) := by decide +kernel
theorem dX5_sees_116 : decode cX5_sees 116 = .ok (.return_, 1) := by decide +kernel
theorem dX5_guessedWay_0 : decode cX5_guessedWay 0 = .ok (.iconst 0, 1) := by decide +kernel
theorem dX5_guessedWay_1 : decode cX5_guessedWay 1 = .ok (.istore_n 1, 1) := by decide +kernel
theorem dX5_guessedWay_2 : decode cX5_guessedWay 2 = .ok (.iconst 0, 1) := by decide +kernel
theorem dX5_guessedWay_3 : decode cX5_guessedWay 3 = .ok (.istore_n 2, 1) := by decide +kernel
theorem dX5_guessedWay_4 : decode cX5_guessedWay 4 = .ok (.iload_n 2, 1) := by decide +kernel
theorem dX5_guessedWay_5 : decode cX5_guessedWay 5 = .ok (.aload_n 0, 1) := by decide +kernel
theorem dX5_guessedWay_6 : decode cX5_guessedWay 6 = .ok (.getfield 7, 3) := by decide +kernel
theorem dX5_guessedWay_9 : decode cX5_guessedWay 9 = .ok (.iconst 2, 1) := by decide +kernel
theorem dX5_guessedWay_10 : decode cX5_guessedWay 10 = .ok (.iaload, 1) := by decide +kernel
theorem dX5_guessedWay_11 : decode cX5_guessedWay 11 = .ok (.if_icmp .ge 21, 3) := by decide +kernel
theorem dX5_guessedWay_14 : decode cX5_guessedWay 14 = .ok (.iload_n 1, 1) := by decide +kernel
theorem dX5_guessedWay_15 : decode cX5_guessedWay 15 = .ok (.aload_n 0, 1) := by decide +kernel
theorem dX5_guessedWay_16 : decode cX5_guessedWay 16 = .ok (.getfield 7, 3) := by decide +kernel
theorem dX5_guessedWay_19 : decode cX5_guessedWay 19 = .ok (.bipush 22, 2) := by decide +kernel
theorem dX5_guessedWay_21 : decode cX5_guessedWay 21 = .ok (.iload_n 2, 1) := by decide +kernel
theorem dX5_guessedWay_22 : decode cX5_guessedWay 22 = .ok (.iadd, 1) := by decide +kernel
theorem dX5_guessedWay_23 : decode cX5_guessedWay 23 = .ok (.iaload, 1) := by decide +kernel
theorem dX5_guessedWay_24 : decode cX5_guessedWay 24 = .ok (.iadd, 1) := by decide +kernel
theorem dX5_guessedWay_25 : decode cX5_guessedWay 25 = .ok (.istore_n 1, 1) := by decide +kernel
theorem dX5_guessedWay_26 : decode cX5_guessedWay 26 = .ok (.iinc 2 1, 3) := by decide +kernel
theorem dX5_guessedWay_29 : decode cX5_guessedWay 29 = .ok (.goto (-25), 3) := by decide +kernel
theorem dX5_guessedWay_32 : decode cX5_guessedWay 32 = .ok (.iload_n 1, 1) := by decide +kernel
theorem dX5_guessedWay_33 : decode cX5_guessedWay 33 = .ok (.ireturn, 1) := by decide +kernel
set_option maxRecDepth 20000 in
theorem ggX5_plans_X5_guessedWay : GoodIn wsX5_plans wsX5_guessedWay := goodIn_r _ [6, 1, 11, 12, 13, 14, 15, 16, 17, 18, 19, 20, 21, 22] (by decide +kernel) (by decide +kernel)
set_option maxRecDepth 20000 in
theorem gX5_plans_X5_guessedWay : GoodIn wsX5_plans (wsV RX5 48 RX5 yX5_guessedWay wsX5_guessedWay) := goodIn_app (goodIn_of _ (by decide +kernel)) ggX5_plans_X5_guessedWay
set_option maxRecDepth 20000 in
theorem ggX5_plans_X5_takesOut : GoodIn wsX5_plans wsX5_takesOut := goodIn_r _ [10, 1, 11, 12, 13, 14, 15, 16, 17, 18, 19, 20, 21, 22] (by decide +kernel) (by decide +kernel)
set_option maxRecDepth 20000 in
theorem gX5_plans_X5_takesOut : GoodIn wsX5_plans (wsV RX5 52 RX5 yX5_takesOut wsX5_takesOut) := goodIn_app (goodIn_of _ (by decide +kernel)) ggX5_plans_X5_takesOut
theorem dX5_plans_0 : decode cX5_plans 0 = .ok (.iconst 0, 1) := by decide +kernel
theorem dX5_plans_1 : decode cX5_plans 1 = .ok (.istore_n 1, 1) := by decide +kernel
theorem dX5_plans_2 : decode cX5_plans 2 = .ok (.iload_n 1, 1) := by decide +kernel
theorem dX5_plans_3 : decode cX5_plans 3 = .ok (.aload_n 0, 1) := by decide +kernel
theorem dX5_plans_4 : decode cX5_plans 4 = .ok (.getfield 7, 3) := by decide +kernel
theorem dX5_plans_7 : decode cX5_plans 7 = .ok (.bipush 20, 2) := by decide +kernel
theorem dX5_plans_9 : decode cX5_plans 9 = .ok (.iaload, 1) := by decide +kernel
theorem dX5_plans_10 : decode cX5_plans 10 = .ok (.if_icmp .ge 28, 3) := by decide +kernel
theorem dX5_plans_13 : decode cX5_plans 13 = .ok (.aload_n 0, 1) := by decide +kernel
theorem dX5_plans_14 : decode cX5_plans 14 = .ok (.getfield 7, 3) := by decide +kernel
theorem dX5_plans_17 : decode cX5_plans 17 = .ok (.sipush 131, 3) := by decide +kernel
theorem dX5_plans_20 : decode cX5_plans 20 = .ok (.iload_n 1, 1) := by decide +kernel
theorem dX5_plans_21 : decode cX5_plans 21 = .ok (.iadd, 1) := by decide +kernel
theorem dX5_plans_22 : decode cX5_plans 22 = .ok (.dup2, 1) := by decide +kernel
theorem dX5_plans_23 : decode cX5_plans 23 = .ok (.iaload, 1) := by decide +kernel
theorem dX5_plans_24 : decode cX5_plans 24 = .ok (.aload_n 0, 1) := by decide +kernel
theorem dX5_plans_25 : decode cX5_plans 25 = .ok (.getfield 7, 3) := by decide +kernel
theorem dX5_plans_28 : decode cX5_plans 28 = .ok (.iconst 0, 1) := by decide +kernel
theorem dX5_plans_29 : decode cX5_plans 29 = .ok (.iaload, 1) := by decide +kernel
theorem dX5_plans_30 : decode cX5_plans 30 = .ok (.isub, 1) := by decide +kernel
theorem dX5_plans_31 : decode cX5_plans 31 = .ok (.iastore, 1) := by decide +kernel
theorem dX5_plans_32 : decode cX5_plans 32 = .ok (.iinc 1 1, 3) := by decide +kernel
theorem dX5_plans_35 : decode cX5_plans 35 = .ok (.goto (-33), 3) := by decide +kernel
theorem dX5_plans_38 : decode cX5_plans 38 = .ok (.iconst 0, 1) := by decide +kernel
theorem dX5_plans_39 : decode cX5_plans 39 = .ok (.istore_n 1, 1) := by decide +kernel
theorem dX5_plans_40 : decode cX5_plans 40 = .ok (.iload_n 1, 1) := by decide +kernel
theorem dX5_plans_41 : decode cX5_plans 41 = .ok (.aload_n 0, 1) := by decide +kernel
theorem dX5_plans_42 : decode cX5_plans 42 = .ok (.getfield 7, 3) := by decide +kernel
theorem dX5_plans_45 : decode cX5_plans 45 = .ok (.bipush 19, 2) := by decide +kernel
theorem dX5_plans_47 : decode cX5_plans 47 = .ok (.iaload, 1) := by decide +kernel
theorem dX5_plans_48 : decode cX5_plans 48 = .ok (.if_icmp .ge 114, 3) := by decide +kernel
theorem dX5_plans_51 : decode cX5_plans 51 = .ok (.aload_n 0, 1) := by decide +kernel
theorem dX5_plans_52 : decode cX5_plans 52 = .ok (.getfield 7, 3) := by decide +kernel
theorem dX5_plans_55 : decode cX5_plans 55 = .ok (.bipush 75, 2) := by decide +kernel
theorem dX5_plans_57 : decode cX5_plans 57 = .ok (.iconst 2, 1) := by decide +kernel
theorem dX5_plans_58 : decode cX5_plans 58 = .ok (.iload_n 1, 1) := by decide +kernel
theorem dX5_plans_59 : decode cX5_plans 59 = .ok (.imul, 1) := by decide +kernel
theorem dX5_plans_60 : decode cX5_plans 60 = .ok (.iadd, 1) := by decide +kernel
theorem dX5_plans_61 : decode cX5_plans 61 = .ok (.iaload, 1) := by decide +kernel
theorem dX5_plans_62 : decode cX5_plans 62 = .ok (.aload_n 0, 1) := by decide +kernel
theorem dX5_plans_63 : decode cX5_plans 63 = .ok (.getfield 7, 3) := by decide +kernel
theorem dX5_plans_66 : decode cX5_plans 66 = .ok (.bipush 8, 2) := by decide +kernel
theorem dX5_plans_68 : decode cX5_plans 68 = .ok (.iaload, 1) := by decide +kernel
theorem dX5_plans_69 : decode cX5_plans 69 = .ok (.if_icmp .gt 87, 3) := by decide +kernel
theorem dX5_plans_72 : decode cX5_plans 72 = .ok (.aload_n 0, 1) := by decide +kernel
theorem dX5_plans_73 : decode cX5_plans 73 = .ok (.getfield 7, 3) := by decide +kernel
theorem dX5_plans_76 : decode cX5_plans 76 = .ok (.sipush 131, 3) := by decide +kernel
theorem dX5_plans_79 : decode cX5_plans 79 = .ok (.aload_n 0, 1) := by decide +kernel
theorem dX5_plans_80 : decode cX5_plans 80 = .ok (.getfield 7, 3) := by decide +kernel
theorem dX5_plans_83 : decode cX5_plans 83 = .ok (.bipush 20, 2) := by decide +kernel
theorem dX5_plans_85 : decode cX5_plans 85 = .ok (.iaload, 1) := by decide +kernel
theorem dX5_plans_86 : decode cX5_plans 86 = .ok (.iadd, 1) := by decide +kernel
theorem dX5_plans_87 : decode cX5_plans 87 = .ok (.bipush 40, 2) := by decide +kernel
theorem dX5_plans_89 : decode cX5_plans 89 = .ok (.aload_n 0, 1) := by decide +kernel
theorem dX5_plans_90 : decode cX5_plans 90 = .ok (.getfield 7, 3) := by decide +kernel
theorem dX5_plans_93 : decode cX5_plans 93 = .ok (.iconst 3, 1) := by decide +kernel
theorem dX5_plans_94 : decode cX5_plans 94 = .ok (.iaload, 1) := by decide +kernel
theorem dX5_plans_95 : decode cX5_plans 95 = .ok (.iadd, 1) := by decide +kernel
theorem dX5_plans_96 : decode cX5_plans 96 = .ok (.aload_n 0, 1) := by decide +kernel
theorem dX5_plans_97 : decode cX5_plans 97 = .ok (.getfield 7, 3) := by decide +kernel
theorem dX5_plans_100 : decode cX5_plans 100 = .ok (.bipush 75, 2) := by decide +kernel
theorem dX5_plans_102 : decode cX5_plans 102 = .ok (.iconst 2, 1) := by decide +kernel
theorem dX5_plans_103 : decode cX5_plans 103 = .ok (.iload_n 1, 1) := by decide +kernel
theorem dX5_plans_104 : decode cX5_plans 104 = .ok (.imul, 1) := by decide +kernel
theorem dX5_plans_105 : decode cX5_plans 105 = .ok (.iadd, 1) := by decide +kernel
theorem dX5_plans_106 : decode cX5_plans 106 = .ok (.iconst 1, 1) := by decide +kernel
theorem dX5_plans_107 : decode cX5_plans 107 = .ok (.iadd, 1) := by decide +kernel
theorem dX5_plans_108 : decode cX5_plans 108 = .ok (.iaload, 1) := by decide +kernel
theorem dX5_plans_109 : decode cX5_plans 109 = .ok (.isub, 1) := by decide +kernel
theorem dX5_plans_110 : decode cX5_plans 110 = .ok (.aload_n 0, 1) := by decide +kernel
theorem dX5_plans_111 : decode cX5_plans 111 = .ok (.invokevirtual 48, 3) := by decide +kernel
theorem dX5_plans_114 : decode cX5_plans 114 = .ok (.isub, 1) := by decide +kernel
theorem dX5_plans_115 : decode cX5_plans 115 = .ok (.iastore, 1) := by decide +kernel
theorem dX5_plans_116 : decode cX5_plans 116 = .ok (.aload_n 0, 1) := by decide +kernel
theorem dX5_plans_117 : decode cX5_plans 117 = .ok (.getfield 7, 3) := by decide +kernel
theorem dX5_plans_120 : decode cX5_plans 120 = .ok (.bipush 20, 2) := by decide +kernel
theorem dX5_plans_122 : decode cX5_plans 122 = .ok (.dup2, 1) := by decide +kernel
theorem dX5_plans_123 : decode cX5_plans 123 = .ok (.iaload, 1) := by decide +kernel
theorem dX5_plans_124 : decode cX5_plans 124 = .ok (.iconst 1, 1) := by decide +kernel
theorem dX5_plans_125 : decode cX5_plans 125 = .ok (.iadd, 1) := by decide +kernel
theorem dX5_plans_126 : decode cX5_plans 126 = .ok (.iastore, 1) := by decide +kernel
theorem dX5_plans_127 : decode cX5_plans 127 = .ok (.aload_n 0, 1) := by decide +kernel
theorem dX5_plans_128 : decode cX5_plans 128 = .ok (.bipush 75, 2) := by decide +kernel
theorem dX5_plans_130 : decode cX5_plans 130 = .ok (.iconst 2, 1) := by decide +kernel
theorem dX5_plans_131 : decode cX5_plans 131 = .ok (.aload_n 0, 1) := by decide +kernel
theorem dX5_plans_132 : decode cX5_plans 132 = .ok (.getfield 7, 3) := by decide +kernel
theorem dX5_plans_135 : decode cX5_plans 135 = .ok (.bipush 19, 2) := by decide +kernel
theorem dX5_plans_137 : decode cX5_plans 137 = .ok (.iaload, 1) := by decide +kernel
theorem dX5_plans_138 : decode cX5_plans 138 = .ok (.iload_n 1, 1) := by decide +kernel
theorem dX5_plans_139 : decode cX5_plans 139 = .ok (.invokevirtual 52, 3) := by decide +kernel
theorem dX5_plans_142 : decode cX5_plans 142 = .ok (.aload_n 0, 1) := by decide +kernel
theorem dX5_plans_143 : decode cX5_plans 143 = .ok (.getfield 7, 3) := by decide +kernel
theorem dX5_plans_146 : decode cX5_plans 146 = .ok (.bipush 19, 2) := by decide +kernel
theorem dX5_plans_148 : decode cX5_plans 148 = .ok (.dup2, 1) := by decide +kernel
theorem dX5_plans_149 : decode cX5_plans 149 = .ok (.iaload, 1) := by decide +kernel
theorem dX5_plans_150 : decode cX5_plans 150 = .ok (.iconst 1, 1) := by decide +kernel
theorem dX5_plans_151 : decode cX5_plans 151 = .ok (.isub, 1) := by decide +kernel
theorem dX5_plans_152 : decode cX5_plans 152 = .ok (.iastore, 1) := by decide +kernel
theorem dX5_plans_153 : decode cX5_plans 153 = .ok (.goto (-113), 3) := by decide +kernel
theorem dX5_plans_156 : decode cX5_plans 156 = .ok (.iinc 1 1, 3) := by decide +kernel
theorem dX5_plans_159 : decode cX5_plans 159 = .ok (.goto (-119), 3) := by decide +kernel
theorem dX5_plans_162 : decode cX5_plans 162 = .ok (.return_, 1) := by decide +kernel
set_option maxRecDepth 20000 in
theorem ggX5_under_X5_get : GoodIn wsX5_under wsX5_get := goodIn_r _ [6, 1, 11, 12, 13, 14, 15, 16, 17, 18, 19, 20, 21, 22] (by decide +kernel) (by decide +kernel)
set_option maxRecDepth 20000 in
theorem gX5_under_X5_get : GoodIn wsX5_under (wsV RX5 32 RX5 yX5_get wsX5_get) := goodIn_app (goodIn_of _ (by decide +kernel)) ggX5_under_X5_get
set_option maxRecDepth 20000 in
theorem ggX5_under_X5_back : GoodIn wsX5_under wsX5_back := goodIn_r _ [10, 2, 3, 4, 5, 6, 1, 11, 12, 13, 14, 15, 16, 17, 18, 19, 20, 21, 22] (by decide +kernel) (by decide +kernel)
set_option maxRecDepth 20000 in
theorem gX5_under_X5_back : GoodIn wsX5_under (wsV RX5 56 RX5 yX5_back wsX5_back) := goodIn_app (goodIn_of _ (by decide +kernel)) ggX5_under_X5_back
theorem dX5_under_0 : decode cX5_under 0 = .ok (.bipush (-6), 2) := by decide +kernel
theorem dX5_under_2 : decode cX5_under 2 = .ok (.istore_n 1, 1) := by decide +kernel
theorem dX5_under_3 : decode cX5_under 3 = .ok (.iconst 0, 1) := by decide +kernel
theorem dX5_under_4 : decode cX5_under 4 = .ok (.istore_n 2, 1) := by decide +kernel
theorem dX5_under_5 : decode cX5_under 5 = .ok (.iload_n 2, 1) := by decide +kernel
theorem dX5_under_6 : decode cX5_under 6 = .ok (.aload_n 0, 1) := by decide +kernel
theorem dX5_under_7 : decode cX5_under 7 = .ok (.getfield 7, 3) := by decide +kernel
theorem dX5_under_10 : decode cX5_under 10 = .ok (.bipush 9, 2) := by decide +kernel
theorem dX5_under_12 : decode cX5_under 12 = .ok (.iaload, 1) := by decide +kernel
theorem dX5_under_13 : decode cX5_under 13 = .ok (.if_icmp .ge 36, 3) := by decide +kernel
theorem dX5_under_16 : decode cX5_under 16 = .ok (.aload_n 0, 1) := by decide +kernel
theorem dX5_under_17 : decode cX5_under 17 = .ok (.iload_n 2, 1) := by decide +kernel
theorem dX5_under_18 : decode cX5_under 18 = .ok (.iconst 0, 1) := by decide +kernel
theorem dX5_under_19 : decode cX5_under 19 = .ok (.invokevirtual 32, 3) := by decide +kernel
theorem dX5_under_22 : decode cX5_under 22 = .ok (.bipush 60, 2) := by decide +kernel
theorem dX5_under_24 : decode cX5_under 24 = .ok (.if_icmp .lt 17, 3) := by decide +kernel
theorem dX5_under_27 : decode cX5_under 27 = .ok (.aload_n 0, 1) := by decide +kernel
theorem dX5_under_28 : decode cX5_under 28 = .ok (.iload_n 2, 1) := by decide +kernel
theorem dX5_under_29 : decode cX5_under 29 = .ok (.invokevirtual 56, 3) := by decide +kernel
theorem dX5_under_32 : decode cX5_under 32 = .ok (.bipush 60, 2) := by decide +kernel
theorem dX5_under_34 : decode cX5_under 34 = .ok (.if_icmp .ge 7, 3) := by decide +kernel
theorem dX5_under_37 : decode cX5_under 37 = .ok (.iload_n 2, 1) := by decide +kernel
theorem dX5_under_38 : decode cX5_under 38 = .ok (.goto 4, 3) := by decide +kernel
theorem dX5_under_41 : decode cX5_under 41 = .ok (.iload_n 1, 1) := by decide +kernel
theorem dX5_under_42 : decode cX5_under 42 = .ok (.istore_n 1, 1) := by decide +kernel
theorem dX5_under_43 : decode cX5_under 43 = .ok (.iinc 2 1, 3) := by decide +kernel
theorem dX5_under_46 : decode cX5_under 46 = .ok (.goto (-41), 3) := by decide +kernel
theorem dX5_under_49 : decode cX5_under 49 = .ok (.iload_n 1, 1) := by decide +kernel
theorem dX5_under_50 : decode cX5_under 50 = .ok (.ireturn, 1) := by decide +kernel
set_option maxRecDepth 20000 in
theorem ggX5_marks_X5_under : GoodIn wsX5_marks wsX5_under := goodIn_r _ [6, 1, 7, 8, 9, 5, 10, 11, 12, 13, 14, 19, 20, 21, 22, 23, 24, 25, 26, 27, 28, 29, 30] (by decide +kernel) (by decide +kernel)
set_option maxRecDepth 20000 in
theorem gX5_marks_X5_under : GoodIn wsX5_marks (wsV RX5 60 RX5 yX5_under wsX5_under) := goodIn_app (goodIn_of _ (by decide +kernel)) ggX5_marks_X5_under
set_option maxRecDepth 20000 in
theorem ggX5_marks_X5_get : GoodIn wsX5_marks wsX5_get := goodIn_r _ [10, 1, 19, 20, 21, 22, 23, 24, 25, 26, 27, 28, 29, 30] (by decide +kernel) (by decide +kernel)
set_option maxRecDepth 20000 in
theorem gX5_marks_X5_get : GoodIn wsX5_marks (wsV RX5 32 RX5 yX5_get wsX5_get) := goodIn_app (goodIn_of _ (by decide +kernel)) ggX5_marks_X5_get
set_option maxRecDepth 20000 in
theorem ggX5_marks_X5_put : GoodIn wsX5_marks wsX5_put := goodIn_r _ [18, 1, 19, 20, 21, 22, 23, 24, 25, 26, 27, 28, 29, 30] (by decide +kernel) (by decide +kernel)
set_option maxRecDepth 20000 in
theorem gX5_marks_X5_put : GoodIn wsX5_marks (wsV RX5 44 RX5 yX5_put wsX5_put) := goodIn_app (goodIn_of _ (by decide +kernel)) ggX5_marks_X5_put
theorem dX5_marks_0 : decode cX5_marks 0 = .ok (.aload_n 0, 1) := by decide +kernel
theorem dX5_marks_1 : decode cX5_marks 1 = .ok (.getfield 7, 3) := by decide +kernel
theorem dX5_marks_4 : decode cX5_marks 4 = .ok (.bipush 18, 2) := by decide +kernel
theorem dX5_marks_6 : decode cX5_marks 6 = .ok (.iaload, 1) := by decide +kernel
theorem dX5_marks_7 : decode cX5_marks 7 = .ok (.aload_n 0, 1) := by decide +kernel
theorem dX5_marks_8 : decode cX5_marks 8 = .ok (.getfield 7, 3) := by decide +kernel
theorem dX5_marks_11 : decode cX5_marks 11 = .ok (.iconst 4, 1) := by decide +kernel
theorem dX5_marks_12 : decode cX5_marks 12 = .ok (.iaload, 1) := by decide +kernel
theorem dX5_marks_13 : decode cX5_marks 13 = .ok (.if_icmp .ge 15, 3) := by decide +kernel
theorem dX5_marks_16 : decode cX5_marks 16 = .ok (.aload_n 0, 1) := by decide +kernel
theorem dX5_marks_17 : decode cX5_marks 17 = .ok (.getfield 7, 3) := by decide +kernel
theorem dX5_marks_20 : decode cX5_marks 20 = .ok (.bipush 17, 2) := by decide +kernel
theorem dX5_marks_22 : decode cX5_marks 22 = .ok (.dup2, 1) := by decide +kernel
theorem dX5_marks_23 : decode cX5_marks 23 = .ok (.iaload, 1) := by decide +kernel
theorem dX5_marks_24 : decode cX5_marks 24 = .ok (.iconst 1, 1) := by decide +kernel
theorem dX5_marks_25 : decode cX5_marks 25 = .ok (.iadd, 1) := by decide +kernel
theorem dX5_marks_26 : decode cX5_marks 26 = .ok (.iastore, 1) := by decide +kernel
theorem dX5_marks_27 : decode cX5_marks 27 = .ok (.return_, 1) := by decide +kernel
theorem dX5_marks_28 : decode cX5_marks 28 = .ok (.aload_n 0, 1) := by decide +kernel
theorem dX5_marks_29 : decode cX5_marks 29 = .ok (.getfield 7, 3) := by decide +kernel
theorem dX5_marks_32 : decode cX5_marks 32 = .ok (.bipush 18, 2) := by decide +kernel
theorem dX5_marks_34 : decode cX5_marks 34 = .ok (.dup2, 1) := by decide +kernel
theorem dX5_marks_35 : decode cX5_marks 35 = .ok (.iaload, 1) := by decide +kernel
theorem dX5_marks_36 : decode cX5_marks 36 = .ok (.aload_n 0, 1) := by decide +kernel
theorem dX5_marks_37 : decode cX5_marks 37 = .ok (.getfield 7, 3) := by decide +kernel
theorem dX5_marks_40 : decode cX5_marks 40 = .ok (.iconst 4, 1) := by decide +kernel
theorem dX5_marks_41 : decode cX5_marks 41 = .ok (.iaload, 1) := by decide +kernel
theorem dX5_marks_42 : decode cX5_marks 42 = .ok (.isub, 1) := by decide +kernel
theorem dX5_marks_43 : decode cX5_marks 43 = .ok (.iastore, 1) := by decide +kernel
theorem dX5_marks_44 : decode cX5_marks 44 = .ok (.aload_n 0, 1) := by decide +kernel
theorem dX5_marks_45 : decode cX5_marks 45 = .ok (.invokevirtual 60, 3) := by decide +kernel
theorem dX5_marks_48 : decode cX5_marks 48 = .ok (.istore_n 1, 1) := by decide +kernel
theorem dX5_marks_49 : decode cX5_marks 49 = .ok (.iload_n 1, 1) := by decide +kernel
theorem dX5_marks_50 : decode cX5_marks 50 = .ok (.bipush (-6), 2) := by decide +kernel
theorem dX5_marks_52 : decode cX5_marks 52 = .ok (.if_icmp .ne 15, 3) := by decide +kernel
theorem dX5_marks_55 : decode cX5_marks 55 = .ok (.aload_n 0, 1) := by decide +kernel
theorem dX5_marks_56 : decode cX5_marks 56 = .ok (.getfield 7, 3) := by decide +kernel
theorem dX5_marks_59 : decode cX5_marks 59 = .ok (.bipush 15, 2) := by decide +kernel
theorem dX5_marks_61 : decode cX5_marks 61 = .ok (.dup2, 1) := by decide +kernel
theorem dX5_marks_62 : decode cX5_marks 62 = .ok (.iaload, 1) := by decide +kernel
theorem dX5_marks_63 : decode cX5_marks 63 = .ok (.iconst 1, 1) := by decide +kernel
theorem dX5_marks_64 : decode cX5_marks 64 = .ok (.iadd, 1) := by decide +kernel
theorem dX5_marks_65 : decode cX5_marks 65 = .ok (.iastore, 1) := by decide +kernel
theorem dX5_marks_66 : decode cX5_marks 66 = .ok (.return_, 1) := by decide +kernel
theorem dX5_marks_67 : decode cX5_marks 67 = .ok (.aload_n 0, 1) := by decide +kernel
theorem dX5_marks_68 : decode cX5_marks 68 = .ok (.getfield 7, 3) := by decide +kernel
theorem dX5_marks_71 : decode cX5_marks 71 = .ok (.bipush 14, 2) := by decide +kernel
theorem dX5_marks_73 : decode cX5_marks 73 = .ok (.dup2, 1) := by decide +kernel
theorem dX5_marks_74 : decode cX5_marks 74 = .ok (.iaload, 1) := by decide +kernel
theorem dX5_marks_75 : decode cX5_marks 75 = .ok (.iconst 1, 1) := by decide +kernel
theorem dX5_marks_76 : decode cX5_marks 76 = .ok (.iadd, 1) := by decide +kernel
theorem dX5_marks_77 : decode cX5_marks 77 = .ok (.iastore, 1) := by decide +kernel
theorem dX5_marks_78 : decode cX5_marks 78 = .ok (.aload_n 0, 1) := by decide +kernel
theorem dX5_marks_79 : decode cX5_marks 79 = .ok (.iload_n 1, 1) := by decide +kernel
theorem dX5_marks_80 : decode cX5_marks 80 = .ok (.iconst 3, 1) := by decide +kernel
theorem dX5_marks_81 : decode cX5_marks 81 = .ok (.invokevirtual 32, 3) := by decide +kernel
theorem dX5_marks_84 : decode cX5_marks 84 = .ok (.bipush (-6), 2) := by decide +kernel
theorem dX5_marks_86 : decode cX5_marks 86 = .ok (.if_icmp .eq 21, 3) := by decide +kernel
theorem dX5_marks_89 : decode cX5_marks 89 = .ok (.aload_n 0, 1) := by decide +kernel
theorem dX5_marks_90 : decode cX5_marks 90 = .ok (.iload_n 1, 1) := by decide +kernel
theorem dX5_marks_91 : decode cX5_marks 91 = .ok (.iconst 4, 1) := by decide +kernel
theorem dX5_marks_92 : decode cX5_marks 92 = .ok (.iconst 1, 1) := by decide +kernel
theorem dX5_marks_93 : decode cX5_marks 93 = .ok (.invokevirtual 44, 3) := by decide +kernel
theorem dX5_marks_96 : decode cX5_marks 96 = .ok (.aload_n 0, 1) := by decide +kernel
theorem dX5_marks_97 : decode cX5_marks 97 = .ok (.getfield 7, 3) := by decide +kernel
theorem dX5_marks_100 : decode cX5_marks 100 = .ok (.bipush 16, 2) := by decide +kernel
theorem dX5_marks_102 : decode cX5_marks 102 = .ok (.dup2, 1) := by decide +kernel
theorem dX5_marks_103 : decode cX5_marks 103 = .ok (.iaload, 1) := by decide +kernel
theorem dX5_marks_104 : decode cX5_marks 104 = .ok (.iconst 1, 1) := by decide +kernel
theorem dX5_marks_105 : decode cX5_marks 105 = .ok (.iadd, 1) := by decide +kernel
theorem dX5_marks_106 : decode cX5_marks 106 = .ok (.iastore, 1) := by decide +kernel
theorem dX5_marks_107 : decode cX5_marks 107 = .ok (.aload_n 0, 1) := by decide +kernel
theorem dX5_marks_108 : decode cX5_marks 108 = .ok (.iload_n 1, 1) := by decide +kernel
theorem dX5_marks_109 : decode cX5_marks 109 = .ok (.iconst 3, 1) := by decide +kernel
theorem dX5_marks_110 : decode cX5_marks 110 = .ok (.aload_n 0, 1) := by decide +kernel
theorem dX5_marks_111 : decode cX5_marks 111 = .ok (.iload_n 1, 1) := by decide +kernel
theorem dX5_marks_112 : decode cX5_marks 112 = .ok (.iconst 0, 1) := by decide +kernel
theorem dX5_marks_113 : decode cX5_marks 113 = .ok (.invokevirtual 32, 3) := by decide +kernel
theorem dX5_marks_116 : decode cX5_marks 116 = .ok (.bipush 60, 2) := by decide +kernel
theorem dX5_marks_118 : decode cX5_marks 118 = .ok (.isub, 1) := by decide +kernel
theorem dX5_marks_119 : decode cX5_marks 119 = .ok (.invokevirtual 44, 3) := by decide +kernel
theorem dX5_marks_122 : decode cX5_marks 122 = .ok (.return_, 1) := by decide +kernel
set_option maxRecDepth 20000 in
theorem ggX5_doesPlans_X5_takesOut : GoodIn wsX5_doesPlans wsX5_takesOut := goodIn_r _ [6, 1, 27, 28, 29, 30, 31, 32, 33, 34, 35, 36, 37, 38] (by decide +kernel) (by decide +kernel)
set_option maxRecDepth 20000 in
theorem gX5_doesPlans_X5_takesOut : GoodIn wsX5_doesPlans (wsV RX5 52 RX5 yX5_takesOut wsX5_takesOut) := goodIn_app (goodIn_of _ (by decide +kernel)) ggX5_doesPlans_X5_takesOut
set_option maxRecDepth 20000 in
theorem ggX5_doesPlans_X5_marks : GoodIn wsX5_doesPlans wsX5_marks := goodIn_r _ [10, 1, 11, 12, 13, 5, 14, 15, 16, 17, 18, 19, 20, 21, 22, 23, 24, 25, 26, 27, 28, 29, 30, 31, 32, 33, 34, 35, 36, 37, 38] (by decide +kernel) (by decide +kernel)
set_option maxRecDepth 20000 in
theorem gX5_doesPlans_X5_marks : GoodIn wsX5_doesPlans (wsV RX5 63 RX5 yX5_marks wsX5_marks) := goodIn_app (goodIn_of _ (by decide +kernel)) ggX5_doesPlans_X5_marks
theorem dX5_doesPlans_0 : decode cX5_doesPlans 0 = .ok (.iconst 0, 1) := by decide +kernel
theorem dX5_doesPlans_1 : decode cX5_doesPlans 1 = .ok (.istore_n 1, 1) := by decide +kernel
theorem dX5_doesPlans_2 : decode cX5_doesPlans 2 = .ok (.iload_n 1, 1) := by decide +kernel
theorem dX5_doesPlans_3 : decode cX5_doesPlans 3 = .ok (.aload_n 0, 1) := by decide +kernel
theorem dX5_doesPlans_4 : decode cX5_doesPlans 4 = .ok (.getfield 7, 3) := by decide +kernel
theorem dX5_doesPlans_7 : decode cX5_doesPlans 7 = .ok (.bipush 20, 2) := by decide +kernel
theorem dX5_doesPlans_9 : decode cX5_doesPlans 9 = .ok (.iaload, 1) := by decide +kernel
theorem dX5_doesPlans_10 : decode cX5_doesPlans 10 = .ok (.if_icmp .ge 56, 3) := by decide +kernel
theorem dX5_doesPlans_13 : decode cX5_doesPlans 13 = .ok (.aload_n 0, 1) := by decide +kernel
theorem dX5_doesPlans_14 : decode cX5_doesPlans 14 = .ok (.getfield 7, 3) := by decide +kernel
theorem dX5_doesPlans_17 : decode cX5_doesPlans 17 = .ok (.sipush 131, 3) := by decide +kernel
theorem dX5_doesPlans_20 : decode cX5_doesPlans 20 = .ok (.iload_n 1, 1) := by decide +kernel
theorem dX5_doesPlans_21 : decode cX5_doesPlans 21 = .ok (.iadd, 1) := by decide +kernel
theorem dX5_doesPlans_22 : decode cX5_doesPlans 22 = .ok (.iaload, 1) := by decide +kernel
theorem dX5_doesPlans_23 : decode cX5_doesPlans 23 = .ok (.ifCond .gt 37, 3) := by decide +kernel
theorem dX5_doesPlans_26 : decode cX5_doesPlans 26 = .ok (.aload_n 0, 1) := by decide +kernel
theorem dX5_doesPlans_27 : decode cX5_doesPlans 27 = .ok (.sipush 131, 3) := by decide +kernel
theorem dX5_doesPlans_30 : decode cX5_doesPlans 30 = .ok (.iconst 1, 1) := by decide +kernel
theorem dX5_doesPlans_31 : decode cX5_doesPlans 31 = .ok (.aload_n 0, 1) := by decide +kernel
theorem dX5_doesPlans_32 : decode cX5_doesPlans 32 = .ok (.getfield 7, 3) := by decide +kernel
theorem dX5_doesPlans_35 : decode cX5_doesPlans 35 = .ok (.bipush 20, 2) := by decide +kernel
theorem dX5_doesPlans_37 : decode cX5_doesPlans 37 = .ok (.iaload, 1) := by decide +kernel
theorem dX5_doesPlans_38 : decode cX5_doesPlans 38 = .ok (.iload_n 1, 1) := by decide +kernel
theorem dX5_doesPlans_39 : decode cX5_doesPlans 39 = .ok (.invokevirtual 52, 3) := by decide +kernel
theorem dX5_doesPlans_42 : decode cX5_doesPlans 42 = .ok (.aload_n 0, 1) := by decide +kernel
theorem dX5_doesPlans_43 : decode cX5_doesPlans 43 = .ok (.getfield 7, 3) := by decide +kernel
theorem dX5_doesPlans_46 : decode cX5_doesPlans 46 = .ok (.bipush 20, 2) := by decide +kernel
theorem dX5_doesPlans_48 : decode cX5_doesPlans 48 = .ok (.dup2, 1) := by decide +kernel
theorem dX5_doesPlans_49 : decode cX5_doesPlans 49 = .ok (.iaload, 1) := by decide +kernel
theorem dX5_doesPlans_50 : decode cX5_doesPlans 50 = .ok (.iconst 1, 1) := by decide +kernel
theorem dX5_doesPlans_51 : decode cX5_doesPlans 51 = .ok (.isub, 1) := by decide +kernel
theorem dX5_doesPlans_52 : decode cX5_doesPlans 52 = .ok (.iastore, 1) := by decide +kernel
theorem dX5_doesPlans_53 : decode cX5_doesPlans 53 = .ok (.aload_n 0, 1) := by decide +kernel
theorem dX5_doesPlans_54 : decode cX5_doesPlans 54 = .ok (.invokevirtual 63, 3) := by decide +kernel
theorem dX5_doesPlans_57 : decode cX5_doesPlans 57 = .ok (.goto (-55), 3) := by decide +kernel
theorem dX5_doesPlans_60 : decode cX5_doesPlans 60 = .ok (.iinc 1 1, 3) := by decide +kernel
theorem dX5_doesPlans_63 : decode cX5_doesPlans 63 = .ok (.goto (-61), 3) := by decide +kernel
theorem dX5_doesPlans_66 : decode cX5_doesPlans 66 = .ok (.return_, 1) := by decide +kernel
set_option maxRecDepth 20000 in
theorem ggX5_judges_X5_get : GoodIn wsX5_judges wsX5_get := goodIn_r _ [6, 1, 10, 11, 12, 13, 14, 15, 16, 17, 18, 19, 20, 21] (by decide +kernel) (by decide +kernel)
set_option maxRecDepth 20000 in
theorem gX5_judges_X5_get : GoodIn wsX5_judges (wsV RX5 32 RX5 yX5_get wsX5_get) := goodIn_app (goodIn_of _ (by decide +kernel)) ggX5_judges_X5_get
set_option maxRecDepth 20000 in
theorem ggX5_judges_X5_in : GoodIn wsX5_judges wsX5_in := goodIn_r _ [9] (by decide +kernel) (by decide +kernel)
set_option maxRecDepth 20000 in
theorem gX5_judges_X5_in : GoodIn wsX5_judges (va_wsS RX5 36 yX5_in wsX5_in) := goodIn_app (goodIn_of _ (by decide +kernel)) ggX5_judges_X5_in
theorem dX5_judges_0 : decode cX5_judges 0 = .ok (.aload_n 0, 1) := by decide +kernel
theorem dX5_judges_1 : decode cX5_judges 1 = .ok (.iload_n 1, 1) := by decide +kernel
theorem dX5_judges_2 : decode cX5_judges 2 = .ok (.iconst 3, 1) := by decide +kernel
theorem dX5_judges_3 : decode cX5_judges 3 = .ok (.invokevirtual 32, 3) := by decide +kernel
theorem dX5_judges_6 : decode cX5_judges 6 = .ok (.aload_n 0, 1) := by decide +kernel
theorem dX5_judges_7 : decode cX5_judges 7 = .ok (.getfield 7, 3) := by decide +kernel
theorem dX5_judges_10 : decode cX5_judges 10 = .ok (.iconst 3, 1) := by decide +kernel
theorem dX5_judges_11 : decode cX5_judges 11 = .ok (.iaload, 1) := by decide +kernel
theorem dX5_judges_12 : decode cX5_judges 12 = .ok (.isub, 1) := by decide +kernel
theorem dX5_judges_13 : decode cX5_judges 13 = .ok (.istore_n 2, 1) := by decide +kernel
theorem dX5_judges_14 : decode cX5_judges 14 = .ok (.aload_n 0, 1) := by decide +kernel
theorem dX5_judges_15 : decode cX5_judges 15 = .ok (.iload_n 1, 1) := by decide +kernel
theorem dX5_judges_16 : decode cX5_judges 16 = .ok (.iconst 3, 1) := by decide +kernel
theorem dX5_judges_17 : decode cX5_judges 17 = .ok (.invokevirtual 32, 3) := by decide +kernel
theorem dX5_judges_20 : decode cX5_judges 20 = .ok (.bipush (-6), 2) := by decide +kernel
theorem dX5_judges_22 : decode cX5_judges 22 = .ok (.if_icmp .ne 8, 3) := by decide +kernel
theorem dX5_judges_25 : decode cX5_judges 25 = .ok (.bipush 13, 2) := by decide +kernel
theorem dX5_judges_27 : decode cX5_judges 27 = .ok (.goto 44, 3) := by decide +kernel
theorem dX5_judges_30 : decode cX5_judges 30 = .ok (.aload_n 0, 1) := by decide +kernel
theorem dX5_judges_31 : decode cX5_judges 31 = .ok (.iload_n 1, 1) := by decide +kernel
theorem dX5_judges_32 : decode cX5_judges 32 = .ok (.iconst 4, 1) := by decide +kernel
theorem dX5_judges_33 : decode cX5_judges 33 = .ok (.invokevirtual 32, 3) := by decide +kernel
theorem dX5_judges_36 : decode cX5_judges 36 = .ok (.ifCond .ne 33, 3) := by decide +kernel
theorem dX5_judges_39 : decode cX5_judges 39 = .ok (.iload_n 2, 1) := by decide +kernel
theorem dX5_judges_40 : decode cX5_judges 40 = .ok (.i2l, 1) := by decide +kernel
theorem dX5_judges_41 : decode cX5_judges 41 = .ok (.aload_n 0, 1) := by decide +kernel
theorem dX5_judges_42 : decode cX5_judges 42 = .ok (.getfield 7, 3) := by decide +kernel
theorem dX5_judges_45 : decode cX5_judges 45 = .ok (.bipush 7, 2) := by decide +kernel
theorem dX5_judges_47 : decode cX5_judges 47 = .ok (.iaload, 1) := by decide +kernel
theorem dX5_judges_48 : decode cX5_judges 48 = .ok (.ineg, 1) := by decide +kernel
theorem dX5_judges_49 : decode cX5_judges 49 = .ok (.i2l, 1) := by decide +kernel
theorem dX5_judges_50 : decode cX5_judges 50 = .ok (.aload_n 0, 1) := by decide +kernel
theorem dX5_judges_51 : decode cX5_judges 51 = .ok (.getfield 7, 3) := by decide +kernel
theorem dX5_judges_54 : decode cX5_judges 54 = .ok (.bipush 7, 2) := by decide +kernel
theorem dX5_judges_56 : decode cX5_judges 56 = .ok (.iaload, 1) := by decide +kernel
theorem dX5_judges_57 : decode cX5_judges 57 = .ok (.i2l, 1) := by decide +kernel
theorem dX5_judges_58 : decode cX5_judges 58 = .ok (.invokestatic 36, 3) := by decide +kernel
theorem dX5_judges_61 : decode cX5_judges 61 = .ok (.ifCond .eq 8, 3) := by decide +kernel
theorem dX5_judges_64 : decode cX5_judges 64 = .ok (.bipush 11, 2) := by decide +kernel
theorem dX5_judges_66 : decode cX5_judges 66 = .ok (.goto 5, 3) := by decide +kernel
theorem dX5_judges_69 : decode cX5_judges 69 = .ok (.bipush 12, 2) := by decide +kernel
theorem dX5_judges_71 : decode cX5_judges 71 = .ok (.istore_n 3, 1) := by decide +kernel
theorem dX5_judges_72 : decode cX5_judges 72 = .ok (.aload_n 0, 1) := by decide +kernel
theorem dX5_judges_73 : decode cX5_judges 73 = .ok (.getfield 7, 3) := by decide +kernel
theorem dX5_judges_76 : decode cX5_judges 76 = .ok (.iload_n 3, 1) := by decide +kernel
theorem dX5_judges_77 : decode cX5_judges 77 = .ok (.dup2, 1) := by decide +kernel
theorem dX5_judges_78 : decode cX5_judges 78 = .ok (.iaload, 1) := by decide +kernel
theorem dX5_judges_79 : decode cX5_judges 79 = .ok (.iconst 1, 1) := by decide +kernel
theorem dX5_judges_80 : decode cX5_judges 80 = .ok (.iadd, 1) := by decide +kernel
theorem dX5_judges_81 : decode cX5_judges 81 = .ok (.iastore, 1) := by decide +kernel
theorem dX5_judges_82 : decode cX5_judges 82 = .ok (.return_, 1) := by decide +kernel
set_option maxRecDepth 20000 in
theorem ggX5_ticksOn_X5_moves : GoodIn wsX5_ticksOn wsX5_moves := goodIn_r _ [6, 1, 7, 8, 9, 5, 10, 11, 12, 13, 14, 54, 55, 56, 57, 58, 59, 60, 61, 62, 63, 64, 65] (by decide +kernel) (by decide +kernel)
set_option maxRecDepth 20000 in
theorem gX5_ticksOn_X5_moves : GoodIn wsX5_ticksOn (wsV RX5 66 RX5 yX5_moves wsX5_moves) := goodIn_app (goodIn_of _ (by decide +kernel)) ggX5_ticksOn_X5_moves
set_option maxRecDepth 20000 in
theorem ggX5_ticksOn_X5_sees : GoodIn wsX5_ticksOn wsX5_sees := goodIn_r _ [18, 1, 7, 8, 9, 5, 10, 11, 12, 13, 14, 54, 55, 56, 57, 58, 59, 60, 61, 62, 63, 64, 65] (by decide +kernel) (by decide +kernel)
set_option maxRecDepth 20000 in
theorem gX5_ticksOn_X5_sees : GoodIn wsX5_ticksOn (wsV RX5 69 RX5 yX5_sees wsX5_sees) := goodIn_app (goodIn_of _ (by decide +kernel)) ggX5_ticksOn_X5_sees
set_option maxRecDepth 20000 in
theorem ggX5_ticksOn_X5_plans : GoodIn wsX5_ticksOn wsX5_plans := goodIn_r _ [22, 1, 23, 24, 25, 5, 26, 27, 28, 29, 30, 54, 55, 56, 57, 58, 59, 60, 61, 62, 63, 64, 65] (by decide +kernel) (by decide +kernel)
set_option maxRecDepth 20000 in
theorem gX5_ticksOn_X5_plans : GoodIn wsX5_ticksOn (wsV RX5 72 RX5 yX5_plans wsX5_plans) := goodIn_app (goodIn_of _ (by decide +kernel)) ggX5_ticksOn_X5_plans
set_option maxRecDepth 20000 in
theorem ggX5_ticksOn_X5_doesPlans : GoodIn wsX5_ticksOn wsX5_doesPlans := goodIn_r _ [34, 1, 27, 28, 29, 5, 30, 35, 36, 37, 38, 39, 40, 41, 42, 7, 8, 9, 10, 43, 44, 45, 46, 11, 12, 13, 14, 54, 55, 56, 57, 58, 59, 60, 61, 62, 63, 64, 65] (by decide +kernel) (by decide +kernel)
set_option maxRecDepth 20000 in
theorem gX5_ticksOn_X5_doesPlans : GoodIn wsX5_ticksOn (wsV RX5 75 RX5 yX5_doesPlans wsX5_doesPlans) := goodIn_app (goodIn_of _ (by decide +kernel)) ggX5_ticksOn_X5_doesPlans
set_option maxRecDepth 20000 in
theorem ggX5_ticksOn_X5_back : GoodIn wsX5_ticksOn wsX5_back := goodIn_r _ [46, 7, 8, 9, 5, 10, 1, 54, 55, 56, 57, 58, 59, 60, 61, 62, 63, 64, 65] (by decide +kernel) (by decide +kernel)
set_option maxRecDepth 20000 in
theorem gX5_ticksOn_X5_back : GoodIn wsX5_ticksOn (wsV RX5 56 RX5 yX5_back wsX5_back) := goodIn_app (goodIn_of _ (by decide +kernel)) ggX5_ticksOn_X5_back
set_option maxRecDepth 20000 in
theorem ggX5_ticksOn_X5_judges : GoodIn wsX5_ticksOn wsX5_judges := goodIn_r _ [50, 1, 7, 8, 9, 5, 10, 51, 52, 53, 54, 55, 56, 57, 58, 59, 60, 61, 62, 63, 64, 65] (by decide +kernel) (by decide +kernel)
set_option maxRecDepth 20000 in
theorem gX5_ticksOn_X5_judges : GoodIn wsX5_ticksOn (wsV RX5 78 RX5 yX5_judges wsX5_judges) := goodIn_app (goodIn_of _ (by decide +kernel)) ggX5_ticksOn_X5_judges
set_option maxRecDepth 20000 in
theorem ggX5_ticksOn_X5_takesOut : GoodIn wsX5_ticksOn wsX5_takesOut := goodIn_r _ [30, 1, 54, 55, 56, 57, 58, 59, 60, 61, 62, 63, 64, 65] (by decide +kernel) (by decide +kernel)
set_option maxRecDepth 20000 in
theorem gX5_ticksOn_X5_takesOut : GoodIn wsX5_ticksOn (wsV RX5 52 RX5 yX5_takesOut wsX5_takesOut) := goodIn_app (goodIn_of _ (by decide +kernel)) ggX5_ticksOn_X5_takesOut
theorem dX5_ticksOn_0 : decode cX5_ticksOn 0 = .ok (.aload_n 0, 1) := by decide +kernel
theorem dX5_ticksOn_1 : decode cX5_ticksOn 1 = .ok (.invokevirtual 66, 3) := by decide +kernel
theorem dX5_ticksOn_4 : decode cX5_ticksOn 4 = .ok (.aload_n 0, 1) := by decide +kernel
theorem dX5_ticksOn_5 : decode cX5_ticksOn 5 = .ok (.invokevirtual 69, 3) := by decide +kernel
theorem dX5_ticksOn_8 : decode cX5_ticksOn 8 = .ok (.aload_n 0, 1) := by decide +kernel
theorem dX5_ticksOn_9 : decode cX5_ticksOn 9 = .ok (.invokevirtual 72, 3) := by decide +kernel
theorem dX5_ticksOn_12 : decode cX5_ticksOn 12 = .ok (.aload_n 0, 1) := by decide +kernel
theorem dX5_ticksOn_13 : decode cX5_ticksOn 13 = .ok (.invokevirtual 75, 3) := by decide +kernel
theorem dX5_ticksOn_16 : decode cX5_ticksOn 16 = .ok (.aload_n 0, 1) := by decide +kernel
theorem dX5_ticksOn_17 : decode cX5_ticksOn 17 = .ok (.getfield 7, 3) := by decide +kernel
theorem dX5_ticksOn_20 : decode cX5_ticksOn 20 = .ok (.bipush 18, 2) := by decide +kernel
theorem dX5_ticksOn_22 : decode cX5_ticksOn 22 = .ok (.iaload, 1) := by decide +kernel
theorem dX5_ticksOn_23 : decode cX5_ticksOn 23 = .ok (.aload_n 0, 1) := by decide +kernel
theorem dX5_ticksOn_24 : decode cX5_ticksOn 24 = .ok (.getfield 7, 3) := by decide +kernel
theorem dX5_ticksOn_27 : decode cX5_ticksOn 27 = .ok (.bipush 6, 2) := by decide +kernel
theorem dX5_ticksOn_29 : decode cX5_ticksOn 29 = .ok (.iaload, 1) := by decide +kernel
theorem dX5_ticksOn_30 : decode cX5_ticksOn 30 = .ok (.iadd, 1) := by decide +kernel
theorem dX5_ticksOn_31 : decode cX5_ticksOn 31 = .ok (.istore_n 1, 1) := by decide +kernel
theorem dX5_ticksOn_32 : decode cX5_ticksOn 32 = .ok (.aload_n 0, 1) := by decide +kernel
theorem dX5_ticksOn_33 : decode cX5_ticksOn 33 = .ok (.getfield 7, 3) := by decide +kernel
theorem dX5_ticksOn_36 : decode cX5_ticksOn 36 = .ok (.bipush 18, 2) := by decide +kernel
theorem dX5_ticksOn_38 : decode cX5_ticksOn 38 = .ok (.iload_n 1, 1) := by decide +kernel
theorem dX5_ticksOn_39 : decode cX5_ticksOn 39 = .ok (.aload_n 0, 1) := by decide +kernel
theorem dX5_ticksOn_40 : decode cX5_ticksOn 40 = .ok (.getfield 7, 3) := by decide +kernel
theorem dX5_ticksOn_43 : decode cX5_ticksOn 43 = .ok (.iconst 5, 1) := by decide +kernel
theorem dX5_ticksOn_44 : decode cX5_ticksOn 44 = .ok (.iaload, 1) := by decide +kernel
theorem dX5_ticksOn_45 : decode cX5_ticksOn 45 = .ok (.if_icmp .le 12, 3) := by decide +kernel
theorem dX5_ticksOn_48 : decode cX5_ticksOn 48 = .ok (.aload_n 0, 1) := by decide +kernel
theorem dX5_ticksOn_49 : decode cX5_ticksOn 49 = .ok (.getfield 7, 3) := by decide +kernel
theorem dX5_ticksOn_52 : decode cX5_ticksOn 52 = .ok (.iconst 5, 1) := by decide +kernel
theorem dX5_ticksOn_53 : decode cX5_ticksOn 53 = .ok (.iaload, 1) := by decide +kernel
theorem dX5_ticksOn_54 : decode cX5_ticksOn 54 = .ok (.goto 4, 3) := by decide +kernel
theorem dX5_ticksOn_57 : decode cX5_ticksOn 57 = .ok (.iload_n 1, 1) := by decide +kernel
theorem dX5_ticksOn_58 : decode cX5_ticksOn 58 = .ok (.iastore, 1) := by decide +kernel
theorem dX5_ticksOn_59 : decode cX5_ticksOn 59 = .ok (.iconst 0, 1) := by decide +kernel
theorem dX5_ticksOn_60 : decode cX5_ticksOn 60 = .ok (.istore_n 2, 1) := by decide +kernel
theorem dX5_ticksOn_61 : decode cX5_ticksOn 61 = .ok (.iconst 0, 1) := by decide +kernel
theorem dX5_ticksOn_62 : decode cX5_ticksOn 62 = .ok (.istore_n 3, 1) := by decide +kernel
theorem dX5_ticksOn_63 : decode cX5_ticksOn 63 = .ok (.iload_n 3, 1) := by decide +kernel
theorem dX5_ticksOn_64 : decode cX5_ticksOn 64 = .ok (.aload_n 0, 1) := by decide +kernel
theorem dX5_ticksOn_65 : decode cX5_ticksOn 65 = .ok (.getfield 7, 3) := by decide +kernel
theorem dX5_ticksOn_68 : decode cX5_ticksOn 68 = .ok (.bipush 9, 2) := by decide +kernel
theorem dX5_ticksOn_70 : decode cX5_ticksOn 70 = .ok (.iaload, 1) := by decide +kernel
theorem dX5_ticksOn_71 : decode cX5_ticksOn 71 = .ok (.if_icmp .ge 57, 3) := by decide +kernel
theorem dX5_ticksOn_74 : decode cX5_ticksOn 74 = .ok (.aload_n 0, 1) := by decide +kernel
theorem dX5_ticksOn_75 : decode cX5_ticksOn 75 = .ok (.iload_n 3, 1) := by decide +kernel
theorem dX5_ticksOn_76 : decode cX5_ticksOn 76 = .ok (.invokevirtual 56, 3) := by decide +kernel
theorem dX5_ticksOn_79 : decode cX5_ticksOn 79 = .ok (.bipush 100, 2) := by decide +kernel
theorem dX5_ticksOn_81 : decode cX5_ticksOn 81 = .ok (.if_icmp .lt 41, 3) := by decide +kernel
theorem dX5_ticksOn_84 : decode cX5_ticksOn 84 = .ok (.aload_n 0, 1) := by decide +kernel
theorem dX5_ticksOn_85 : decode cX5_ticksOn 85 = .ok (.iload_n 3, 1) := by decide +kernel
theorem dX5_ticksOn_86 : decode cX5_ticksOn 86 = .ok (.invokevirtual 78, 3) := by decide +kernel
theorem dX5_ticksOn_89 : decode cX5_ticksOn 89 = .ok (.aload_n 0, 1) := by decide +kernel
theorem dX5_ticksOn_90 : decode cX5_ticksOn 90 = .ok (.bipush 27, 2) := by decide +kernel
theorem dX5_ticksOn_92 : decode cX5_ticksOn 92 = .ok (.bipush 6, 2) := by decide +kernel
theorem dX5_ticksOn_94 : decode cX5_ticksOn 94 = .ok (.aload_n 0, 1) := by decide +kernel
theorem dX5_ticksOn_95 : decode cX5_ticksOn 95 = .ok (.getfield 7, 3) := by decide +kernel
theorem dX5_ticksOn_98 : decode cX5_ticksOn 98 = .ok (.bipush 9, 2) := by decide +kernel
theorem dX5_ticksOn_100 : decode cX5_ticksOn 100 = .ok (.iaload, 1) := by decide +kernel
theorem dX5_ticksOn_101 : decode cX5_ticksOn 101 = .ok (.iload_n 3, 1) := by decide +kernel
theorem dX5_ticksOn_102 : decode cX5_ticksOn 102 = .ok (.invokevirtual 52, 3) := by decide +kernel
theorem dX5_ticksOn_105 : decode cX5_ticksOn 105 = .ok (.aload_n 0, 1) := by decide +kernel
theorem dX5_ticksOn_106 : decode cX5_ticksOn 106 = .ok (.getfield 7, 3) := by decide +kernel
theorem dX5_ticksOn_109 : decode cX5_ticksOn 109 = .ok (.bipush 9, 2) := by decide +kernel
theorem dX5_ticksOn_111 : decode cX5_ticksOn 111 = .ok (.dup2, 1) := by decide +kernel
theorem dX5_ticksOn_112 : decode cX5_ticksOn 112 = .ok (.iaload, 1) := by decide +kernel
theorem dX5_ticksOn_113 : decode cX5_ticksOn 113 = .ok (.iconst 1, 1) := by decide +kernel
theorem dX5_ticksOn_114 : decode cX5_ticksOn 114 = .ok (.isub, 1) := by decide +kernel
theorem dX5_ticksOn_115 : decode cX5_ticksOn 115 = .ok (.iastore, 1) := by decide +kernel
theorem dX5_ticksOn_116 : decode cX5_ticksOn 116 = .ok (.iinc 2 1, 3) := by decide +kernel
theorem dX5_ticksOn_119 : decode cX5_ticksOn 119 = .ok (.goto (-56), 3) := by decide +kernel
theorem dX5_ticksOn_122 : decode cX5_ticksOn 122 = .ok (.iinc 3 1, 3) := by decide +kernel
theorem dX5_ticksOn_125 : decode cX5_ticksOn 125 = .ok (.goto (-62), 3) := by decide +kernel
theorem dX5_ticksOn_128 : decode cX5_ticksOn 128 = .ok (.aload_n 0, 1) := by decide +kernel
theorem dX5_ticksOn_129 : decode cX5_ticksOn 129 = .ok (.getfield 7, 3) := by decide +kernel
theorem dX5_ticksOn_132 : decode cX5_ticksOn 132 = .ok (.bipush 8, 2) := by decide +kernel
theorem dX5_ticksOn_134 : decode cX5_ticksOn 134 = .ok (.dup2, 1) := by decide +kernel
theorem dX5_ticksOn_135 : decode cX5_ticksOn 135 = .ok (.iaload, 1) := by decide +kernel
theorem dX5_ticksOn_136 : decode cX5_ticksOn 136 = .ok (.iconst 1, 1) := by decide +kernel
theorem dX5_ticksOn_137 : decode cX5_ticksOn 137 = .ok (.iadd, 1) := by decide +kernel
theorem dX5_ticksOn_138 : decode cX5_ticksOn 138 = .ok (.iastore, 1) := by decide +kernel
theorem dX5_ticksOn_139 : decode cX5_ticksOn 139 = .ok (.iload_n 2, 1) := by decide +kernel
theorem dX5_ticksOn_140 : decode cX5_ticksOn 140 = .ok (.ireturn, 1) := by decide +kernel
set_option maxRecDepth 20000 in
theorem ggX5_passes_X5_ticksOn : GoodIn wsX5_passes wsX5_ticksOn := goodIn_r _ [5, 6, 7, 8, 9, 4, 10, 11, 12, 13, 14, 15, 16, 17, 18, 19, 20, 21, 22, 23, 24, 25, 26, 27, 28, 29, 30, 31, 32, 33, 34, 35, 36, 37, 38, 39, 40, 41, 42, 43, 44, 45, 46, 47, 48, 49, 50, 51, 52, 53, 54, 55, 56, 57, 58, 59, 60, 61, 62, 63, 64, 65, 66, 67, 68, 69] (by decide +kernel) (by decide +kernel)
set_option maxRecDepth 20000 in
theorem gX5_passes_X5_ticksOn : GoodIn wsX5_passes (wsV RX5 82 RX5 yX5_ticksOn wsX5_ticksOn) := goodIn_app (goodIn_of _ (by decide +kernel)) ggX5_passes_X5_ticksOn
theorem dX5_passes_0 : decode cX5_passes 0 = .ok (.iconst 0, 1) := by decide +kernel
theorem dX5_passes_1 : decode cX5_passes 1 = .ok (.istore_n 2, 1) := by decide +kernel
theorem dX5_passes_2 : decode cX5_passes 2 = .ok (.iconst 0, 1) := by decide +kernel
theorem dX5_passes_3 : decode cX5_passes 3 = .ok (.istore_n 3, 1) := by decide +kernel
theorem dX5_passes_4 : decode cX5_passes 4 = .ok (.iload_n 3, 1) := by decide +kernel
theorem dX5_passes_5 : decode cX5_passes 5 = .ok (.iload_n 1, 1) := by decide +kernel
theorem dX5_passes_6 : decode cX5_passes 6 = .ok (.if_icmp .ge 16, 3) := by decide +kernel
theorem dX5_passes_9 : decode cX5_passes 9 = .ok (.iload_n 2, 1) := by decide +kernel
theorem dX5_passes_10 : decode cX5_passes 10 = .ok (.aload_n 0, 1) := by decide +kernel
theorem dX5_passes_11 : decode cX5_passes 11 = .ok (.invokevirtual 82, 3) := by decide +kernel
theorem dX5_passes_14 : decode cX5_passes 14 = .ok (.iadd, 1) := by decide +kernel
theorem dX5_passes_15 : decode cX5_passes 15 = .ok (.istore_n 2, 1) := by decide +kernel
theorem dX5_passes_16 : decode cX5_passes 16 = .ok (.iinc 3 1, 3) := by decide +kernel
theorem dX5_passes_19 : decode cX5_passes 19 = .ok (.goto (-15), 3) := by decide +kernel
theorem dX5_passes_22 : decode cX5_passes 22 = .ok (.iload_n 2, 1) := by decide +kernel
theorem dX5_passes_23 : decode cX5_passes 23 = .ok (.ireturn, 1) := by decide +kernel
set_option maxRecDepth 20000 in
theorem ggX5_isSetting_X5_in : GoodIn wsX5_isSetting wsX5_in := goodIn_r _ [8] (by decide +kernel) (by decide +kernel)
set_option maxRecDepth 20000 in
theorem gX5_isSetting_X5_in : GoodIn wsX5_isSetting (va_wsS RX5 36 yX5_in wsX5_in) := goodIn_app (goodIn_of _ (by decide +kernel)) ggX5_isSetting_X5_in
theorem dX5_isSetting_0 : decode cX5_isSetting 0 = .ok (.iload_n 0, 1) := by decide +kernel
theorem dX5_isSetting_1 : decode cX5_isSetting 1 = .ok (.tableswitch 87 0 7 #[47, 57, 57, 67, 77, 87, 47, 47], 47) := by decide +kernel
theorem dX5_isSetting_48 : decode cX5_isSetting 48 = .ok (.iload_n 1, 1) := by decide +kernel
theorem dX5_isSetting_49 : decode cX5_isSetting 49 = .ok (.i2l, 1) := by decide +kernel
theorem dX5_isSetting_50 : decode cX5_isSetting 50 = .ok (.lconst 0, 1) := by decide +kernel
theorem dX5_isSetting_51 : decode cX5_isSetting 51 = .ok (.ldc2_w 85, 3) := by decide +kernel
theorem dX5_isSetting_54 : decode cX5_isSetting 54 = .ok (.invokestatic 36, 3) := by decide +kernel
theorem dX5_isSetting_57 : decode cX5_isSetting 57 = .ok (.ireturn, 1) := by decide +kernel
theorem dX5_isSetting_58 : decode cX5_isSetting 58 = .ok (.iload_n 1, 1) := by decide +kernel
theorem dX5_isSetting_59 : decode cX5_isSetting 59 = .ok (.i2l, 1) := by decide +kernel
theorem dX5_isSetting_60 : decode cX5_isSetting 60 = .ok (.lconst 0, 1) := by decide +kernel
theorem dX5_isSetting_61 : decode cX5_isSetting 61 = .ok (.ldc2_w 87, 3) := by decide +kernel
theorem dX5_isSetting_64 : decode cX5_isSetting 64 = .ok (.invokestatic 36, 3) := by decide +kernel
theorem dX5_isSetting_67 : decode cX5_isSetting 67 = .ok (.ireturn, 1) := by decide +kernel
theorem dX5_isSetting_68 : decode cX5_isSetting 68 = .ok (.iload_n 1, 1) := by decide +kernel
theorem dX5_isSetting_69 : decode cX5_isSetting 69 = .ok (.i2l, 1) := by decide +kernel
theorem dX5_isSetting_70 : decode cX5_isSetting 70 = .ok (.lconst 0, 1) := by decide +kernel
theorem dX5_isSetting_71 : decode cX5_isSetting 71 = .ok (.ldc2_w 89, 3) := by decide +kernel
theorem dX5_isSetting_74 : decode cX5_isSetting 74 = .ok (.invokestatic 36, 3) := by decide +kernel
theorem dX5_isSetting_77 : decode cX5_isSetting 77 = .ok (.ireturn, 1) := by decide +kernel
theorem dX5_isSetting_78 : decode cX5_isSetting 78 = .ok (.iload_n 1, 1) := by decide +kernel
theorem dX5_isSetting_79 : decode cX5_isSetting 79 = .ok (.i2l, 1) := by decide +kernel
theorem dX5_isSetting_80 : decode cX5_isSetting 80 = .ok (.lconst 1, 1) := by decide +kernel
theorem dX5_isSetting_81 : decode cX5_isSetting 81 = .ok (.ldc2_w 89, 3) := by decide +kernel
theorem dX5_isSetting_84 : decode cX5_isSetting 84 = .ok (.invokestatic 36, 3) := by decide +kernel
theorem dX5_isSetting_87 : decode cX5_isSetting 87 = .ok (.ireturn, 1) := by decide +kernel
theorem dX5_isSetting_88 : decode cX5_isSetting 88 = .ok (.iload_n 0, 1) := by decide +kernel
theorem dX5_isSetting_89 : decode cX5_isSetting 89 = .ok (.iconst 5, 1) := by decide +kernel
theorem dX5_isSetting_90 : decode cX5_isSetting 90 = .ok (.if_icmp .ne 19, 3) := by decide +kernel
theorem dX5_isSetting_93 : decode cX5_isSetting 93 = .ok (.iload_n 1, 1) := by decide +kernel
theorem dX5_isSetting_94 : decode cX5_isSetting 94 = .ok (.i2l, 1) := by decide +kernel
theorem dX5_isSetting_95 : decode cX5_isSetting 95 = .ok (.lconst 1, 1) := by decide +kernel
theorem dX5_isSetting_96 : decode cX5_isSetting 96 = .ok (.ldc2_w 91, 3) := by decide +kernel
theorem dX5_isSetting_99 : decode cX5_isSetting 99 = .ok (.invokestatic 36, 3) := by decide +kernel
theorem dX5_isSetting_102 : decode cX5_isSetting 102 = .ok (.ifCond .eq 7, 3) := by decide +kernel
theorem dX5_isSetting_105 : decode cX5_isSetting 105 = .ok (.iconst 1, 1) := by decide +kernel
theorem dX5_isSetting_106 : decode cX5_isSetting 106 = .ok (.goto 4, 3) := by decide +kernel
theorem dX5_isSetting_109 : decode cX5_isSetting 109 = .ok (.iconst 0, 1) := by decide +kernel
theorem dX5_isSetting_110 : decode cX5_isSetting 110 = .ok (.ireturn, 1) := by decide +kernel
set_option maxRecDepth 20000 in
theorem ggX5_doSet_X5_isSetting : GoodIn wsX5_doSet wsX5_isSetting := goodIn_r _ [5, 6, 7, 8, 9, 10, 11, 4, 12] (by decide +kernel) (by decide +kernel)
set_option maxRecDepth 20000 in
theorem gX5_doSet_X5_isSetting : GoodIn wsX5_doSet (va_wsS RX5 93 yX5_isSetting wsX5_isSetting) := goodIn_app (goodIn_of _ (by decide +kernel)) ggX5_doSet_X5_isSetting
theorem dX5_doSet_0 : decode cX5_doSet 0 = .ok (.iload_n 1, 1) := by decide +kernel
theorem dX5_doSet_1 : decode cX5_doSet 1 = .ok (.iload_n 2, 1) := by decide +kernel
theorem dX5_doSet_2 : decode cX5_doSet 2 = .ok (.invokestatic 93, 3) := by decide +kernel
theorem dX5_doSet_5 : decode cX5_doSet 5 = .ok (.ifCond .ne 6, 3) := by decide +kernel
theorem dX5_doSet_8 : decode cX5_doSet 8 = .ok (.bipush (-2), 2) := by decide +kernel
theorem dX5_doSet_10 : decode cX5_doSet 10 = .ok (.ireturn, 1) := by decide +kernel
theorem dX5_doSet_11 : decode cX5_doSet 11 = .ok (.aload_n 0, 1) := by decide +kernel
theorem dX5_doSet_12 : decode cX5_doSet 12 = .ok (.getfield 7, 3) := by decide +kernel
theorem dX5_doSet_15 : decode cX5_doSet 15 = .ok (.iload_n 1, 1) := by decide +kernel
theorem dX5_doSet_16 : decode cX5_doSet 16 = .ok (.iaload, 1) := by decide +kernel
theorem dX5_doSet_17 : decode cX5_doSet 17 = .ok (.istore_n 3, 1) := by decide +kernel
theorem dX5_doSet_18 : decode cX5_doSet 18 = .ok (.aload_n 0, 1) := by decide +kernel
theorem dX5_doSet_19 : decode cX5_doSet 19 = .ok (.getfield 7, 3) := by decide +kernel
theorem dX5_doSet_22 : decode cX5_doSet 22 = .ok (.iload_n 1, 1) := by decide +kernel
theorem dX5_doSet_23 : decode cX5_doSet 23 = .ok (.iload_n 2, 1) := by decide +kernel
theorem dX5_doSet_24 : decode cX5_doSet 24 = .ok (.iastore, 1) := by decide +kernel
theorem dX5_doSet_25 : decode cX5_doSet 25 = .ok (.iload_n 3, 1) := by decide +kernel
theorem dX5_doSet_26 : decode cX5_doSet 26 = .ok (.ireturn, 1) := by decide +kernel
set_option maxRecDepth 20000 in
theorem ggX5_doArrive_X5_isLength : GoodIn wsX5_doArrive wsX5_isLength := goodIn_r _ [5, 6, 7, 8, 9, 4, 10] (by decide +kernel) (by decide +kernel)
set_option maxRecDepth 20000 in
theorem gX5_doArrive_X5_isLength : GoodIn wsX5_doArrive (va_wsS RX5 97 yX5_isLength wsX5_isLength) := goodIn_app (goodIn_of _ (by decide +kernel)) ggX5_doArrive_X5_isLength
set_option maxRecDepth 20000 in
theorem ggX5_doArrive_X5_back : GoodIn wsX5_doArrive wsX5_back := goodIn_r _ [14, 15, 16, 17, 4, 18, 1, 23, 24, 25, 26, 27, 28, 29, 30, 31, 32, 33, 34] (by decide +kernel) (by decide +kernel)
set_option maxRecDepth 20000 in
theorem gX5_doArrive_X5_back : GoodIn wsX5_doArrive (wsV RX5 56 RX5 yX5_back wsX5_back) := goodIn_app (goodIn_of _ (by decide +kernel)) ggX5_doArrive_X5_back
set_option maxRecDepth 20000 in
theorem ggX5_doArrive_X5_put : GoodIn wsX5_doArrive wsX5_put := goodIn_r _ [22, 1, 23, 24, 25, 26, 27, 28, 29, 30, 31, 32, 33, 34] (by decide +kernel) (by decide +kernel)
set_option maxRecDepth 20000 in
theorem gX5_doArrive_X5_put : GoodIn wsX5_doArrive (wsV RX5 44 RX5 yX5_put wsX5_put) := goodIn_app (goodIn_of _ (by decide +kernel)) ggX5_doArrive_X5_put
theorem dX5_doArrive_0 : decode cX5_doArrive 0 = .ok (.iload_n 1, 1) := by decide +kernel
theorem dX5_doArrive_1 : decode cX5_doArrive 1 = .ok (.invokestatic 97, 3) := by decide +kernel
theorem dX5_doArrive_4 : decode cX5_doArrive 4 = .ok (.ifCond .ne 6, 3) := by decide +kernel
theorem dX5_doArrive_7 : decode cX5_doArrive 7 = .ok (.bipush (-2), 2) := by decide +kernel
theorem dX5_doArrive_9 : decode cX5_doArrive 9 = .ok (.ireturn, 1) := by decide +kernel
theorem dX5_doArrive_10 : decode cX5_doArrive 10 = .ok (.aload_n 0, 1) := by decide +kernel
theorem dX5_doArrive_11 : decode cX5_doArrive 11 = .ok (.getfield 7, 3) := by decide +kernel
theorem dX5_doArrive_14 : decode cX5_doArrive 14 = .ok (.bipush 9, 2) := by decide +kernel
theorem dX5_doArrive_16 : decode cX5_doArrive 16 = .ok (.iaload, 1) := by decide +kernel
theorem dX5_doArrive_17 : decode cX5_doArrive 17 = .ok (.istore_n 2, 1) := by decide +kernel
theorem dX5_doArrive_18 : decode cX5_doArrive 18 = .ok (.iload_n 2, 1) := by decide +kernel
theorem dX5_doArrive_19 : decode cX5_doArrive 19 = .ok (.bipush 8, 2) := by decide +kernel
theorem dX5_doArrive_21 : decode cX5_doArrive 21 = .ok (.if_icmp .ne 6, 3) := by decide +kernel
theorem dX5_doArrive_24 : decode cX5_doArrive 24 = .ok (.bipush (-4), 2) := by decide +kernel
theorem dX5_doArrive_26 : decode cX5_doArrive 26 = .ok (.ireturn, 1) := by decide +kernel
theorem dX5_doArrive_27 : decode cX5_doArrive 27 = .ok (.iload_n 2, 1) := by decide +kernel
theorem dX5_doArrive_28 : decode cX5_doArrive 28 = .ok (.ifCond .le 17, 3) := by decide +kernel
theorem dX5_doArrive_31 : decode cX5_doArrive 31 = .ok (.aload_n 0, 1) := by decide +kernel
theorem dX5_doArrive_32 : decode cX5_doArrive 32 = .ok (.iload_n 2, 1) := by decide +kernel
theorem dX5_doArrive_33 : decode cX5_doArrive 33 = .ok (.iconst 1, 1) := by decide +kernel
theorem dX5_doArrive_34 : decode cX5_doArrive 34 = .ok (.isub, 1) := by decide +kernel
theorem dX5_doArrive_35 : decode cX5_doArrive 35 = .ok (.invokevirtual 56, 3) := by decide +kernel
theorem dX5_doArrive_38 : decode cX5_doArrive 38 = .ok (.iconst 1, 1) := by decide +kernel
theorem dX5_doArrive_39 : decode cX5_doArrive 39 = .ok (.if_icmp .ge 6, 3) := by decide +kernel
theorem dX5_doArrive_42 : decode cX5_doArrive 42 = .ok (.bipush (-5), 2) := by decide +kernel
theorem dX5_doArrive_44 : decode cX5_doArrive 44 = .ok (.ireturn, 1) := by decide +kernel
theorem dX5_doArrive_45 : decode cX5_doArrive 45 = .ok (.aload_n 0, 1) := by decide +kernel
theorem dX5_doArrive_46 : decode cX5_doArrive 46 = .ok (.iload_n 2, 1) := by decide +kernel
theorem dX5_doArrive_47 : decode cX5_doArrive 47 = .ok (.iconst 0, 1) := by decide +kernel
theorem dX5_doArrive_48 : decode cX5_doArrive 48 = .ok (.iconst 0, 1) := by decide +kernel
theorem dX5_doArrive_49 : decode cX5_doArrive 49 = .ok (.invokevirtual 44, 3) := by decide +kernel
theorem dX5_doArrive_52 : decode cX5_doArrive 52 = .ok (.aload_n 0, 1) := by decide +kernel
theorem dX5_doArrive_53 : decode cX5_doArrive 53 = .ok (.iload_n 2, 1) := by decide +kernel
theorem dX5_doArrive_54 : decode cX5_doArrive 54 = .ok (.iconst 1, 1) := by decide +kernel
theorem dX5_doArrive_55 : decode cX5_doArrive 55 = .ok (.iload_n 1, 1) := by decide +kernel
theorem dX5_doArrive_56 : decode cX5_doArrive 56 = .ok (.invokevirtual 44, 3) := by decide +kernel
theorem dX5_doArrive_59 : decode cX5_doArrive 59 = .ok (.aload_n 0, 1) := by decide +kernel
theorem dX5_doArrive_60 : decode cX5_doArrive 60 = .ok (.iload_n 2, 1) := by decide +kernel
theorem dX5_doArrive_61 : decode cX5_doArrive 61 = .ok (.iconst 2, 1) := by decide +kernel
theorem dX5_doArrive_62 : decode cX5_doArrive 62 = .ok (.iconst 0, 1) := by decide +kernel
theorem dX5_doArrive_63 : decode cX5_doArrive 63 = .ok (.invokevirtual 44, 3) := by decide +kernel
theorem dX5_doArrive_66 : decode cX5_doArrive 66 = .ok (.aload_n 0, 1) := by decide +kernel
theorem dX5_doArrive_67 : decode cX5_doArrive 67 = .ok (.iload_n 2, 1) := by decide +kernel
theorem dX5_doArrive_68 : decode cX5_doArrive 68 = .ok (.iconst 3, 1) := by decide +kernel
theorem dX5_doArrive_69 : decode cX5_doArrive 69 = .ok (.bipush (-6), 2) := by decide +kernel
theorem dX5_doArrive_71 : decode cX5_doArrive 71 = .ok (.invokevirtual 44, 3) := by decide +kernel
theorem dX5_doArrive_74 : decode cX5_doArrive 74 = .ok (.aload_n 0, 1) := by decide +kernel
theorem dX5_doArrive_75 : decode cX5_doArrive 75 = .ok (.iload_n 2, 1) := by decide +kernel
theorem dX5_doArrive_76 : decode cX5_doArrive 76 = .ok (.iconst 4, 1) := by decide +kernel
theorem dX5_doArrive_77 : decode cX5_doArrive 77 = .ok (.iconst 0, 1) := by decide +kernel
theorem dX5_doArrive_78 : decode cX5_doArrive 78 = .ok (.invokevirtual 44, 3) := by decide +kernel
theorem dX5_doArrive_81 : decode cX5_doArrive 81 = .ok (.aload_n 0, 1) := by decide +kernel
theorem dX5_doArrive_82 : decode cX5_doArrive 82 = .ok (.iload_n 2, 1) := by decide +kernel
theorem dX5_doArrive_83 : decode cX5_doArrive 83 = .ok (.iconst 5, 1) := by decide +kernel
theorem dX5_doArrive_84 : decode cX5_doArrive 84 = .ok (.aload_n 0, 1) := by decide +kernel
theorem dX5_doArrive_85 : decode cX5_doArrive 85 = .ok (.getfield 7, 3) := by decide +kernel
theorem dX5_doArrive_88 : decode cX5_doArrive 88 = .ok (.bipush 10, 2) := by decide +kernel
theorem dX5_doArrive_90 : decode cX5_doArrive 90 = .ok (.iaload, 1) := by decide +kernel
theorem dX5_doArrive_91 : decode cX5_doArrive 91 = .ok (.invokevirtual 44, 3) := by decide +kernel
theorem dX5_doArrive_94 : decode cX5_doArrive 94 = .ok (.aload_n 0, 1) := by decide +kernel
theorem dX5_doArrive_95 : decode cX5_doArrive 95 = .ok (.getfield 7, 3) := by decide +kernel
theorem dX5_doArrive_98 : decode cX5_doArrive 98 = .ok (.bipush 9, 2) := by decide +kernel
theorem dX5_doArrive_100 : decode cX5_doArrive 100 = .ok (.dup2, 1) := by decide +kernel
theorem dX5_doArrive_101 : decode cX5_doArrive 101 = .ok (.iaload, 1) := by decide +kernel
theorem dX5_doArrive_102 : decode cX5_doArrive 102 = .ok (.iconst 1, 1) := by decide +kernel
theorem dX5_doArrive_103 : decode cX5_doArrive 103 = .ok (.iadd, 1) := by decide +kernel
theorem dX5_doArrive_104 : decode cX5_doArrive 104 = .ok (.iastore, 1) := by decide +kernel
theorem dX5_doArrive_105 : decode cX5_doArrive 105 = .ok (.aload_n 0, 1) := by decide +kernel
theorem dX5_doArrive_106 : decode cX5_doArrive 106 = .ok (.getfield 7, 3) := by decide +kernel
theorem dX5_doArrive_109 : decode cX5_doArrive 109 = .ok (.bipush 10, 2) := by decide +kernel
theorem dX5_doArrive_111 : decode cX5_doArrive 111 = .ok (.dup2, 1) := by decide +kernel
theorem dX5_doArrive_112 : decode cX5_doArrive 112 = .ok (.iaload, 1) := by decide +kernel
theorem dX5_doArrive_113 : decode cX5_doArrive 113 = .ok (.iconst 1, 1) := by decide +kernel
theorem dX5_doArrive_114 : decode cX5_doArrive 114 = .ok (.iadd, 1) := by decide +kernel
theorem dX5_doArrive_115 : decode cX5_doArrive 115 = .ok (.iastore, 1) := by decide +kernel
theorem dX5_doArrive_116 : decode cX5_doArrive 116 = .ok (.iload_n 2, 1) := by decide +kernel
theorem dX5_doArrive_117 : decode cX5_doArrive 117 = .ok (.ireturn, 1) := by decide +kernel
set_option maxRecDepth 20000 in
theorem ggX5_doTurn_X5_isBox : GoodIn wsX5_doTurn wsX5_isBox := goodIn_r _ [6, 1, 7, 8, 5, 9, 27, 28, 29, 30, 31, 32, 33, 34, 35, 36, 37, 38] (by decide +kernel) (by decide +kernel)
set_option maxRecDepth 20000 in
theorem gX5_doTurn_X5_isBox : GoodIn wsX5_doTurn (wsV RX5 101 RX5 yX5_isBox wsX5_isBox) := goodIn_app (goodIn_of _ (by decide +kernel)) ggX5_doTurn_X5_isBox
set_option maxRecDepth 20000 in
theorem ggX5_doTurn_X5_isLength : GoodIn wsX5_doTurn wsX5_isLength := goodIn_r _ [12, 13, 14, 7, 8, 5, 9] (by decide +kernel) (by decide +kernel)
set_option maxRecDepth 20000 in
theorem gX5_doTurn_X5_isLength : GoodIn wsX5_doTurn (va_wsS RX5 97 yX5_isLength wsX5_isLength) := goodIn_app (goodIn_of _ (by decide +kernel)) ggX5_doTurn_X5_isLength
set_option maxRecDepth 20000 in
theorem ggX5_doTurn_X5_get : GoodIn wsX5_doTurn wsX5_get := goodIn_r _ [18, 1, 27, 28, 29, 30, 31, 32, 33, 34, 35, 36, 37, 38] (by decide +kernel) (by decide +kernel)
set_option maxRecDepth 20000 in
theorem gX5_doTurn_X5_get : GoodIn wsX5_doTurn (wsV RX5 32 RX5 yX5_get wsX5_get) := goodIn_app (goodIn_of _ (by decide +kernel)) ggX5_doTurn_X5_get
set_option maxRecDepth 20000 in
theorem ggX5_doTurn_X5_back : GoodIn wsX5_doTurn wsX5_back := goodIn_r _ [22, 15, 16, 17, 5, 18, 1, 27, 28, 29, 30, 31, 32, 33, 34, 35, 36, 37, 38] (by decide +kernel) (by decide +kernel)
set_option maxRecDepth 20000 in
theorem gX5_doTurn_X5_back : GoodIn wsX5_doTurn (wsV RX5 56 RX5 yX5_back wsX5_back) := goodIn_app (goodIn_of _ (by decide +kernel)) ggX5_doTurn_X5_back
set_option maxRecDepth 20000 in
theorem ggX5_doTurn_X5_put : GoodIn wsX5_doTurn wsX5_put := goodIn_r _ [26, 1, 27, 28, 29, 30, 31, 32, 33, 34, 35, 36, 37, 38] (by decide +kernel) (by decide +kernel)
set_option maxRecDepth 20000 in
theorem gX5_doTurn_X5_put : GoodIn wsX5_doTurn (wsV RX5 44 RX5 yX5_put wsX5_put) := goodIn_app (goodIn_of _ (by decide +kernel)) ggX5_doTurn_X5_put
theorem dX5_doTurn_0 : decode cX5_doTurn 0 = .ok (.aload_n 0, 1) := by decide +kernel
theorem dX5_doTurn_1 : decode cX5_doTurn 1 = .ok (.iload_n 1, 1) := by decide +kernel
theorem dX5_doTurn_2 : decode cX5_doTurn 2 = .ok (.invokevirtual 101, 3) := by decide +kernel
theorem dX5_doTurn_5 : decode cX5_doTurn 5 = .ok (.ifCond .ne 5, 3) := by decide +kernel
theorem dX5_doTurn_8 : decode cX5_doTurn 8 = .ok (.iconst (-1), 1) := by decide +kernel
theorem dX5_doTurn_9 : decode cX5_doTurn 9 = .ok (.ireturn, 1) := by decide +kernel
theorem dX5_doTurn_10 : decode cX5_doTurn 10 = .ok (.iload_n 2, 1) := by decide +kernel
theorem dX5_doTurn_11 : decode cX5_doTurn 11 = .ok (.invokestatic 97, 3) := by decide +kernel
theorem dX5_doTurn_14 : decode cX5_doTurn 14 = .ok (.ifCond .ne 6, 3) := by decide +kernel
theorem dX5_doTurn_17 : decode cX5_doTurn 17 = .ok (.bipush (-2), 2) := by decide +kernel
theorem dX5_doTurn_19 : decode cX5_doTurn 19 = .ok (.ireturn, 1) := by decide +kernel
theorem dX5_doTurn_20 : decode cX5_doTurn 20 = .ok (.iload_n 2, 1) := by decide +kernel
theorem dX5_doTurn_21 : decode cX5_doTurn 21 = .ok (.aload_n 0, 1) := by decide +kernel
theorem dX5_doTurn_22 : decode cX5_doTurn 22 = .ok (.iload_n 1, 1) := by decide +kernel
theorem dX5_doTurn_23 : decode cX5_doTurn 23 = .ok (.iconst 1, 1) := by decide +kernel
theorem dX5_doTurn_24 : decode cX5_doTurn 24 = .ok (.invokevirtual 32, 3) := by decide +kernel
theorem dX5_doTurn_27 : decode cX5_doTurn 27 = .ok (.isub, 1) := by decide +kernel
theorem dX5_doTurn_28 : decode cX5_doTurn 28 = .ok (.istore_n 3, 1) := by decide +kernel
theorem dX5_doTurn_29 : decode cX5_doTurn 29 = .ok (.aload_n 0, 1) := by decide +kernel
theorem dX5_doTurn_30 : decode cX5_doTurn 30 = .ok (.iload_n 1, 1) := by decide +kernel
theorem dX5_doTurn_31 : decode cX5_doTurn 31 = .ok (.iconst 0, 1) := by decide +kernel
theorem dX5_doTurn_32 : decode cX5_doTurn 32 = .ok (.invokevirtual 32, 3) := by decide +kernel
theorem dX5_doTurn_35 : decode cX5_doTurn 35 = .ok (.iload_n 3, 1) := by decide +kernel
theorem dX5_doTurn_36 : decode cX5_doTurn 36 = .ok (.ifCond .ge 12, 3) := by decide +kernel
theorem dX5_doTurn_39 : decode cX5_doTurn 39 = .ok (.iconst 1, 1) := by decide +kernel
theorem dX5_doTurn_40 : decode cX5_doTurn 40 = .ok (.iload_n 3, 1) := by decide +kernel
theorem dX5_doTurn_41 : decode cX5_doTurn 41 = .ok (.isub, 1) := by decide +kernel
theorem dX5_doTurn_42 : decode cX5_doTurn 42 = .ok (.iconst 2, 1) := by decide +kernel
theorem dX5_doTurn_43 : decode cX5_doTurn 43 = .ok (.idiv, 1) := by decide +kernel
theorem dX5_doTurn_44 : decode cX5_doTurn 44 = .ok (.ineg, 1) := by decide +kernel
theorem dX5_doTurn_45 : decode cX5_doTurn 45 = .ok (.goto 6, 3) := by decide +kernel
theorem dX5_doTurn_48 : decode cX5_doTurn 48 = .ok (.iload_n 3, 1) := by decide +kernel
theorem dX5_doTurn_49 : decode cX5_doTurn 49 = .ok (.iconst 2, 1) := by decide +kernel
theorem dX5_doTurn_50 : decode cX5_doTurn 50 = .ok (.idiv, 1) := by decide +kernel
theorem dX5_doTurn_51 : decode cX5_doTurn 51 = .ok (.iadd, 1) := by decide +kernel
theorem dX5_doTurn_52 : decode cX5_doTurn 52 = .ok (.istore 4, 2) := by decide +kernel
theorem dX5_doTurn_54 : decode cX5_doTurn 54 = .ok (.iload_n 1, 1) := by decide +kernel
theorem dX5_doTurn_55 : decode cX5_doTurn 55 = .ok (.ifCond .eq 17, 3) := by decide +kernel
theorem dX5_doTurn_58 : decode cX5_doTurn 58 = .ok (.aload_n 0, 1) := by decide +kernel
theorem dX5_doTurn_59 : decode cX5_doTurn 59 = .ok (.iload_n 1, 1) := by decide +kernel
theorem dX5_doTurn_60 : decode cX5_doTurn 60 = .ok (.iconst 1, 1) := by decide +kernel
theorem dX5_doTurn_61 : decode cX5_doTurn 61 = .ok (.isub, 1) := by decide +kernel
theorem dX5_doTurn_62 : decode cX5_doTurn 62 = .ok (.invokevirtual 56, 3) := by decide +kernel
theorem dX5_doTurn_65 : decode cX5_doTurn 65 = .ok (.iload 4, 2) := by decide +kernel
theorem dX5_doTurn_67 : decode cX5_doTurn 67 = .ok (.isub, 1) := by decide +kernel
theorem dX5_doTurn_68 : decode cX5_doTurn 68 = .ok (.iconst 1, 1) := by decide +kernel
theorem dX5_doTurn_69 : decode cX5_doTurn 69 = .ok (.if_icmp .lt 7, 3) := by decide +kernel
theorem dX5_doTurn_72 : decode cX5_doTurn 72 = .ok (.iconst 1, 1) := by decide +kernel
theorem dX5_doTurn_73 : decode cX5_doTurn 73 = .ok (.goto 4, 3) := by decide +kernel
theorem dX5_doTurn_76 : decode cX5_doTurn 76 = .ok (.iconst 0, 1) := by decide +kernel
theorem dX5_doTurn_77 : decode cX5_doTurn 77 = .ok (.istore 5, 2) := by decide +kernel
theorem dX5_doTurn_79 : decode cX5_doTurn 79 = .ok (.iload_n 1, 1) := by decide +kernel
theorem dX5_doTurn_80 : decode cX5_doTurn 80 = .ok (.aload_n 0, 1) := by decide +kernel
theorem dX5_doTurn_81 : decode cX5_doTurn 81 = .ok (.getfield 7, 3) := by decide +kernel
theorem dX5_doTurn_84 : decode cX5_doTurn 84 = .ok (.bipush 9, 2) := by decide +kernel
theorem dX5_doTurn_86 : decode cX5_doTurn 86 = .ok (.iaload, 1) := by decide +kernel
theorem dX5_doTurn_87 : decode cX5_doTurn 87 = .ok (.iconst 1, 1) := by decide +kernel
theorem dX5_doTurn_88 : decode cX5_doTurn 88 = .ok (.isub, 1) := by decide +kernel
theorem dX5_doTurn_89 : decode cX5_doTurn 89 = .ok (.if_icmp .eq 20, 3) := by decide +kernel
theorem dX5_doTurn_92 : decode cX5_doTurn 92 = .ok (.iload 4, 2) := by decide +kernel
theorem dX5_doTurn_94 : decode cX5_doTurn 94 = .ok (.iload_n 2, 1) := by decide +kernel
theorem dX5_doTurn_95 : decode cX5_doTurn 95 = .ok (.isub, 1) := by decide +kernel
theorem dX5_doTurn_96 : decode cX5_doTurn 96 = .ok (.aload_n 0, 1) := by decide +kernel
theorem dX5_doTurn_97 : decode cX5_doTurn 97 = .ok (.iload_n 1, 1) := by decide +kernel
theorem dX5_doTurn_98 : decode cX5_doTurn 98 = .ok (.iconst 1, 1) := by decide +kernel
theorem dX5_doTurn_99 : decode cX5_doTurn 99 = .ok (.iadd, 1) := by decide +kernel
theorem dX5_doTurn_100 : decode cX5_doTurn 100 = .ok (.iconst 0, 1) := by decide +kernel
theorem dX5_doTurn_101 : decode cX5_doTurn 101 = .ok (.invokevirtual 32, 3) := by decide +kernel
theorem dX5_doTurn_104 : decode cX5_doTurn 104 = .ok (.isub, 1) := by decide +kernel
theorem dX5_doTurn_105 : decode cX5_doTurn 105 = .ok (.iconst 1, 1) := by decide +kernel
theorem dX5_doTurn_106 : decode cX5_doTurn 106 = .ok (.if_icmp .lt 7, 3) := by decide +kernel
theorem dX5_doTurn_109 : decode cX5_doTurn 109 = .ok (.iconst 1, 1) := by decide +kernel
theorem dX5_doTurn_110 : decode cX5_doTurn 110 = .ok (.goto 4, 3) := by decide +kernel
theorem dX5_doTurn_113 : decode cX5_doTurn 113 = .ok (.iconst 0, 1) := by decide +kernel
theorem dX5_doTurn_114 : decode cX5_doTurn 114 = .ok (.istore 6, 2) := by decide +kernel
theorem dX5_doTurn_116 : decode cX5_doTurn 116 = .ok (.iload 5, 2) := by decide +kernel
theorem dX5_doTurn_118 : decode cX5_doTurn 118 = .ok (.ifCond .eq 8, 3) := by decide +kernel
theorem dX5_doTurn_121 : decode cX5_doTurn 121 = .ok (.iload 6, 2) := by decide +kernel
theorem dX5_doTurn_123 : decode cX5_doTurn 123 = .ok (.ifCond .ne 6, 3) := by decide +kernel
theorem dX5_doTurn_126 : decode cX5_doTurn 126 = .ok (.bipush (-5), 2) := by decide +kernel
theorem dX5_doTurn_128 : decode cX5_doTurn 128 = .ok (.ireturn, 1) := by decide +kernel
theorem dX5_doTurn_129 : decode cX5_doTurn 129 = .ok (.aload_n 0, 1) := by decide +kernel
theorem dX5_doTurn_130 : decode cX5_doTurn 130 = .ok (.iload_n 1, 1) := by decide +kernel
theorem dX5_doTurn_131 : decode cX5_doTurn 131 = .ok (.iconst 0, 1) := by decide +kernel
theorem dX5_doTurn_132 : decode cX5_doTurn 132 = .ok (.iload 4, 2) := by decide +kernel
theorem dX5_doTurn_134 : decode cX5_doTurn 134 = .ok (.invokevirtual 44, 3) := by decide +kernel
theorem dX5_doTurn_137 : decode cX5_doTurn 137 = .ok (.aload_n 0, 1) := by decide +kernel
theorem dX5_doTurn_138 : decode cX5_doTurn 138 = .ok (.iload_n 1, 1) := by decide +kernel
theorem dX5_doTurn_139 : decode cX5_doTurn 139 = .ok (.iconst 1, 1) := by decide +kernel
theorem dX5_doTurn_140 : decode cX5_doTurn 140 = .ok (.iload_n 2, 1) := by decide +kernel
theorem dX5_doTurn_141 : decode cX5_doTurn 141 = .ok (.invokevirtual 44, 3) := by decide +kernel
theorem dX5_doTurn_144 : decode cX5_doTurn 144 = .ok (.iload 4, 2) := by decide +kernel
theorem dX5_doTurn_146 : decode cX5_doTurn 146 = .ok (.sipush 1000, 3) := by decide +kernel
theorem dX5_doTurn_149 : decode cX5_doTurn 149 = .ok (.iadd, 1) := by decide +kernel
theorem dX5_doTurn_150 : decode cX5_doTurn 150 = .ok (.ireturn, 1) := by decide +kernel
set_option maxRecDepth 20000 in
theorem ggX5_areTicks_X5_in : GoodIn wsX5_areTicks wsX5_in := goodIn_r _ [5] (by decide +kernel) (by decide +kernel)
set_option maxRecDepth 20000 in
theorem gX5_areTicks_X5_in : GoodIn wsX5_areTicks (va_wsS RX5 36 yX5_in wsX5_in) := goodIn_app (goodIn_of _ (by decide +kernel)) ggX5_areTicks_X5_in
theorem dX5_areTicks_0 : decode cX5_areTicks 0 = .ok (.iload_n 0, 1) := by decide +kernel
theorem dX5_areTicks_1 : decode cX5_areTicks 1 = .ok (.i2l, 1) := by decide +kernel
theorem dX5_areTicks_2 : decode cX5_areTicks 2 = .ok (.lconst 1, 1) := by decide +kernel
theorem dX5_areTicks_3 : decode cX5_areTicks 3 = .ok (.ldc2_w 104, 3) := by decide +kernel
theorem dX5_areTicks_6 : decode cX5_areTicks 6 = .ok (.invokestatic 36, 3) := by decide +kernel
theorem dX5_areTicks_9 : decode cX5_areTicks 9 = .ok (.ireturn, 1) := by decide +kernel
set_option maxRecDepth 20000 in
theorem ggX5_doPass_X5_areTicks : GoodIn wsX5_doPass wsX5_areTicks := goodIn_r _ [5, 6, 7, 8, 4, 9] (by decide +kernel) (by decide +kernel)
set_option maxRecDepth 20000 in
theorem gX5_doPass_X5_areTicks : GoodIn wsX5_doPass (va_wsS RX5 106 yX5_areTicks wsX5_areTicks) := goodIn_app (goodIn_of _ (by decide +kernel)) ggX5_doPass_X5_areTicks
set_option maxRecDepth 20000 in
theorem ggX5_doPass_X5_passes : GoodIn wsX5_doPass wsX5_passes := goodIn_r _ [13, 14, 15, 16, 4, 17, 1, 18, 19, 20, 21, 22, 23, 24, 25, 26, 27, 28, 29, 30, 31, 32, 33, 34, 35, 36, 37, 38, 39, 40, 41, 42, 43, 44, 45, 46, 47, 48, 49, 50, 51, 52, 53, 54, 55, 56, 57, 58, 59, 60, 61, 62, 63, 64, 65, 7, 8, 9, 66, 67, 68, 69, 70, 71, 72, 73, 74, 75, 76, 77] (by decide +kernel) (by decide +kernel)
set_option maxRecDepth 20000 in
theorem gX5_doPass_X5_passes : GoodIn wsX5_doPass (wsV RX5 109 RX5 yX5_passes wsX5_passes) := goodIn_app (goodIn_of _ (by decide +kernel)) ggX5_doPass_X5_passes
theorem dX5_doPass_0 : decode cX5_doPass 0 = .ok (.iload_n 1, 1) := by decide +kernel
theorem dX5_doPass_1 : decode cX5_doPass 1 = .ok (.invokestatic 106, 3) := by decide +kernel
theorem dX5_doPass_4 : decode cX5_doPass 4 = .ok (.ifCond .ne 6, 3) := by decide +kernel
theorem dX5_doPass_7 : decode cX5_doPass 7 = .ok (.bipush (-2), 2) := by decide +kernel
theorem dX5_doPass_9 : decode cX5_doPass 9 = .ok (.ireturn, 1) := by decide +kernel
theorem dX5_doPass_10 : decode cX5_doPass 10 = .ok (.aload_n 0, 1) := by decide +kernel
theorem dX5_doPass_11 : decode cX5_doPass 11 = .ok (.getfield 7, 3) := by decide +kernel
theorem dX5_doPass_14 : decode cX5_doPass 14 = .ok (.bipush 8, 2) := by decide +kernel
theorem dX5_doPass_16 : decode cX5_doPass 16 = .ok (.iaload, 1) := by decide +kernel
theorem dX5_doPass_17 : decode cX5_doPass 17 = .ok (.iload_n 1, 1) := by decide +kernel
theorem dX5_doPass_18 : decode cX5_doPass 18 = .ok (.iadd, 1) := by decide +kernel
theorem dX5_doPass_19 : decode cX5_doPass 19 = .ok (.sipush 20000, 3) := by decide +kernel
theorem dX5_doPass_22 : decode cX5_doPass 22 = .ok (.if_icmp .le 8, 3) := by decide +kernel
theorem dX5_doPass_25 : decode cX5_doPass 25 = .ok (.bipush (-4), 2) := by decide +kernel
theorem dX5_doPass_27 : decode cX5_doPass 27 = .ok (.goto 8, 3) := by decide +kernel
theorem dX5_doPass_30 : decode cX5_doPass 30 = .ok (.aload_n 0, 1) := by decide +kernel
theorem dX5_doPass_31 : decode cX5_doPass 31 = .ok (.iload_n 1, 1) := by decide +kernel
theorem dX5_doPass_32 : decode cX5_doPass 32 = .ok (.invokevirtual 109, 3) := by decide +kernel
theorem dX5_doPass_35 : decode cX5_doPass 35 = .ok (.ireturn, 1) := by decide +kernel
set_option maxRecDepth 20000 in
theorem ggX5_set_X5_keep : GoodIn wsX5_set wsX5_keep := goodIn_r _ [5, 6, 7, 28, 29, 30, 31, 32, 33, 34, 35, 36, 37, 38, 39] (by decide +kernel) (by decide +kernel)
set_option maxRecDepth 20000 in
theorem gX5_set_X5_keep : GoodIn wsX5_set (wsV RX5 112 RX5 yX5_keep wsX5_keep) := goodIn_app (goodIn_of _ (by decide +kernel)) ggX5_set_X5_keep
set_option maxRecDepth 20000 in
theorem ggX5_set_X5_doSet : GoodIn wsX5_set wsX5_doSet := goodIn_r _ [11, 7, 12, 13, 4, 14, 15, 16, 17, 18, 19, 20, 21, 28, 29, 30, 31, 32, 33, 34, 35, 36, 37, 38, 39] (by decide +kernel) (by decide +kernel)
set_option maxRecDepth 20000 in
theorem gX5_set_X5_doSet : GoodIn wsX5_set (wsV RX5 115 RX5 yX5_doSet wsX5_doSet) := goodIn_app (goodIn_of _ (by decide +kernel)) ggX5_set_X5_doSet
set_option maxRecDepth 20000 in
theorem ggX5_set_X5_changed : GoodIn wsX5_set wsX5_changed := goodIn_r _ [25, 26, 27, 6, 28, 29, 30, 31, 32, 33, 34, 35, 36, 37, 38, 39] (by decide +kernel) (by decide +kernel)
set_option maxRecDepth 20000 in
theorem gX5_set_X5_changed : GoodIn wsX5_set (wsV RX5 118 RX5 yX5_changed wsX5_changed) := goodIn_app (goodIn_of _ (by decide +kernel)) ggX5_set_X5_changed
theorem dX5_set_0 : decode cX5_set 0 = .ok (.aload_n 0, 1) := by decide +kernel
theorem dX5_set_1 : decode cX5_set 1 = .ok (.invokevirtual 112, 3) := by decide +kernel
theorem dX5_set_4 : decode cX5_set 4 = .ok (.aload_n 0, 1) := by decide +kernel
theorem dX5_set_5 : decode cX5_set 5 = .ok (.aload_n 0, 1) := by decide +kernel
theorem dX5_set_6 : decode cX5_set 6 = .ok (.iload_n 1, 1) := by decide +kernel
theorem dX5_set_7 : decode cX5_set 7 = .ok (.iload_n 2, 1) := by decide +kernel
theorem dX5_set_8 : decode cX5_set 8 = .ok (.invokevirtual 115, 3) := by decide +kernel
theorem dX5_set_11 : decode cX5_set 11 = .ok (.invokevirtual 118, 3) := by decide +kernel
theorem dX5_set_14 : decode cX5_set 14 = .ok (.ireturn, 1) := by decide +kernel
set_option maxRecDepth 20000 in
theorem ggX5_arrive_X5_keep : GoodIn wsX5_arrive wsX5_keep := goodIn_r _ [5, 6, 7, 38, 39, 40, 41, 42, 43, 44, 45, 46, 47, 48, 49] (by decide +kernel) (by decide +kernel)
set_option maxRecDepth 20000 in
theorem gX5_arrive_X5_keep : GoodIn wsX5_arrive (wsV RX5 112 RX5 yX5_keep wsX5_keep) := goodIn_app (goodIn_of _ (by decide +kernel)) ggX5_arrive_X5_keep
set_option maxRecDepth 20000 in
theorem ggX5_arrive_X5_doArrive : GoodIn wsX5_arrive wsX5_doArrive := goodIn_r _ [11, 7, 12, 13, 4, 14, 15, 16, 17, 18, 19, 20, 21, 22, 23, 24, 25, 26, 27, 28, 29, 30, 31, 38, 39, 40, 41, 42, 43, 44, 45, 46, 47, 48, 49] (by decide +kernel) (by decide +kernel)
set_option maxRecDepth 20000 in
theorem gX5_arrive_X5_doArrive : GoodIn wsX5_arrive (wsV RX5 121 RX5 yX5_doArrive wsX5_doArrive) := goodIn_app (goodIn_of _ (by decide +kernel)) ggX5_arrive_X5_doArrive
set_option maxRecDepth 20000 in
theorem ggX5_arrive_X5_changed : GoodIn wsX5_arrive wsX5_changed := goodIn_r _ [35, 36, 37, 6, 38, 39, 40, 41, 42, 43, 44, 45, 46, 47, 48, 49] (by decide +kernel) (by decide +kernel)
set_option maxRecDepth 20000 in
theorem gX5_arrive_X5_changed : GoodIn wsX5_arrive (wsV RX5 118 RX5 yX5_changed wsX5_changed) := goodIn_app (goodIn_of _ (by decide +kernel)) ggX5_arrive_X5_changed
theorem dX5_arrive_0 : decode cX5_arrive 0 = .ok (.aload_n 0, 1) := by decide +kernel
theorem dX5_arrive_1 : decode cX5_arrive 1 = .ok (.invokevirtual 112, 3) := by decide +kernel
theorem dX5_arrive_4 : decode cX5_arrive 4 = .ok (.aload_n 0, 1) := by decide +kernel
theorem dX5_arrive_5 : decode cX5_arrive 5 = .ok (.aload_n 0, 1) := by decide +kernel
theorem dX5_arrive_6 : decode cX5_arrive 6 = .ok (.iload_n 1, 1) := by decide +kernel
theorem dX5_arrive_7 : decode cX5_arrive 7 = .ok (.invokevirtual 121, 3) := by decide +kernel
theorem dX5_arrive_10 : decode cX5_arrive 10 = .ok (.invokevirtual 118, 3) := by decide +kernel
theorem dX5_arrive_13 : decode cX5_arrive 13 = .ok (.ireturn, 1) := by decide +kernel
set_option maxRecDepth 20000 in
theorem ggX5_turn_X5_keep : GoodIn wsX5_turn wsX5_keep := goodIn_r _ [5, 6, 7, 42, 43, 44, 45, 46, 47, 48, 49, 50, 51, 52, 53] (by decide +kernel) (by decide +kernel)
set_option maxRecDepth 20000 in
theorem gX5_turn_X5_keep : GoodIn wsX5_turn (wsV RX5 112 RX5 yX5_keep wsX5_keep) := goodIn_app (goodIn_of _ (by decide +kernel)) ggX5_turn_X5_keep
set_option maxRecDepth 20000 in
theorem ggX5_turn_X5_doTurn : GoodIn wsX5_turn wsX5_doTurn := goodIn_r _ [11, 7, 12, 13, 14, 4, 15, 16, 17, 18, 19, 20, 21, 22, 23, 24, 25, 26, 27, 28, 29, 30, 31, 32, 33, 34, 35, 42, 43, 44, 45, 46, 47, 48, 49, 50, 51, 52, 53] (by decide +kernel) (by decide +kernel)
set_option maxRecDepth 20000 in
theorem gX5_turn_X5_doTurn : GoodIn wsX5_turn (wsV RX5 124 RX5 yX5_doTurn wsX5_doTurn) := goodIn_app (goodIn_of _ (by decide +kernel)) ggX5_turn_X5_doTurn
set_option maxRecDepth 20000 in
theorem ggX5_turn_X5_changed : GoodIn wsX5_turn wsX5_changed := goodIn_r _ [39, 40, 41, 6, 42, 43, 44, 45, 46, 47, 48, 49, 50, 51, 52, 53] (by decide +kernel) (by decide +kernel)
set_option maxRecDepth 20000 in
theorem gX5_turn_X5_changed : GoodIn wsX5_turn (wsV RX5 118 RX5 yX5_changed wsX5_changed) := goodIn_app (goodIn_of _ (by decide +kernel)) ggX5_turn_X5_changed
theorem dX5_turn_0 : decode cX5_turn 0 = .ok (.aload_n 0, 1) := by decide +kernel
theorem dX5_turn_1 : decode cX5_turn 1 = .ok (.invokevirtual 112, 3) := by decide +kernel
theorem dX5_turn_4 : decode cX5_turn 4 = .ok (.aload_n 0, 1) := by decide +kernel
theorem dX5_turn_5 : decode cX5_turn 5 = .ok (.aload_n 0, 1) := by decide +kernel
theorem dX5_turn_6 : decode cX5_turn 6 = .ok (.iload_n 1, 1) := by decide +kernel
theorem dX5_turn_7 : decode cX5_turn 7 = .ok (.iload_n 2, 1) := by decide +kernel
theorem dX5_turn_8 : decode cX5_turn 8 = .ok (.invokevirtual 124, 3) := by decide +kernel
theorem dX5_turn_11 : decode cX5_turn 11 = .ok (.invokevirtual 118, 3) := by decide +kernel
theorem dX5_turn_14 : decode cX5_turn 14 = .ok (.ireturn, 1) := by decide +kernel
set_option maxRecDepth 20000 in
theorem ggX5_pass_X5_keep : GoodIn wsX5_pass wsX5_keep := goodIn_r _ [5, 6, 7, 81, 82, 83, 84, 85, 86, 87, 88, 89, 90, 91, 92] (by decide +kernel) (by decide +kernel)
set_option maxRecDepth 20000 in
theorem gX5_pass_X5_keep : GoodIn wsX5_pass (wsV RX5 112 RX5 yX5_keep wsX5_keep) := goodIn_app (goodIn_of _ (by decide +kernel)) ggX5_pass_X5_keep
set_option maxRecDepth 20000 in
theorem ggX5_pass_X5_doPass : GoodIn wsX5_pass wsX5_doPass := goodIn_r _ [11, 7, 12, 13, 4, 14, 15, 16, 17, 18, 19, 20, 21, 22, 23, 24, 25, 26, 27, 28, 29, 30, 31, 32, 33, 34, 35, 36, 37, 38, 39, 40, 41, 42, 43, 44, 45, 46, 47, 48, 49, 50, 51, 52, 53, 54, 55, 56, 57, 58, 59, 60, 61, 62, 63, 64, 65, 66, 67, 68, 69, 70, 71, 72, 73, 74, 81, 82, 83, 84, 85, 86, 87, 88, 89, 90, 91, 92] (by decide +kernel) (by decide +kernel)
set_option maxRecDepth 20000 in
theorem gX5_pass_X5_doPass : GoodIn wsX5_pass (wsV RX5 127 RX5 yX5_doPass wsX5_doPass) := goodIn_app (goodIn_of _ (by decide +kernel)) ggX5_pass_X5_doPass
set_option maxRecDepth 20000 in
theorem ggX5_pass_X5_changed : GoodIn wsX5_pass wsX5_changed := goodIn_r _ [78, 79, 80, 6, 81, 82, 83, 84, 85, 86, 87, 88, 89, 90, 91, 92] (by decide +kernel) (by decide +kernel)
set_option maxRecDepth 20000 in
theorem gX5_pass_X5_changed : GoodIn wsX5_pass (wsV RX5 118 RX5 yX5_changed wsX5_changed) := goodIn_app (goodIn_of _ (by decide +kernel)) ggX5_pass_X5_changed
theorem dX5_pass_0 : decode cX5_pass 0 = .ok (.aload_n 0, 1) := by decide +kernel
theorem dX5_pass_1 : decode cX5_pass 1 = .ok (.invokevirtual 112, 3) := by decide +kernel
theorem dX5_pass_4 : decode cX5_pass 4 = .ok (.aload_n 0, 1) := by decide +kernel
theorem dX5_pass_5 : decode cX5_pass 5 = .ok (.aload_n 0, 1) := by decide +kernel
theorem dX5_pass_6 : decode cX5_pass 6 = .ok (.iload_n 1, 1) := by decide +kernel
theorem dX5_pass_7 : decode cX5_pass 7 = .ok (.invokevirtual 127, 3) := by decide +kernel
theorem dX5_pass_10 : decode cX5_pass 10 = .ok (.invokevirtual 118, 3) := by decide +kernel
theorem dX5_pass_13 : decode cX5_pass 13 = .ok (.ireturn, 1) := by decide +kernel
set_option maxRecDepth 20000 in
theorem ggX5_box_X5_isBox : GoodIn wsX5_box wsX5_isBox := goodIn_r _ [6, 7, 8, 9, 5, 10, 15, 16, 17, 18, 19, 20, 21, 22, 23, 24, 25, 26] (by decide +kernel) (by decide +kernel)
set_option maxRecDepth 20000 in
theorem gX5_box_X5_isBox : GoodIn wsX5_box (wsV RX5 101 RX5 yX5_isBox wsX5_isBox) := goodIn_app (goodIn_of _ (by decide +kernel)) ggX5_box_X5_isBox
set_option maxRecDepth 20000 in
theorem ggX5_box_X5_get : GoodIn wsX5_box wsX5_get := goodIn_r _ [14, 7, 15, 16, 17, 18, 19, 20, 21, 22, 23, 24, 25, 26] (by decide +kernel) (by decide +kernel)
set_option maxRecDepth 20000 in
theorem gX5_box_X5_get : GoodIn wsX5_box (wsV RX5 32 RX5 yX5_get wsX5_get) := goodIn_app (goodIn_of _ (by decide +kernel)) ggX5_box_X5_get
set_option maxRecDepth 20000 in
theorem ggX5_box_X5_in : GoodIn wsX5_box wsX5_in := goodIn_r _ [10] (by decide +kernel) (by decide +kernel)
set_option maxRecDepth 20000 in
theorem gX5_box_X5_in : GoodIn wsX5_box (va_wsS RX5 36 yX5_in wsX5_in) := goodIn_app (goodIn_of _ (by decide +kernel)) ggX5_box_X5_in
theorem dX5_box_0 : decode cX5_box 0 = .ok (.aload_n 0, 1) := by decide +kernel
theorem dX5_box_1 : decode cX5_box 1 = .ok (.iload_n 1, 1) := by decide +kernel
theorem dX5_box_2 : decode cX5_box 2 = .ok (.invokevirtual 101, 3) := by decide +kernel
theorem dX5_box_5 : decode cX5_box 5 = .ok (.ifCond .ne 5, 3) := by decide +kernel
theorem dX5_box_8 : decode cX5_box 8 = .ok (.iconst (-1), 1) := by decide +kernel
theorem dX5_box_9 : decode cX5_box 9 = .ok (.ireturn, 1) := by decide +kernel
theorem dX5_box_10 : decode cX5_box 10 = .ok (.iload_n 2, 1) := by decide +kernel
theorem dX5_box_11 : decode cX5_box 11 = .ok (.lookupswitch 63 #[(0, 25), (3, 36)], 25) := by decide +kernel
theorem dX5_box_36 : decode cX5_box 36 = .ok (.aload_n 0, 1) := by decide +kernel
theorem dX5_box_37 : decode cX5_box 37 = .ok (.iload_n 1, 1) := by decide +kernel
theorem dX5_box_38 : decode cX5_box 38 = .ok (.iconst 0, 1) := by decide +kernel
theorem dX5_box_39 : decode cX5_box 39 = .ok (.invokevirtual 32, 3) := by decide +kernel
theorem dX5_box_42 : decode cX5_box 42 = .ok (.sipush 1000, 3) := by decide +kernel
theorem dX5_box_45 : decode cX5_box 45 = .ok (.iadd, 1) := by decide +kernel
theorem dX5_box_46 : decode cX5_box 46 = .ok (.ireturn, 1) := by decide +kernel
theorem dX5_box_47 : decode cX5_box 47 = .ok (.aload_n 0, 1) := by decide +kernel
theorem dX5_box_48 : decode cX5_box 48 = .ok (.iload_n 1, 1) := by decide +kernel
theorem dX5_box_49 : decode cX5_box 49 = .ok (.iconst 3, 1) := by decide +kernel
theorem dX5_box_50 : decode cX5_box 50 = .ok (.invokevirtual 32, 3) := by decide +kernel
theorem dX5_box_53 : decode cX5_box 53 = .ok (.bipush (-6), 2) := by decide +kernel
theorem dX5_box_55 : decode cX5_box 55 = .ok (.if_icmp .ne 8, 3) := by decide +kernel
theorem dX5_box_58 : decode cX5_box 58 = .ok (.bipush (-6), 2) := by decide +kernel
theorem dX5_box_60 : decode cX5_box 60 = .ok (.goto 13, 3) := by decide +kernel
theorem dX5_box_63 : decode cX5_box 63 = .ok (.aload_n 0, 1) := by decide +kernel
theorem dX5_box_64 : decode cX5_box 64 = .ok (.iload_n 1, 1) := by decide +kernel
theorem dX5_box_65 : decode cX5_box 65 = .ok (.iconst 3, 1) := by decide +kernel
theorem dX5_box_66 : decode cX5_box 66 = .ok (.invokevirtual 32, 3) := by decide +kernel
theorem dX5_box_69 : decode cX5_box 69 = .ok (.sipush 1000, 3) := by decide +kernel
theorem dX5_box_72 : decode cX5_box 72 = .ok (.iadd, 1) := by decide +kernel
theorem dX5_box_73 : decode cX5_box 73 = .ok (.ireturn, 1) := by decide +kernel
theorem dX5_box_74 : decode cX5_box 74 = .ok (.iload_n 2, 1) := by decide +kernel
theorem dX5_box_75 : decode cX5_box 75 = .ok (.i2l, 1) := by decide +kernel
theorem dX5_box_76 : decode cX5_box 76 = .ok (.lconst 1, 1) := by decide +kernel
theorem dX5_box_77 : decode cX5_box 77 = .ok (.ldc2_w 87, 3) := by decide +kernel
theorem dX5_box_80 : decode cX5_box 80 = .ok (.invokestatic 36, 3) := by decide +kernel
theorem dX5_box_83 : decode cX5_box 83 = .ok (.ifCond .eq 12, 3) := by decide +kernel
theorem dX5_box_86 : decode cX5_box 86 = .ok (.aload_n 0, 1) := by decide +kernel
theorem dX5_box_87 : decode cX5_box 87 = .ok (.iload_n 1, 1) := by decide +kernel
theorem dX5_box_88 : decode cX5_box 88 = .ok (.iload_n 2, 1) := by decide +kernel
theorem dX5_box_89 : decode cX5_box 89 = .ok (.invokevirtual 32, 3) := by decide +kernel
theorem dX5_box_92 : decode cX5_box 92 = .ok (.goto 5, 3) := by decide +kernel
theorem dX5_box_95 : decode cX5_box 95 = .ok (.bipush (-2), 2) := by decide +kernel
theorem dX5_box_97 : decode cX5_box 97 = .ok (.ireturn, 1) := by decide +kernel
set_option maxRecDepth 20000 in
theorem ggX5_plan_X5_in : GoodIn wsX5_plan wsX5_in := goodIn_r _ [5] (by decide +kernel) (by decide +kernel)
set_option maxRecDepth 20000 in
theorem gX5_plan_X5_in : GoodIn wsX5_plan (va_wsS RX5 36 yX5_in wsX5_in) := goodIn_app (goodIn_of _ (by decide +kernel)) ggX5_plan_X5_in
theorem dX5_plan_0 : decode cX5_plan 0 = .ok (.iload_n 1, 1) := by decide +kernel
theorem dX5_plan_1 : decode cX5_plan 1 = .ok (.i2l, 1) := by decide +kernel
theorem dX5_plan_2 : decode cX5_plan 2 = .ok (.lconst 0, 1) := by decide +kernel
theorem dX5_plan_3 : decode cX5_plan 3 = .ok (.aload_n 0, 1) := by decide +kernel
theorem dX5_plan_4 : decode cX5_plan 4 = .ok (.getfield 7, 3) := by decide +kernel
theorem dX5_plan_7 : decode cX5_plan 7 = .ok (.bipush 20, 2) := by decide +kernel
theorem dX5_plan_9 : decode cX5_plan 9 = .ok (.iaload, 1) := by decide +kernel
theorem dX5_plan_10 : decode cX5_plan 10 = .ok (.i2l, 1) := by decide +kernel
theorem dX5_plan_11 : decode cX5_plan 11 = .ok (.lconst 1, 1) := by decide +kernel
theorem dX5_plan_12 : decode cX5_plan 12 = .ok (.lsub, 1) := by decide +kernel
theorem dX5_plan_13 : decode cX5_plan 13 = .ok (.invokestatic 36, 3) := by decide +kernel
theorem dX5_plan_16 : decode cX5_plan 16 = .ok (.ifCond .eq 20, 3) := by decide +kernel
theorem dX5_plan_19 : decode cX5_plan 19 = .ok (.aload_n 0, 1) := by decide +kernel
theorem dX5_plan_20 : decode cX5_plan 20 = .ok (.getfield 7, 3) := by decide +kernel
theorem dX5_plan_23 : decode cX5_plan 23 = .ok (.sipush 131, 3) := by decide +kernel
theorem dX5_plan_26 : decode cX5_plan 26 = .ok (.iload_n 1, 1) := by decide +kernel
theorem dX5_plan_27 : decode cX5_plan 27 = .ok (.iadd, 1) := by decide +kernel
theorem dX5_plan_28 : decode cX5_plan 28 = .ok (.iaload, 1) := by decide +kernel
theorem dX5_plan_29 : decode cX5_plan 29 = .ok (.sipush 1000, 3) := by decide +kernel
theorem dX5_plan_32 : decode cX5_plan 32 = .ok (.iadd, 1) := by decide +kernel
theorem dX5_plan_33 : decode cX5_plan 33 = .ok (.goto 4, 3) := by decide +kernel
theorem dX5_plan_36 : decode cX5_plan 36 = .ok (.iconst (-1), 1) := by decide +kernel
theorem dX5_plan_37 : decode cX5_plan 37 = .ok (.ireturn, 1) := by decide +kernel
set_option maxRecDepth 20000 in
theorem ggX5_report_X5_in : GoodIn wsX5_report wsX5_in := goodIn_r _ [5] (by decide +kernel) (by decide +kernel)
set_option maxRecDepth 20000 in
theorem gX5_report_X5_in : GoodIn wsX5_report (va_wsS RX5 36 yX5_in wsX5_in) := goodIn_app (goodIn_of _ (by decide +kernel)) ggX5_report_X5_in
theorem dX5_report_0 : decode cX5_report 0 = .ok (.iload_n 1, 1) := by decide +kernel
theorem dX5_report_1 : decode cX5_report 1 = .ok (.i2l, 1) := by decide +kernel
theorem dX5_report_2 : decode cX5_report 2 = .ok (.lconst 0, 1) := by decide +kernel
theorem dX5_report_3 : decode cX5_report 3 = .ok (.aload_n 0, 1) := by decide +kernel
theorem dX5_report_4 : decode cX5_report 4 = .ok (.getfield 7, 3) := by decide +kernel
theorem dX5_report_7 : decode cX5_report 7 = .ok (.bipush 19, 2) := by decide +kernel
theorem dX5_report_9 : decode cX5_report 9 = .ok (.iaload, 1) := by decide +kernel
theorem dX5_report_10 : decode cX5_report 10 = .ok (.i2l, 1) := by decide +kernel
theorem dX5_report_11 : decode cX5_report 11 = .ok (.lconst 1, 1) := by decide +kernel
theorem dX5_report_12 : decode cX5_report 12 = .ok (.lsub, 1) := by decide +kernel
theorem dX5_report_13 : decode cX5_report 13 = .ok (.invokestatic 36, 3) := by decide +kernel
theorem dX5_report_16 : decode cX5_report 16 = .ok (.ifCond .ne 5, 3) := by decide +kernel
theorem dX5_report_19 : decode cX5_report 19 = .ok (.iconst (-1), 1) := by decide +kernel
theorem dX5_report_20 : decode cX5_report 20 = .ok (.ireturn, 1) := by decide +kernel
theorem dX5_report_21 : decode cX5_report 21 = .ok (.iload_n 2, 1) := by decide +kernel
theorem dX5_report_22 : decode cX5_report 22 = .ok (.ifCond .ne 27, 3) := by decide +kernel
theorem dX5_report_25 : decode cX5_report 25 = .ok (.aload_n 0, 1) := by decide +kernel
theorem dX5_report_26 : decode cX5_report 26 = .ok (.getfield 7, 3) := by decide +kernel
theorem dX5_report_29 : decode cX5_report 29 = .ok (.bipush 75, 2) := by decide +kernel
theorem dX5_report_31 : decode cX5_report 31 = .ok (.iconst 2, 1) := by decide +kernel
theorem dX5_report_32 : decode cX5_report 32 = .ok (.iload_n 1, 1) := by decide +kernel
theorem dX5_report_33 : decode cX5_report 33 = .ok (.imul, 1) := by decide +kernel
theorem dX5_report_34 : decode cX5_report 34 = .ok (.iadd, 1) := by decide +kernel
theorem dX5_report_35 : decode cX5_report 35 = .ok (.iaload, 1) := by decide +kernel
theorem dX5_report_36 : decode cX5_report 36 = .ok (.aload_n 0, 1) := by decide +kernel
theorem dX5_report_37 : decode cX5_report 37 = .ok (.getfield 7, 3) := by decide +kernel
theorem dX5_report_40 : decode cX5_report 40 = .ok (.bipush 8, 2) := by decide +kernel
theorem dX5_report_42 : decode cX5_report 42 = .ok (.iaload, 1) := by decide +kernel
theorem dX5_report_43 : decode cX5_report 43 = .ok (.isub, 1) := by decide +kernel
theorem dX5_report_44 : decode cX5_report 44 = .ok (.iconst 1, 1) := by decide +kernel
theorem dX5_report_45 : decode cX5_report 45 = .ok (.iadd, 1) := by decide +kernel
theorem dX5_report_46 : decode cX5_report 46 = .ok (.goto 26, 3) := by decide +kernel
theorem dX5_report_49 : decode cX5_report 49 = .ok (.iload_n 2, 1) := by decide +kernel
theorem dX5_report_50 : decode cX5_report 50 = .ok (.iconst 1, 1) := by decide +kernel
theorem dX5_report_51 : decode cX5_report 51 = .ok (.if_icmp .ne 19, 3) := by decide +kernel
theorem dX5_report_54 : decode cX5_report 54 = .ok (.aload_n 0, 1) := by decide +kernel
theorem dX5_report_55 : decode cX5_report 55 = .ok (.getfield 7, 3) := by decide +kernel
theorem dX5_report_58 : decode cX5_report 58 = .ok (.bipush 75, 2) := by decide +kernel
theorem dX5_report_60 : decode cX5_report 60 = .ok (.iconst 2, 1) := by decide +kernel
theorem dX5_report_61 : decode cX5_report 61 = .ok (.iload_n 1, 1) := by decide +kernel
theorem dX5_report_62 : decode cX5_report 62 = .ok (.imul, 1) := by decide +kernel
theorem dX5_report_63 : decode cX5_report 63 = .ok (.iadd, 1) := by decide +kernel
theorem dX5_report_64 : decode cX5_report 64 = .ok (.iconst 1, 1) := by decide +kernel
theorem dX5_report_65 : decode cX5_report 65 = .ok (.iadd, 1) := by decide +kernel
theorem dX5_report_66 : decode cX5_report 66 = .ok (.iaload, 1) := by decide +kernel
theorem dX5_report_67 : decode cX5_report 67 = .ok (.goto 5, 3) := by decide +kernel
theorem dX5_report_70 : decode cX5_report 70 = .ok (.bipush (-2), 2) := by decide +kernel
theorem dX5_report_72 : decode cX5_report 72 = .ok (.ireturn, 1) := by decide +kernel
set_option maxRecDepth 20000 in
theorem ggX5_count_X5_in : GoodIn wsX5_count wsX5_in := goodIn_r _ [10] (by decide +kernel) (by decide +kernel)
set_option maxRecDepth 20000 in
theorem gX5_count_X5_in : GoodIn wsX5_count (va_wsS RX5 36 yX5_in wsX5_in) := goodIn_app (goodIn_of _ (by decide +kernel)) ggX5_count_X5_in
theorem dX5_count_0 : decode cX5_count 0 = .ok (.iload_n 1, 1) := by decide +kernel
theorem dX5_count_1 : decode cX5_count 1 = .ok (.i2l, 1) := by decide +kernel
theorem dX5_count_2 : decode cX5_count 2 = .ok (.lconst 0, 1) := by decide +kernel
theorem dX5_count_3 : decode cX5_count 3 = .ok (.ldc2_w 130, 3) := by decide +kernel
theorem dX5_count_6 : decode cX5_count 6 = .ok (.invokestatic 36, 3) := by decide +kernel
theorem dX5_count_9 : decode cX5_count 9 = .ok (.ifCond .eq 13, 3) := by decide +kernel
theorem dX5_count_12 : decode cX5_count 12 = .ok (.aload_n 0, 1) := by decide +kernel
theorem dX5_count_13 : decode cX5_count 13 = .ok (.getfield 7, 3) := by decide +kernel
theorem dX5_count_16 : decode cX5_count 16 = .ok (.bipush 8, 2) := by decide +kernel
theorem dX5_count_18 : decode cX5_count 18 = .ok (.iload_n 1, 1) := by decide +kernel
theorem dX5_count_19 : decode cX5_count 19 = .ok (.iadd, 1) := by decide +kernel
theorem dX5_count_20 : decode cX5_count 20 = .ok (.iaload, 1) := by decide +kernel
theorem dX5_count_21 : decode cX5_count 21 = .ok (.ireturn, 1) := by decide +kernel
theorem dX5_count_22 : decode cX5_count 22 = .ok (.iload_n 1, 1) := by decide +kernel
theorem dX5_count_23 : decode cX5_count 23 = .ok (.i2l, 1) := by decide +kernel
theorem dX5_count_24 : decode cX5_count 24 = .ok (.ldc2_w 132, 3) := by decide +kernel
theorem dX5_count_27 : decode cX5_count 27 = .ok (.ldc2_w 134, 3) := by decide +kernel
theorem dX5_count_30 : decode cX5_count 30 = .ok (.invokestatic 36, 3) := by decide +kernel
theorem dX5_count_33 : decode cX5_count 33 = .ok (.ifCond .eq 13, 3) := by decide +kernel
theorem dX5_count_36 : decode cX5_count 36 = .ok (.aload_n 0, 1) := by decide +kernel
theorem dX5_count_37 : decode cX5_count 37 = .ok (.getfield 7, 3) := by decide +kernel
theorem dX5_count_40 : decode cX5_count 40 = .ok (.iload_n 1, 1) := by decide +kernel
theorem dX5_count_41 : decode cX5_count 41 = .ok (.bipush 14, 2) := by decide +kernel
theorem dX5_count_43 : decode cX5_count 43 = .ok (.isub, 1) := by decide +kernel
theorem dX5_count_44 : decode cX5_count 44 = .ok (.iaload, 1) := by decide +kernel
theorem dX5_count_45 : decode cX5_count 45 = .ok (.ireturn, 1) := by decide +kernel
theorem dX5_count_46 : decode cX5_count 46 = .ok (.iload_n 1, 1) := by decide +kernel
theorem dX5_count_47 : decode cX5_count 47 = .ok (.bipush 22, 2) := by decide +kernel
theorem dX5_count_49 : decode cX5_count 49 = .ok (.if_icmp .ne 10, 3) := by decide +kernel
theorem dX5_count_52 : decode cX5_count 52 = .ok (.aload_n 0, 1) := by decide +kernel
theorem dX5_count_53 : decode cX5_count 53 = .ok (.getfield 136, 3) := by decide +kernel
theorem dX5_count_56 : decode cX5_count 56 = .ok (.goto 18, 3) := by decide +kernel
theorem dX5_count_59 : decode cX5_count 59 = .ok (.iload_n 1, 1) := by decide +kernel
theorem dX5_count_60 : decode cX5_count 60 = .ok (.bipush 23, 2) := by decide +kernel
theorem dX5_count_62 : decode cX5_count 62 = .ok (.if_icmp .ne 10, 3) := by decide +kernel
theorem dX5_count_65 : decode cX5_count 65 = .ok (.aload_n 0, 1) := by decide +kernel
theorem dX5_count_66 : decode cX5_count 66 = .ok (.getfield 28, 3) := by decide +kernel
theorem dX5_count_69 : decode cX5_count 69 = .ok (.goto 5, 3) := by decide +kernel
theorem dX5_count_72 : decode cX5_count 72 = .ok (.bipush (-2), 2) := by decide +kernel
theorem dX5_count_74 : decode cX5_count 74 = .ok (.ireturn, 1) := by decide +kernel
set_option maxRecDepth 20000 in
theorem ggX5_brings_X5_keep : GoodIn wsX5_brings wsX5_keep := goodIn_r _ [6, 7, 1, 71, 72, 73, 74, 75, 76, 77, 78, 79, 80, 81, 82] (by decide +kernel) (by decide +kernel)
set_option maxRecDepth 20000 in
theorem gX5_brings_X5_keep : GoodIn wsX5_brings (wsV RX5 112 RX5 yX5_keep wsX5_keep) := goodIn_app (goodIn_of _ (by decide +kernel)) ggX5_brings_X5_keep
set_option maxRecDepth 20000 in
theorem ggX5_brings_X5_passes : GoodIn wsX5_brings wsX5_passes := goodIn_r _ [11, 12, 13, 14, 5, 15, 1, 16, 17, 18, 19, 20, 21, 22, 23, 24, 25, 26, 27, 28, 29, 30, 31, 32, 33, 34, 35, 36, 37, 38, 39, 40, 41, 42, 43, 44, 45, 46, 47, 48, 49, 50, 51, 52, 53, 54, 55, 56, 57, 58, 59, 60, 61, 62, 63, 64, 65, 66, 71, 72, 73, 74, 75, 76, 77, 78, 79, 80, 81, 82] (by decide +kernel) (by decide +kernel)
set_option maxRecDepth 20000 in
theorem gX5_brings_X5_passes : GoodIn wsX5_brings (wsV RX5 109 RX5 yX5_passes wsX5_passes) := goodIn_app (goodIn_of _ (by decide +kernel)) ggX5_brings_X5_passes
set_option maxRecDepth 20000 in
theorem ggX5_brings_X5_giveBack : GoodIn wsX5_brings wsX5_giveBack := goodIn_r _ [70, 1, 7, 71, 72, 73, 74, 75, 76, 77, 78, 79, 80, 81, 82] (by decide +kernel) (by decide +kernel)
set_option maxRecDepth 20000 in
theorem gX5_brings_X5_giveBack : GoodIn wsX5_brings (wsV RX5 139 RX5 yX5_giveBack wsX5_giveBack) := goodIn_app (goodIn_of _ (by decide +kernel)) ggX5_brings_X5_giveBack
theorem dX5_brings_0 : decode cX5_brings 0 = .ok (.aload_n 0, 1) := by decide +kernel
theorem dX5_brings_1 : decode cX5_brings 1 = .ok (.invokevirtual 112, 3) := by decide +kernel
theorem dX5_brings_4 : decode cX5_brings 4 = .ok (.aload_n 0, 1) := by decide +kernel
theorem dX5_brings_5 : decode cX5_brings 5 = .ok (.getfield 7, 3) := by decide +kernel
theorem dX5_brings_8 : decode cX5_brings 8 = .ok (.iload_n 2, 1) := by decide +kernel
theorem dX5_brings_9 : decode cX5_brings 9 = .ok (.iaload, 1) := by decide +kernel
theorem dX5_brings_10 : decode cX5_brings 10 = .ok (.istore_n 3, 1) := by decide +kernel
theorem dX5_brings_11 : decode cX5_brings 11 = .ok (.aload_n 0, 1) := by decide +kernel
theorem dX5_brings_12 : decode cX5_brings 12 = .ok (.iload_n 1, 1) := by decide +kernel
theorem dX5_brings_13 : decode cX5_brings 13 = .ok (.invokevirtual 109, 3) := by decide +kernel
theorem dX5_brings_16 : decode cX5_brings 16 = .ok (.istore 4, 2) := by decide +kernel
theorem dX5_brings_18 : decode cX5_brings 18 = .ok (.aload_n 0, 1) := by decide +kernel
theorem dX5_brings_19 : decode cX5_brings 19 = .ok (.getfield 7, 3) := by decide +kernel
theorem dX5_brings_22 : decode cX5_brings 22 = .ok (.iload_n 2, 1) := by decide +kernel
theorem dX5_brings_23 : decode cX5_brings 23 = .ok (.iaload, 1) := by decide +kernel
theorem dX5_brings_24 : decode cX5_brings 24 = .ok (.iload_n 3, 1) := by decide +kernel
theorem dX5_brings_25 : decode cX5_brings 25 = .ok (.isub, 1) := by decide +kernel
theorem dX5_brings_26 : decode cX5_brings 26 = .ok (.istore 5, 2) := by decide +kernel
theorem dX5_brings_28 : decode cX5_brings 28 = .ok (.aload_n 0, 1) := by decide +kernel
theorem dX5_brings_29 : decode cX5_brings 29 = .ok (.invokevirtual 139, 3) := by decide +kernel
theorem dX5_brings_32 : decode cX5_brings 32 = .ok (.iload 5, 2) := by decide +kernel
theorem dX5_brings_34 : decode cX5_brings 34 = .ok (.ireturn, 1) := by decide +kernel
set_option maxRecDepth 20000 in
theorem ggX5_ifPass_X5_areTicks : GoodIn wsX5_ifPass wsX5_areTicks := goodIn_r _ [6, 7, 8, 9, 5, 10] (by decide +kernel) (by decide +kernel)
set_option maxRecDepth 20000 in
theorem gX5_ifPass_X5_areTicks : GoodIn wsX5_ifPass (va_wsS RX5 106 yX5_areTicks wsX5_areTicks) := goodIn_app (goodIn_of _ (by decide +kernel)) ggX5_ifPass_X5_areTicks
set_option maxRecDepth 20000 in
theorem ggX5_ifPass_X5_in : GoodIn wsX5_ifPass wsX5_in := goodIn_r _ [10] (by decide +kernel) (by decide +kernel)
set_option maxRecDepth 20000 in
theorem gX5_ifPass_X5_in : GoodIn wsX5_ifPass (va_wsS RX5 36 yX5_in wsX5_in) := goodIn_app (goodIn_of _ (by decide +kernel)) ggX5_ifPass_X5_in
set_option maxRecDepth 20000 in
theorem ggX5_ifPass_X5_brings : GoodIn wsX5_ifPass wsX5_brings := goodIn_r _ [14, 2, 15, 16, 17, 5, 18, 19, 20, 21, 22, 23, 24, 25, 26, 27, 28, 29, 30, 31, 32, 33, 34, 35, 36, 37, 38, 39, 40, 41, 42, 43, 44, 45, 46, 47, 48, 49, 50, 51, 52, 53, 54, 55, 56, 57, 58, 59, 60, 61, 62, 63, 64, 65, 66, 67, 68, 69, 70, 71, 72, 73, 74, 75, 8, 9, 10, 76, 77, 78, 79, 80, 81, 82, 83, 84, 85, 86, 87, 88, 89, 90, 91] (by decide +kernel) (by decide +kernel)
set_option maxRecDepth 20000 in
theorem gX5_ifPass_X5_brings : GoodIn wsX5_ifPass (wsV RX5 144 RX5 yX5_brings wsX5_brings) := goodIn_app (goodIn_of _ (by decide +kernel)) ggX5_ifPass_X5_brings
theorem dX5_ifPass_0 : decode cX5_ifPass 0 = .ok (.iload_n 1, 1) := by decide +kernel
theorem dX5_ifPass_1 : decode cX5_ifPass 1 = .ok (.invokestatic 106, 3) := by decide +kernel
theorem dX5_ifPass_4 : decode cX5_ifPass 4 = .ok (.ifCond .eq 15, 3) := by decide +kernel
theorem dX5_ifPass_7 : decode cX5_ifPass 7 = .ok (.iload_n 2, 1) := by decide +kernel
theorem dX5_ifPass_8 : decode cX5_ifPass 8 = .ok (.i2l, 1) := by decide +kernel
theorem dX5_ifPass_9 : decode cX5_ifPass 9 = .ok (.lconst 0, 1) := by decide +kernel
theorem dX5_ifPass_10 : decode cX5_ifPass 10 = .ok (.ldc2_w 142, 3) := by decide +kernel
theorem dX5_ifPass_13 : decode cX5_ifPass 13 = .ok (.invokestatic 36, 3) := by decide +kernel
theorem dX5_ifPass_16 : decode cX5_ifPass 16 = .ok (.ifCond .ne 6, 3) := by decide +kernel
theorem dX5_ifPass_19 : decode cX5_ifPass 19 = .ok (.bipush (-2), 2) := by decide +kernel
theorem dX5_ifPass_21 : decode cX5_ifPass 21 = .ok (.ireturn, 1) := by decide +kernel
theorem dX5_ifPass_22 : decode cX5_ifPass 22 = .ok (.iload_n 2, 1) := by decide +kernel
theorem dX5_ifPass_23 : decode cX5_ifPass 23 = .ok (.tableswitch 69 3 6 #[29, 37, 45, 53], 29) := by decide +kernel
theorem dX5_ifPass_52 : decode cX5_ifPass 52 = .ok (.aload_n 0, 1) := by decide +kernel
theorem dX5_ifPass_53 : decode cX5_ifPass 53 = .ok (.iload_n 1, 1) := by decide +kernel
theorem dX5_ifPass_54 : decode cX5_ifPass 54 = .ok (.bipush 17, 2) := by decide +kernel
theorem dX5_ifPass_56 : decode cX5_ifPass 56 = .ok (.invokevirtual 144, 3) := by decide +kernel
theorem dX5_ifPass_59 : decode cX5_ifPass 59 = .ok (.ireturn, 1) := by decide +kernel
theorem dX5_ifPass_60 : decode cX5_ifPass 60 = .ok (.aload_n 0, 1) := by decide +kernel
theorem dX5_ifPass_61 : decode cX5_ifPass 61 = .ok (.iload_n 1, 1) := by decide +kernel
theorem dX5_ifPass_62 : decode cX5_ifPass 62 = .ok (.bipush 14, 2) := by decide +kernel
theorem dX5_ifPass_64 : decode cX5_ifPass 64 = .ok (.invokevirtual 144, 3) := by decide +kernel
theorem dX5_ifPass_67 : decode cX5_ifPass 67 = .ok (.ireturn, 1) := by decide +kernel
theorem dX5_ifPass_68 : decode cX5_ifPass 68 = .ok (.aload_n 0, 1) := by decide +kernel
theorem dX5_ifPass_69 : decode cX5_ifPass 69 = .ok (.iload_n 1, 1) := by decide +kernel
theorem dX5_ifPass_70 : decode cX5_ifPass 70 = .ok (.bipush 15, 2) := by decide +kernel
theorem dX5_ifPass_72 : decode cX5_ifPass 72 = .ok (.invokevirtual 144, 3) := by decide +kernel
theorem dX5_ifPass_75 : decode cX5_ifPass 75 = .ok (.ireturn, 1) := by decide +kernel
theorem dX5_ifPass_76 : decode cX5_ifPass 76 = .ok (.aload_n 0, 1) := by decide +kernel
theorem dX5_ifPass_77 : decode cX5_ifPass 77 = .ok (.getfield 7, 3) := by decide +kernel
theorem dX5_ifPass_80 : decode cX5_ifPass 80 = .ok (.bipush 18, 2) := by decide +kernel
theorem dX5_ifPass_82 : decode cX5_ifPass 82 = .ok (.iaload, 1) := by decide +kernel
theorem dX5_ifPass_83 : decode cX5_ifPass 83 = .ok (.aload_n 0, 1) := by decide +kernel
theorem dX5_ifPass_84 : decode cX5_ifPass 84 = .ok (.iload_n 1, 1) := by decide +kernel
theorem dX5_ifPass_85 : decode cX5_ifPass 85 = .ok (.bipush 18, 2) := by decide +kernel
theorem dX5_ifPass_87 : decode cX5_ifPass 87 = .ok (.invokevirtual 144, 3) := by decide +kernel
theorem dX5_ifPass_90 : decode cX5_ifPass 90 = .ok (.iadd, 1) := by decide +kernel
theorem dX5_ifPass_91 : decode cX5_ifPass 91 = .ok (.ireturn, 1) := by decide +kernel
theorem dX5_ifPass_92 : decode cX5_ifPass 92 = .ok (.aload_n 0, 1) := by decide +kernel
theorem dX5_ifPass_93 : decode cX5_ifPass 93 = .ok (.iload_n 1, 1) := by decide +kernel
theorem dX5_ifPass_94 : decode cX5_ifPass 94 = .ok (.bipush 11, 2) := by decide +kernel
theorem dX5_ifPass_96 : decode cX5_ifPass 96 = .ok (.iload_n 2, 1) := by decide +kernel
theorem dX5_ifPass_97 : decode cX5_ifPass 97 = .ok (.iadd, 1) := by decide +kernel
theorem dX5_ifPass_98 : decode cX5_ifPass 98 = .ok (.invokevirtual 144, 3) := by decide +kernel
theorem dX5_ifPass_101 : decode cX5_ifPass 101 = .ok (.ireturn, 1) := by decide +kernel
set_option maxRecDepth 20000 in
theorem ggX5_bestGuess_X5_areTicks : GoodIn wsX5_bestGuess wsX5_areTicks := goodIn_r _ [5, 6, 7, 8, 4, 9] (by decide +kernel) (by decide +kernel)
set_option maxRecDepth 20000 in
theorem gX5_bestGuess_X5_areTicks : GoodIn wsX5_bestGuess (va_wsS RX5 106 yX5_areTicks wsX5_areTicks) := goodIn_app (goodIn_of _ (by decide +kernel)) ggX5_bestGuess_X5_areTicks
set_option maxRecDepth 20000 in
theorem ggX5_bestGuess_X5_in : GoodIn wsX5_bestGuess wsX5_in := goodIn_r _ [9] (by decide +kernel) (by decide +kernel)
set_option maxRecDepth 20000 in
theorem gX5_bestGuess_X5_in : GoodIn wsX5_bestGuess (va_wsS RX5 36 yX5_in wsX5_in) := goodIn_app (goodIn_of _ (by decide +kernel)) ggX5_bestGuess_X5_in
set_option maxRecDepth 20000 in
theorem ggX5_bestGuess_X5_brings : GoodIn wsX5_bestGuess wsX5_brings := goodIn_r _ [13, 1, 14, 15, 16, 4, 17, 18, 19, 20, 21, 22, 23, 24, 25, 26, 27, 28, 29, 30, 31, 32, 33, 34, 35, 36, 37, 38, 39, 40, 41, 42, 43, 44, 45, 46, 47, 48, 49, 50, 51, 52, 53, 54, 55, 56, 57, 58, 59, 60, 61, 62, 63, 64, 65, 66, 67, 68, 69, 70, 71, 72, 73, 74, 7, 8, 9, 75, 76, 77, 78, 79, 80, 81, 82, 83, 84, 85, 86, 87, 88, 89, 90] (by decide +kernel) (by decide +kernel)
set_option maxRecDepth 20000 in
theorem gX5_bestGuess_X5_brings : GoodIn wsX5_bestGuess (wsV RX5 144 RX5 yX5_brings wsX5_brings) := goodIn_app (goodIn_of _ (by decide +kernel)) ggX5_bestGuess_X5_brings
theorem dX5_bestGuess_0 : decode cX5_bestGuess 0 = .ok (.iload_n 1, 1) := by decide +kernel
theorem dX5_bestGuess_1 : decode cX5_bestGuess 1 = .ok (.invokestatic 106, 3) := by decide +kernel
theorem dX5_bestGuess_4 : decode cX5_bestGuess 4 = .ok (.ifCond .eq 13, 3) := by decide +kernel
theorem dX5_bestGuess_7 : decode cX5_bestGuess 7 = .ok (.iload_n 2, 1) := by decide +kernel
theorem dX5_bestGuess_8 : decode cX5_bestGuess 8 = .ok (.i2l, 1) := by decide +kernel
theorem dX5_bestGuess_9 : decode cX5_bestGuess 9 = .ok (.lconst 0, 1) := by decide +kernel
theorem dX5_bestGuess_10 : decode cX5_bestGuess 10 = .ok (.lconst 1, 1) := by decide +kernel
theorem dX5_bestGuess_11 : decode cX5_bestGuess 11 = .ok (.invokestatic 36, 3) := by decide +kernel
theorem dX5_bestGuess_14 : decode cX5_bestGuess 14 = .ok (.ifCond .ne 6, 3) := by decide +kernel
theorem dX5_bestGuess_17 : decode cX5_bestGuess 17 = .ok (.bipush (-2), 2) := by decide +kernel
theorem dX5_bestGuess_19 : decode cX5_bestGuess 19 = .ok (.ireturn, 1) := by decide +kernel
theorem dX5_bestGuess_20 : decode cX5_bestGuess 20 = .ok (.aload_n 0, 1) := by decide +kernel
theorem dX5_bestGuess_21 : decode cX5_bestGuess 21 = .ok (.getfield 7, 3) := by decide +kernel
theorem dX5_bestGuess_24 : decode cX5_bestGuess 24 = .ok (.iconst 2, 1) := by decide +kernel
theorem dX5_bestGuess_25 : decode cX5_bestGuess 25 = .ok (.iaload, 1) := by decide +kernel
theorem dX5_bestGuess_26 : decode cX5_bestGuess 26 = .ok (.istore_n 3, 1) := by decide +kernel
theorem dX5_bestGuess_27 : decode cX5_bestGuess 27 = .ok (.iconst 0, 1) := by decide +kernel
theorem dX5_bestGuess_28 : decode cX5_bestGuess 28 = .ok (.istore 4, 2) := by decide +kernel
theorem dX5_bestGuess_30 : decode cX5_bestGuess 30 = .ok (.iconst (-1), 1) := by decide +kernel
theorem dX5_bestGuess_31 : decode cX5_bestGuess 31 = .ok (.istore 5, 2) := by decide +kernel
theorem dX5_bestGuess_33 : decode cX5_bestGuess 33 = .ok (.iconst 0, 1) := by decide +kernel
theorem dX5_bestGuess_34 : decode cX5_bestGuess 34 = .ok (.istore 6, 2) := by decide +kernel
theorem dX5_bestGuess_36 : decode cX5_bestGuess 36 = .ok (.iload 6, 2) := by decide +kernel
theorem dX5_bestGuess_38 : decode cX5_bestGuess 38 = .ok (.iconst 5, 1) := by decide +kernel
theorem dX5_bestGuess_39 : decode cX5_bestGuess 39 = .ok (.if_icmp .gt 58, 3) := by decide +kernel
theorem dX5_bestGuess_42 : decode cX5_bestGuess 42 = .ok (.aload_n 0, 1) := by decide +kernel
theorem dX5_bestGuess_43 : decode cX5_bestGuess 43 = .ok (.getfield 7, 3) := by decide +kernel
theorem dX5_bestGuess_46 : decode cX5_bestGuess 46 = .ok (.iconst 2, 1) := by decide +kernel
theorem dX5_bestGuess_47 : decode cX5_bestGuess 47 = .ok (.iload 6, 2) := by decide +kernel
theorem dX5_bestGuess_49 : decode cX5_bestGuess 49 = .ok (.iastore, 1) := by decide +kernel
theorem dX5_bestGuess_50 : decode cX5_bestGuess 50 = .ok (.aload_n 0, 1) := by decide +kernel
theorem dX5_bestGuess_51 : decode cX5_bestGuess 51 = .ok (.iload_n 1, 1) := by decide +kernel
theorem dX5_bestGuess_52 : decode cX5_bestGuess 52 = .ok (.bipush 11, 2) := by decide +kernel
theorem dX5_bestGuess_54 : decode cX5_bestGuess 54 = .ok (.invokevirtual 144, 3) := by decide +kernel
theorem dX5_bestGuess_57 : decode cX5_bestGuess 57 = .ok (.istore 7, 2) := by decide +kernel
theorem dX5_bestGuess_59 : decode cX5_bestGuess 59 = .ok (.iload 7, 2) := by decide +kernel
theorem dX5_bestGuess_61 : decode cX5_bestGuess 61 = .ok (.iload 5, 2) := by decide +kernel
theorem dX5_bestGuess_63 : decode cX5_bestGuess 63 = .ok (.if_icmp .le 8, 3) := by decide +kernel
theorem dX5_bestGuess_66 : decode cX5_bestGuess 66 = .ok (.iload 6, 2) := by decide +kernel
theorem dX5_bestGuess_68 : decode cX5_bestGuess 68 = .ok (.goto 5, 3) := by decide +kernel
theorem dX5_bestGuess_71 : decode cX5_bestGuess 71 = .ok (.iload 4, 2) := by decide +kernel
theorem dX5_bestGuess_73 : decode cX5_bestGuess 73 = .ok (.istore 4, 2) := by decide +kernel
theorem dX5_bestGuess_75 : decode cX5_bestGuess 75 = .ok (.iload 7, 2) := by decide +kernel
theorem dX5_bestGuess_77 : decode cX5_bestGuess 77 = .ok (.iload 5, 2) := by decide +kernel
theorem dX5_bestGuess_79 : decode cX5_bestGuess 79 = .ok (.if_icmp .le 8, 3) := by decide +kernel
theorem dX5_bestGuess_82 : decode cX5_bestGuess 82 = .ok (.iload 7, 2) := by decide +kernel
theorem dX5_bestGuess_84 : decode cX5_bestGuess 84 = .ok (.goto 5, 3) := by decide +kernel
theorem dX5_bestGuess_87 : decode cX5_bestGuess 87 = .ok (.iload 5, 2) := by decide +kernel
theorem dX5_bestGuess_89 : decode cX5_bestGuess 89 = .ok (.istore 5, 2) := by decide +kernel
theorem dX5_bestGuess_91 : decode cX5_bestGuess 91 = .ok (.iinc 6 1, 3) := by decide +kernel
theorem dX5_bestGuess_94 : decode cX5_bestGuess 94 = .ok (.goto (-58), 3) := by decide +kernel
theorem dX5_bestGuess_97 : decode cX5_bestGuess 97 = .ok (.aload_n 0, 1) := by decide +kernel
theorem dX5_bestGuess_98 : decode cX5_bestGuess 98 = .ok (.getfield 7, 3) := by decide +kernel
theorem dX5_bestGuess_101 : decode cX5_bestGuess 101 = .ok (.iconst 2, 1) := by decide +kernel
theorem dX5_bestGuess_102 : decode cX5_bestGuess 102 = .ok (.iload_n 3, 1) := by decide +kernel
theorem dX5_bestGuess_103 : decode cX5_bestGuess 103 = .ok (.iastore, 1) := by decide +kernel
theorem dX5_bestGuess_104 : decode cX5_bestGuess 104 = .ok (.iload_n 2, 1) := by decide +kernel
theorem dX5_bestGuess_105 : decode cX5_bestGuess 105 = .ok (.ifCond .ne 8, 3) := by decide +kernel
theorem dX5_bestGuess_108 : decode cX5_bestGuess 108 = .ok (.iload 4, 2) := by decide +kernel
theorem dX5_bestGuess_110 : decode cX5_bestGuess 110 = .ok (.goto 5, 3) := by decide +kernel
theorem dX5_bestGuess_113 : decode cX5_bestGuess 113 = .ok (.iload 5, 2) := by decide +kernel
theorem dX5_bestGuess_115 : decode cX5_bestGuess 115 = .ok (.ireturn, 1) := by decide +kernel
set_option maxRecDepth 20000 in
theorem ggX5_neededSlack_X5_areTicks : GoodIn wsX5_neededSlack wsX5_areTicks := goodIn_r _ [5, 6, 7, 8, 4, 9] (by decide +kernel) (by decide +kernel)
set_option maxRecDepth 20000 in
theorem gX5_neededSlack_X5_areTicks : GoodIn wsX5_neededSlack (va_wsS RX5 106 yX5_areTicks wsX5_areTicks) := goodIn_app (goodIn_of _ (by decide +kernel)) ggX5_neededSlack_X5_areTicks
set_option maxRecDepth 20000 in
theorem ggX5_neededSlack_X5_brings : GoodIn wsX5_neededSlack wsX5_brings := goodIn_r _ [13, 1, 14, 15, 16, 4, 17, 18, 19, 20, 21, 22, 23, 24, 25, 26, 27, 28, 29, 30, 31, 32, 33, 34, 35, 36, 37, 38, 39, 40, 41, 42, 43, 44, 45, 46, 47, 48, 49, 50, 51, 52, 53, 54, 55, 56, 57, 58, 59, 60, 61, 62, 63, 64, 65, 66, 67, 68, 69, 70, 71, 72, 73, 74, 7, 8, 9, 75, 76, 77, 78, 79, 80, 81, 82, 83, 84, 85, 86, 87, 88, 89, 90] (by decide +kernel) (by decide +kernel)
set_option maxRecDepth 20000 in
theorem gX5_neededSlack_X5_brings : GoodIn wsX5_neededSlack (wsV RX5 144 RX5 yX5_brings wsX5_brings) := goodIn_app (goodIn_of _ (by decide +kernel)) ggX5_neededSlack_X5_brings
theorem dX5_neededSlack_0 : decode cX5_neededSlack 0 = .ok (.iload_n 1, 1) := by decide +kernel
theorem dX5_neededSlack_1 : decode cX5_neededSlack 1 = .ok (.invokestatic 106, 3) := by decide +kernel
theorem dX5_neededSlack_4 : decode cX5_neededSlack 4 = .ok (.ifCond .ne 6, 3) := by decide +kernel
theorem dX5_neededSlack_7 : decode cX5_neededSlack 7 = .ok (.bipush (-2), 2) := by decide +kernel
theorem dX5_neededSlack_9 : decode cX5_neededSlack 9 = .ok (.ireturn, 1) := by decide +kernel
theorem dX5_neededSlack_10 : decode cX5_neededSlack 10 = .ok (.aload_n 0, 1) := by decide +kernel
theorem dX5_neededSlack_11 : decode cX5_neededSlack 11 = .ok (.getfield 7, 3) := by decide +kernel
theorem dX5_neededSlack_14 : decode cX5_neededSlack 14 = .ok (.bipush 18, 2) := by decide +kernel
theorem dX5_neededSlack_16 : decode cX5_neededSlack 16 = .ok (.iaload, 1) := by decide +kernel
theorem dX5_neededSlack_17 : decode cX5_neededSlack 17 = .ok (.istore_n 2, 1) := by decide +kernel
theorem dX5_neededSlack_18 : decode cX5_neededSlack 18 = .ok (.bipush (-6), 2) := by decide +kernel
theorem dX5_neededSlack_20 : decode cX5_neededSlack 20 = .ok (.istore_n 3, 1) := by decide +kernel
theorem dX5_neededSlack_21 : decode cX5_neededSlack 21 = .ok (.bipush 60, 2) := by decide +kernel
theorem dX5_neededSlack_23 : decode cX5_neededSlack 23 = .ok (.istore 4, 2) := by decide +kernel
theorem dX5_neededSlack_25 : decode cX5_neededSlack 25 = .ok (.iload 4, 2) := by decide +kernel
theorem dX5_neededSlack_27 : decode cX5_neededSlack 27 = .ok (.ifCond .lt 35, 3) := by decide +kernel
theorem dX5_neededSlack_30 : decode cX5_neededSlack 30 = .ok (.aload_n 0, 1) := by decide +kernel
theorem dX5_neededSlack_31 : decode cX5_neededSlack 31 = .ok (.getfield 7, 3) := by decide +kernel
theorem dX5_neededSlack_34 : decode cX5_neededSlack 34 = .ok (.bipush 18, 2) := by decide +kernel
theorem dX5_neededSlack_36 : decode cX5_neededSlack 36 = .ok (.iload 4, 2) := by decide +kernel
theorem dX5_neededSlack_38 : decode cX5_neededSlack 38 = .ok (.iastore, 1) := by decide +kernel
theorem dX5_neededSlack_39 : decode cX5_neededSlack 39 = .ok (.aload_n 0, 1) := by decide +kernel
theorem dX5_neededSlack_40 : decode cX5_neededSlack 40 = .ok (.iload_n 1, 1) := by decide +kernel
theorem dX5_neededSlack_41 : decode cX5_neededSlack 41 = .ok (.bipush 17, 2) := by decide +kernel
theorem dX5_neededSlack_43 : decode cX5_neededSlack 43 = .ok (.invokevirtual 144, 3) := by decide +kernel
theorem dX5_neededSlack_46 : decode cX5_neededSlack 46 = .ok (.ifCond .ne 8, 3) := by decide +kernel
theorem dX5_neededSlack_49 : decode cX5_neededSlack 49 = .ok (.iload 4, 2) := by decide +kernel
theorem dX5_neededSlack_51 : decode cX5_neededSlack 51 = .ok (.goto 4, 3) := by decide +kernel
theorem dX5_neededSlack_54 : decode cX5_neededSlack 54 = .ok (.iload_n 3, 1) := by decide +kernel
theorem dX5_neededSlack_55 : decode cX5_neededSlack 55 = .ok (.istore_n 3, 1) := by decide +kernel
theorem dX5_neededSlack_56 : decode cX5_neededSlack 56 = .ok (.iinc 4 (-1), 3) := by decide +kernel
theorem dX5_neededSlack_59 : decode cX5_neededSlack 59 = .ok (.goto (-34), 3) := by decide +kernel
theorem dX5_neededSlack_62 : decode cX5_neededSlack 62 = .ok (.aload_n 0, 1) := by decide +kernel
theorem dX5_neededSlack_63 : decode cX5_neededSlack 63 = .ok (.getfield 7, 3) := by decide +kernel
theorem dX5_neededSlack_66 : decode cX5_neededSlack 66 = .ok (.bipush 18, 2) := by decide +kernel
theorem dX5_neededSlack_68 : decode cX5_neededSlack 68 = .ok (.iload_n 2, 1) := by decide +kernel
theorem dX5_neededSlack_69 : decode cX5_neededSlack 69 = .ok (.iastore, 1) := by decide +kernel
theorem dX5_neededSlack_70 : decode cX5_neededSlack 70 = .ok (.iload_n 3, 1) := by decide +kernel
theorem dX5_neededSlack_71 : decode cX5_neededSlack 71 = .ok (.ireturn, 1) := by decide +kernel
set_option maxRecDepth 20000 in
theorem ggX5_put__X5_in : GoodIn wsX5_put_ wsX5_in := goodIn_r _ [9] (by decide +kernel) (by decide +kernel)
set_option maxRecDepth 20000 in
theorem gX5_put__X5_in : GoodIn wsX5_put_ (va_wsS RX5 36 yX5_in wsX5_in) := goodIn_app (goodIn_of _ (by decide +kernel)) ggX5_put__X5_in
theorem dX5_put__0 : decode cX5_put_ 0 = .ok (.iconst 0, 1) := by decide +kernel
theorem dX5_put__1 : decode cX5_put_ 1 = .ok (.istore_n 3, 1) := by decide +kernel
theorem dX5_put__2 : decode cX5_put_ 2 = .ok (.iconst 1, 1) := by decide +kernel
theorem dX5_put__3 : decode cX5_put_ 3 = .ok (.istore 4, 2) := by decide +kernel
theorem dX5_put__5 : decode cX5_put_ 5 = .ok (.lload_n 1, 1) := by decide +kernel
theorem dX5_put__6 : decode cX5_put_ 6 = .ok (.lstore 5, 2) := by decide +kernel
theorem dX5_put__8 : decode cX5_put_ 8 = .ok (.iload_n 3, 1) := by decide +kernel
theorem dX5_put__9 : decode cX5_put_ 9 = .ok (.bipush 8, 2) := by decide +kernel
theorem dX5_put__11 : decode cX5_put_ 11 = .ok (.if_icmp .ge 57, 3) := by decide +kernel
theorem dX5_put__14 : decode cX5_put_ 14 = .ok (.lload 5, 2) := by decide +kernel
theorem dX5_put__16 : decode cX5_put_ 16 = .ok (.ldc2_w 147, 3) := by decide +kernel
theorem dX5_put__19 : decode cX5_put_ 19 = .ok (.land, 1) := by decide +kernel
theorem dX5_put__20 : decode cX5_put_ 20 = .ok (.lconst 0, 1) := by decide +kernel
theorem dX5_put__21 : decode cX5_put_ 21 = .ok (.lcmp, 1) := by decide +kernel
theorem dX5_put__22 : decode cX5_put_ 22 = .ok (.ifCond .eq 46, 3) := by decide +kernel
theorem dX5_put__25 : decode cX5_put_ 25 = .ok (.iload 4, 2) := by decide +kernel
theorem dX5_put__27 : decode cX5_put_ 27 = .ok (.ifCond .eq 25, 3) := by decide +kernel
theorem dX5_put__30 : decode cX5_put_ 30 = .ok (.lload 5, 2) := by decide +kernel
theorem dX5_put__32 : decode cX5_put_ 32 = .ok (.ldc2_w 147, 3) := by decide +kernel
theorem dX5_put__35 : decode cX5_put_ 35 = .ok (.land, 1) := by decide +kernel
theorem dX5_put__36 : decode cX5_put_ 36 = .ok (.ldc2_w 149, 3) := by decide +kernel
theorem dX5_put__39 : decode cX5_put_ 39 = .ok (.ldc2_w 151, 3) := by decide +kernel
theorem dX5_put__42 : decode cX5_put_ 42 = .ok (.invokestatic 36, 3) := by decide +kernel
theorem dX5_put__45 : decode cX5_put_ 45 = .ok (.ifCond .eq 7, 3) := by decide +kernel
theorem dX5_put__48 : decode cX5_put_ 48 = .ok (.iconst 1, 1) := by decide +kernel
theorem dX5_put__49 : decode cX5_put_ 49 = .ok (.goto 4, 3) := by decide +kernel
theorem dX5_put__52 : decode cX5_put_ 52 = .ok (.iconst 0, 1) := by decide +kernel
theorem dX5_put__53 : decode cX5_put_ 53 = .ok (.istore 4, 2) := by decide +kernel
theorem dX5_put__55 : decode cX5_put_ 55 = .ok (.lload 5, 2) := by decide +kernel
theorem dX5_put__57 : decode cX5_put_ 57 = .ok (.bipush 8, 2) := by decide +kernel
theorem dX5_put__59 : decode cX5_put_ 59 = .ok (.lushr, 1) := by decide +kernel
theorem dX5_put__60 : decode cX5_put_ 60 = .ok (.lstore 5, 2) := by decide +kernel
theorem dX5_put__62 : decode cX5_put_ 62 = .ok (.iinc 3 1, 3) := by decide +kernel
theorem dX5_put__65 : decode cX5_put_ 65 = .ok (.goto (-57), 3) := by decide +kernel
theorem dX5_put__68 : decode cX5_put_ 68 = .ok (.iload_n 3, 1) := by decide +kernel
theorem dX5_put__69 : decode cX5_put_ 69 = .ok (.ifCond .eq 15, 3) := by decide +kernel
theorem dX5_put__72 : decode cX5_put_ 72 = .ok (.lload 5, 2) := by decide +kernel
theorem dX5_put__74 : decode cX5_put_ 74 = .ok (.lconst 0, 1) := by decide +kernel
theorem dX5_put__75 : decode cX5_put_ 75 = .ok (.lcmp, 1) := by decide +kernel
theorem dX5_put__76 : decode cX5_put_ 76 = .ok (.ifCond .ne 8, 3) := by decide +kernel
theorem dX5_put__79 : decode cX5_put_ 79 = .ok (.iload 4, 2) := by decide +kernel
theorem dX5_put__81 : decode cX5_put_ 81 = .ok (.ifCond .ne 6, 3) := by decide +kernel
theorem dX5_put__84 : decode cX5_put_ 84 = .ok (.bipush (-2), 2) := by decide +kernel
theorem dX5_put__86 : decode cX5_put_ 86 = .ok (.ireturn, 1) := by decide +kernel
theorem dX5_put__87 : decode cX5_put_ 87 = .ok (.aload_n 0, 1) := by decide +kernel
theorem dX5_put__88 : decode cX5_put_ 88 = .ok (.getfield 136, 3) := by decide +kernel
theorem dX5_put__91 : decode cX5_put_ 91 = .ok (.iload_n 3, 1) := by decide +kernel
theorem dX5_put__92 : decode cX5_put_ 92 = .ok (.iadd, 1) := by decide +kernel
theorem dX5_put__93 : decode cX5_put_ 93 = .ok (.bipush 60, 2) := by decide +kernel
theorem dX5_put__95 : decode cX5_put_ 95 = .ok (.if_icmp .le 6, 3) := by decide +kernel
theorem dX5_put__98 : decode cX5_put_ 98 = .ok (.bipush (-4), 2) := by decide +kernel
theorem dX5_put__100 : decode cX5_put_ 100 = .ok (.ireturn, 1) := by decide +kernel
theorem dX5_put__101 : decode cX5_put_ 101 = .ok (.iload_n 3, 1) := by decide +kernel
theorem dX5_put__102 : decode cX5_put_ 102 = .ok (.iconst 1, 1) := by decide +kernel
theorem dX5_put__103 : decode cX5_put_ 103 = .ok (.isub, 1) := by decide +kernel
theorem dX5_put__104 : decode cX5_put_ 104 = .ok (.istore 7, 2) := by decide +kernel
theorem dX5_put__106 : decode cX5_put_ 106 = .ok (.iload 7, 2) := by decide +kernel
theorem dX5_put__108 : decode cX5_put_ 108 = .ok (.ifCond .lt 40, 3) := by decide +kernel
theorem dX5_put__111 : decode cX5_put_ 111 = .ok (.aload_n 0, 1) := by decide +kernel
theorem dX5_put__112 : decode cX5_put_ 112 = .ok (.getfield 25, 3) := by decide +kernel
theorem dX5_put__115 : decode cX5_put_ 115 = .ok (.aload_n 0, 1) := by decide +kernel
theorem dX5_put__116 : decode cX5_put_ 116 = .ok (.getfield 136, 3) := by decide +kernel
theorem dX5_put__119 : decode cX5_put_ 119 = .ok (.lload_n 1, 1) := by decide +kernel
theorem dX5_put__120 : decode cX5_put_ 120 = .ok (.bipush 8, 2) := by decide +kernel
theorem dX5_put__122 : decode cX5_put_ 122 = .ok (.iload 7, 2) := by decide +kernel
theorem dX5_put__124 : decode cX5_put_ 124 = .ok (.imul, 1) := by decide +kernel
theorem dX5_put__125 : decode cX5_put_ 125 = .ok (.lushr, 1) := by decide +kernel
theorem dX5_put__126 : decode cX5_put_ 126 = .ok (.ldc2_w 147, 3) := by decide +kernel
theorem dX5_put__129 : decode cX5_put_ 129 = .ok (.land, 1) := by decide +kernel
theorem dX5_put__130 : decode cX5_put_ 130 = .ok (.l2i, 1) := by decide +kernel
theorem dX5_put__131 : decode cX5_put_ 131 = .ok (.iastore, 1) := by decide +kernel
theorem dX5_put__132 : decode cX5_put_ 132 = .ok (.aload_n 0, 1) := by decide +kernel
theorem dX5_put__133 : decode cX5_put_ 133 = .ok (.dup, 1) := by decide +kernel
theorem dX5_put__134 : decode cX5_put_ 134 = .ok (.getfield 136, 3) := by decide +kernel
theorem dX5_put__137 : decode cX5_put_ 137 = .ok (.iconst 1, 1) := by decide +kernel
theorem dX5_put__138 : decode cX5_put_ 138 = .ok (.iadd, 1) := by decide +kernel
theorem dX5_put__139 : decode cX5_put_ 139 = .ok (.putfield 136, 3) := by decide +kernel
theorem dX5_put__142 : decode cX5_put_ 142 = .ok (.iinc 7 (-1), 3) := by decide +kernel
theorem dX5_put__145 : decode cX5_put_ 145 = .ok (.goto (-39), 3) := by decide +kernel
theorem dX5_put__148 : decode cX5_put_ 148 = .ok (.aload_n 0, 1) := by decide +kernel
theorem dX5_put__149 : decode cX5_put_ 149 = .ok (.getfield 136, 3) := by decide +kernel
theorem dX5_put__152 : decode cX5_put_ 152 = .ok (.ireturn, 1) := by decide +kernel
theorem dX5_wipe_0 : decode cX5_wipe 0 = .ok (.aload_n 0, 1) := by decide +kernel
theorem dX5_wipe_1 : decode cX5_wipe 1 = .ok (.getfield 136, 3) := by decide +kernel
theorem dX5_wipe_4 : decode cX5_wipe 4 = .ok (.istore_n 1, 1) := by decide +kernel
theorem dX5_wipe_5 : decode cX5_wipe 5 = .ok (.aload_n 0, 1) := by decide +kernel
theorem dX5_wipe_6 : decode cX5_wipe 6 = .ok (.iconst 0, 1) := by decide +kernel
theorem dX5_wipe_7 : decode cX5_wipe 7 = .ok (.putfield 136, 3) := by decide +kernel
theorem dX5_wipe_10 : decode cX5_wipe 10 = .ok (.iload_n 1, 1) := by decide +kernel
theorem dX5_wipe_11 : decode cX5_wipe 11 = .ok (.ireturn, 1) := by decide +kernel
set_option maxRecDepth 20000 in
theorem ggX5_isHere_X5_in : GoodIn wsX5_isHere wsX5_in := goodIn_r _ [7] (by decide +kernel) (by decide +kernel)
set_option maxRecDepth 20000 in
theorem gX5_isHere_X5_in : GoodIn wsX5_isHere (va_wsS RX5 36 yX5_in wsX5_in) := goodIn_app (goodIn_of _ (by decide +kernel)) ggX5_isHere_X5_in
theorem dX5_isHere_0 : decode cX5_isHere 0 = .ok (.aload_n 0, 1) := by decide +kernel
theorem dX5_isHere_1 : decode cX5_isHere 1 = .ok (.getfield 153, 3) := by decide +kernel
theorem dX5_isHere_4 : decode cX5_isHere 4 = .ok (.aload_n 0, 1) := by decide +kernel
theorem dX5_isHere_5 : decode cX5_isHere 5 = .ok (.getfield 136, 3) := by decide +kernel
theorem dX5_isHere_8 : decode cX5_isHere 8 = .ok (.if_icmp .ge 27, 3) := by decide +kernel
theorem dX5_isHere_11 : decode cX5_isHere 11 = .ok (.aload_n 0, 1) := by decide +kernel
theorem dX5_isHere_12 : decode cX5_isHere 12 = .ok (.getfield 25, 3) := by decide +kernel
theorem dX5_isHere_15 : decode cX5_isHere 15 = .ok (.aload_n 0, 1) := by decide +kernel
theorem dX5_isHere_16 : decode cX5_isHere 16 = .ok (.getfield 153, 3) := by decide +kernel
theorem dX5_isHere_19 : decode cX5_isHere 19 = .ok (.iaload, 1) := by decide +kernel
theorem dX5_isHere_20 : decode cX5_isHere 20 = .ok (.i2l, 1) := by decide +kernel
theorem dX5_isHere_21 : decode cX5_isHere 21 = .ok (.iload_n 1, 1) := by decide +kernel
theorem dX5_isHere_22 : decode cX5_isHere 22 = .ok (.i2l, 1) := by decide +kernel
theorem dX5_isHere_23 : decode cX5_isHere 23 = .ok (.iload_n 2, 1) := by decide +kernel
theorem dX5_isHere_24 : decode cX5_isHere 24 = .ok (.i2l, 1) := by decide +kernel
theorem dX5_isHere_25 : decode cX5_isHere 25 = .ok (.invokestatic 36, 3) := by decide +kernel
theorem dX5_isHere_28 : decode cX5_isHere 28 = .ok (.ifCond .eq 7, 3) := by decide +kernel
theorem dX5_isHere_31 : decode cX5_isHere 31 = .ok (.iconst 1, 1) := by decide +kernel
theorem dX5_isHere_32 : decode cX5_isHere 32 = .ok (.goto 4, 3) := by decide +kernel
theorem dX5_isHere_35 : decode cX5_isHere 35 = .ok (.iconst 0, 1) := by decide +kernel
theorem dX5_isHere_36 : decode cX5_isHere 36 = .ok (.ireturn, 1) := by decide +kernel
set_option maxRecDepth 20000 in
theorem ggX5_takes_X5_isHere : GoodIn wsX5_takes wsX5_isHere := goodIn_r _ [6, 1, 7, 8, 9, 10, 5, 11, 12, 13, 14, 15, 16, 17, 18, 19, 20, 21, 22, 23] (by decide +kernel) (by decide +kernel)
set_option maxRecDepth 20000 in
theorem gX5_takes_X5_isHere : GoodIn wsX5_takes (wsV RX5 156 RX5 yX5_isHere wsX5_isHere) := goodIn_app (goodIn_of _ (by decide +kernel)) ggX5_takes_X5_isHere
theorem dX5_takes_0 : decode cX5_takes 0 = .ok (.aload_n 0, 1) := by decide +kernel
theorem dX5_takes_1 : decode cX5_takes 1 = .ok (.iload_n 1, 1) := by decide +kernel
theorem dX5_takes_2 : decode cX5_takes 2 = .ok (.iload_n 1, 1) := by decide +kernel
theorem dX5_takes_3 : decode cX5_takes 3 = .ok (.invokevirtual 156, 3) := by decide +kernel
theorem dX5_takes_6 : decode cX5_takes 6 = .ok (.istore_n 2, 1) := by decide +kernel
theorem dX5_takes_7 : decode cX5_takes 7 = .ok (.aload_n 0, 1) := by decide +kernel
theorem dX5_takes_8 : decode cX5_takes 8 = .ok (.dup, 1) := by decide +kernel
theorem dX5_takes_9 : decode cX5_takes 9 = .ok (.getfield 153, 3) := by decide +kernel
theorem dX5_takes_12 : decode cX5_takes 12 = .ok (.iload_n 2, 1) := by decide +kernel
theorem dX5_takes_13 : decode cX5_takes 13 = .ok (.ifCond .eq 7, 3) := by decide +kernel
theorem dX5_takes_16 : decode cX5_takes 16 = .ok (.iconst 1, 1) := by decide +kernel
theorem dX5_takes_17 : decode cX5_takes 17 = .ok (.goto 4, 3) := by decide +kernel
theorem dX5_takes_20 : decode cX5_takes 20 = .ok (.iconst 0, 1) := by decide +kernel
theorem dX5_takes_21 : decode cX5_takes 21 = .ok (.iadd, 1) := by decide +kernel
theorem dX5_takes_22 : decode cX5_takes 22 = .ok (.putfield 153, 3) := by decide +kernel
theorem dX5_takes_25 : decode cX5_takes 25 = .ok (.iload_n 2, 1) := by decide +kernel
theorem dX5_takes_26 : decode cX5_takes 26 = .ok (.ireturn, 1) := by decide +kernel
set_option maxRecDepth 20000 in
theorem ggX5_readsNumber_X5_isHere : GoodIn wsX5_readsNumber wsX5_isHere := goodIn_r _ [8, 2, 9, 1, 10, 11, 7, 12, 13, 14, 15, 16, 17, 18, 19, 20, 21, 22, 23, 24] (by decide +kernel) (by decide +kernel)
set_option maxRecDepth 20000 in
theorem gX5_readsNumber_X5_isHere : GoodIn wsX5_readsNumber (wsV RX5 156 RX5 yX5_isHere wsX5_isHere) := goodIn_app (goodIn_of _ (by decide +kernel)) ggX5_readsNumber_X5_isHere
theorem dX5_readsNumber_0 : decode cX5_readsNumber 0 = .ok (.aload_n 0, 1) := by decide +kernel
theorem dX5_readsNumber_1 : decode cX5_readsNumber 1 = .ok (.bipush 48, 2) := by decide +kernel
theorem dX5_readsNumber_3 : decode cX5_readsNumber 3 = .ok (.bipush 57, 2) := by decide +kernel
theorem dX5_readsNumber_5 : decode cX5_readsNumber 5 = .ok (.invokevirtual 156, 3) := by decide +kernel
theorem dX5_readsNumber_8 : decode cX5_readsNumber 8 = .ok (.ifCond .ne 5, 3) := by decide +kernel
theorem dX5_readsNumber_11 : decode cX5_readsNumber 11 = .ok (.iconst 0, 1) := by decide +kernel
theorem dX5_readsNumber_12 : decode cX5_readsNumber 12 = .ok (.ireturn, 1) := by decide +kernel
theorem dX5_readsNumber_13 : decode cX5_readsNumber 13 = .ok (.aload_n 0, 1) := by decide +kernel
theorem dX5_readsNumber_14 : decode cX5_readsNumber 14 = .ok (.aload_n 0, 1) := by decide +kernel
theorem dX5_readsNumber_15 : decode cX5_readsNumber 15 = .ok (.getfield 25, 3) := by decide +kernel
theorem dX5_readsNumber_18 : decode cX5_readsNumber 18 = .ok (.aload_n 0, 1) := by decide +kernel
theorem dX5_readsNumber_19 : decode cX5_readsNumber 19 = .ok (.getfield 153, 3) := by decide +kernel
theorem dX5_readsNumber_22 : decode cX5_readsNumber 22 = .ok (.iaload, 1) := by decide +kernel
theorem dX5_readsNumber_23 : decode cX5_readsNumber 23 = .ok (.bipush 48, 2) := by decide +kernel
theorem dX5_readsNumber_25 : decode cX5_readsNumber 25 = .ok (.isub, 1) := by decide +kernel
theorem dX5_readsNumber_26 : decode cX5_readsNumber 26 = .ok (.putfield 159, 3) := by decide +kernel
theorem dX5_readsNumber_29 : decode cX5_readsNumber 29 = .ok (.aload_n 0, 1) := by decide +kernel
theorem dX5_readsNumber_30 : decode cX5_readsNumber 30 = .ok (.dup, 1) := by decide +kernel
theorem dX5_readsNumber_31 : decode cX5_readsNumber 31 = .ok (.getfield 153, 3) := by decide +kernel
theorem dX5_readsNumber_34 : decode cX5_readsNumber 34 = .ok (.iconst 1, 1) := by decide +kernel
theorem dX5_readsNumber_35 : decode cX5_readsNumber 35 = .ok (.iadd, 1) := by decide +kernel
theorem dX5_readsNumber_36 : decode cX5_readsNumber 36 = .ok (.putfield 153, 3) := by decide +kernel
theorem dX5_readsNumber_39 : decode cX5_readsNumber 39 = .ok (.aload_n 0, 1) := by decide +kernel
theorem dX5_readsNumber_40 : decode cX5_readsNumber 40 = .ok (.getfield 159, 3) := by decide +kernel
theorem dX5_readsNumber_43 : decode cX5_readsNumber 43 = .ok (.ifCond .le 48, 3) := by decide +kernel
theorem dX5_readsNumber_46 : decode cX5_readsNumber 46 = .ok (.aload_n 0, 1) := by decide +kernel
theorem dX5_readsNumber_47 : decode cX5_readsNumber 47 = .ok (.bipush 48, 2) := by decide +kernel
theorem dX5_readsNumber_49 : decode cX5_readsNumber 49 = .ok (.bipush 57, 2) := by decide +kernel
theorem dX5_readsNumber_51 : decode cX5_readsNumber 51 = .ok (.invokevirtual 156, 3) := by decide +kernel
theorem dX5_readsNumber_54 : decode cX5_readsNumber 54 = .ok (.ifCond .eq 37, 3) := by decide +kernel
theorem dX5_readsNumber_57 : decode cX5_readsNumber 57 = .ok (.aload_n 0, 1) := by decide +kernel
theorem dX5_readsNumber_58 : decode cX5_readsNumber 58 = .ok (.bipush 10, 2) := by decide +kernel
theorem dX5_readsNumber_60 : decode cX5_readsNumber 60 = .ok (.aload_n 0, 1) := by decide +kernel
theorem dX5_readsNumber_61 : decode cX5_readsNumber 61 = .ok (.getfield 159, 3) := by decide +kernel
theorem dX5_readsNumber_64 : decode cX5_readsNumber 64 = .ok (.imul, 1) := by decide +kernel
theorem dX5_readsNumber_65 : decode cX5_readsNumber 65 = .ok (.aload_n 0, 1) := by decide +kernel
theorem dX5_readsNumber_66 : decode cX5_readsNumber 66 = .ok (.getfield 25, 3) := by decide +kernel
theorem dX5_readsNumber_69 : decode cX5_readsNumber 69 = .ok (.aload_n 0, 1) := by decide +kernel
theorem dX5_readsNumber_70 : decode cX5_readsNumber 70 = .ok (.getfield 153, 3) := by decide +kernel
theorem dX5_readsNumber_73 : decode cX5_readsNumber 73 = .ok (.iaload, 1) := by decide +kernel
theorem dX5_readsNumber_74 : decode cX5_readsNumber 74 = .ok (.iadd, 1) := by decide +kernel
theorem dX5_readsNumber_75 : decode cX5_readsNumber 75 = .ok (.bipush 48, 2) := by decide +kernel
theorem dX5_readsNumber_77 : decode cX5_readsNumber 77 = .ok (.isub, 1) := by decide +kernel
theorem dX5_readsNumber_78 : decode cX5_readsNumber 78 = .ok (.putfield 159, 3) := by decide +kernel
theorem dX5_readsNumber_81 : decode cX5_readsNumber 81 = .ok (.aload_n 0, 1) := by decide +kernel
theorem dX5_readsNumber_82 : decode cX5_readsNumber 82 = .ok (.dup, 1) := by decide +kernel
theorem dX5_readsNumber_83 : decode cX5_readsNumber 83 = .ok (.getfield 153, 3) := by decide +kernel
theorem dX5_readsNumber_86 : decode cX5_readsNumber 86 = .ok (.iconst 1, 1) := by decide +kernel
theorem dX5_readsNumber_87 : decode cX5_readsNumber 87 = .ok (.iadd, 1) := by decide +kernel
theorem dX5_readsNumber_88 : decode cX5_readsNumber 88 = .ok (.putfield 153, 3) := by decide +kernel
theorem dX5_readsNumber_91 : decode cX5_readsNumber 91 = .ok (.iconst 1, 1) := by decide +kernel
theorem dX5_readsNumber_92 : decode cX5_readsNumber 92 = .ok (.ireturn, 1) := by decide +kernel
set_option maxRecDepth 20000 in
theorem ggX5_readsOrder_X5_isHere : GoodIn wsX5_readsOrder wsX5_isHere := goodIn_r _ [10, 1, 2, 3, 11, 12, 9, 13, 23, 24, 25, 26, 27, 28, 29, 30, 31, 32, 33, 34] (by decide +kernel) (by decide +kernel)
set_option maxRecDepth 20000 in
theorem gX5_readsOrder_X5_isHere : GoodIn wsX5_readsOrder (wsV RX5 156 RX5 yX5_isHere wsX5_isHere) := goodIn_app (goodIn_of _ (by decide +kernel)) ggX5_readsOrder_X5_isHere
set_option maxRecDepth 20000 in
theorem ggX5_readsOrder_X5_takes : GoodIn wsX5_readsOrder wsX5_takes := goodIn_r _ [17, 1, 6, 7, 8, 9, 10, 2, 3, 11, 12, 13, 23, 24, 25, 26, 27, 28, 29, 30, 31, 32, 33, 34] (by decide +kernel) (by decide +kernel)
set_option maxRecDepth 20000 in
theorem gX5_readsOrder_X5_takes : GoodIn wsX5_readsOrder (wsV RX5 168 RX5 yX5_takes wsX5_takes) := goodIn_app (goodIn_of _ (by decide +kernel)) ggX5_readsOrder_X5_takes
set_option maxRecDepth 20000 in
theorem ggX5_readsOrder_X5_readsNumber : GoodIn wsX5_readsOrder wsX5_readsNumber := goodIn_r _ [21, 3, 1, 22, 6, 7, 8, 9, 10, 2, 11, 12, 13, 23, 24, 25, 26, 27, 28, 29, 30, 31, 32, 33, 34] (by decide +kernel) (by decide +kernel)
set_option maxRecDepth 20000 in
theorem gX5_readsOrder_X5_readsNumber : GoodIn wsX5_readsOrder (wsV RX5 171 RX5 yX5_readsNumber wsX5_readsNumber) := goodIn_app (goodIn_of _ (by decide +kernel)) ggX5_readsOrder_X5_readsNumber
theorem dX5_readsOrder_0 : decode cX5_readsOrder 0 = .ok (.aload_n 0, 1) := by decide +kernel
theorem dX5_readsOrder_1 : decode cX5_readsOrder 1 = .ok (.aload_n 0, 1) := by decide +kernel
theorem dX5_readsOrder_2 : decode cX5_readsOrder 2 = .ok (.getfield 153, 3) := by decide +kernel
theorem dX5_readsOrder_5 : decode cX5_readsOrder 5 = .ok (.aload_n 0, 1) := by decide +kernel
theorem dX5_readsOrder_6 : decode cX5_readsOrder 6 = .ok (.getfield 136, 3) := by decide +kernel
theorem dX5_readsOrder_9 : decode cX5_readsOrder 9 = .ok (.if_icmp .ge 15, 3) := by decide +kernel
theorem dX5_readsOrder_12 : decode cX5_readsOrder 12 = .ok (.aload_n 0, 1) := by decide +kernel
theorem dX5_readsOrder_13 : decode cX5_readsOrder 13 = .ok (.getfield 25, 3) := by decide +kernel
theorem dX5_readsOrder_16 : decode cX5_readsOrder 16 = .ok (.aload_n 0, 1) := by decide +kernel
theorem dX5_readsOrder_17 : decode cX5_readsOrder 17 = .ok (.getfield 153, 3) := by decide +kernel
theorem dX5_readsOrder_20 : decode cX5_readsOrder 20 = .ok (.iaload, 1) := by decide +kernel
theorem dX5_readsOrder_21 : decode cX5_readsOrder 21 = .ok (.goto 4, 3) := by decide +kernel
theorem dX5_readsOrder_24 : decode cX5_readsOrder 24 = .ok (.iconst 0, 1) := by decide +kernel
theorem dX5_readsOrder_25 : decode cX5_readsOrder 25 = .ok (.putfield 162, 3) := by decide +kernel
theorem dX5_readsOrder_28 : decode cX5_readsOrder 28 = .ok (.aload_n 0, 1) := by decide +kernel
theorem dX5_readsOrder_29 : decode cX5_readsOrder 29 = .ok (.getfield 162, 3) := by decide +kernel
theorem dX5_readsOrder_32 : decode cX5_readsOrder 32 = .ok (.bipush 98, 2) := by decide +kernel
theorem dX5_readsOrder_34 : decode cX5_readsOrder 34 = .ok (.if_icmp .eq 32, 3) := by decide +kernel
theorem dX5_readsOrder_37 : decode cX5_readsOrder 37 = .ok (.aload_n 0, 1) := by decide +kernel
theorem dX5_readsOrder_38 : decode cX5_readsOrder 38 = .ok (.getfield 162, 3) := by decide +kernel
theorem dX5_readsOrder_41 : decode cX5_readsOrder 41 = .ok (.bipush 119, 2) := by decide +kernel
theorem dX5_readsOrder_43 : decode cX5_readsOrder 43 = .ok (.if_icmp .eq 23, 3) := by decide +kernel
theorem dX5_readsOrder_46 : decode cX5_readsOrder 46 = .ok (.aload_n 0, 1) := by decide +kernel
theorem dX5_readsOrder_47 : decode cX5_readsOrder 47 = .ok (.getfield 162, 3) := by decide +kernel
theorem dX5_readsOrder_50 : decode cX5_readsOrder 50 = .ok (.bipush 115, 2) := by decide +kernel
theorem dX5_readsOrder_52 : decode cX5_readsOrder 52 = .ok (.if_icmp .eq 14, 3) := by decide +kernel
theorem dX5_readsOrder_55 : decode cX5_readsOrder 55 = .ok (.aload_n 0, 1) := by decide +kernel
theorem dX5_readsOrder_56 : decode cX5_readsOrder 56 = .ok (.getfield 162, 3) := by decide +kernel
theorem dX5_readsOrder_59 : decode cX5_readsOrder 59 = .ok (.bipush 116, 2) := by decide +kernel
theorem dX5_readsOrder_61 : decode cX5_readsOrder 61 = .ok (.if_icmp .eq 5, 3) := by decide +kernel
theorem dX5_readsOrder_64 : decode cX5_readsOrder 64 = .ok (.iconst 0, 1) := by decide +kernel
theorem dX5_readsOrder_65 : decode cX5_readsOrder 65 = .ok (.ireturn, 1) := by decide +kernel
theorem dX5_readsOrder_66 : decode cX5_readsOrder 66 = .ok (.aload_n 0, 1) := by decide +kernel
theorem dX5_readsOrder_67 : decode cX5_readsOrder 67 = .ok (.dup, 1) := by decide +kernel
theorem dX5_readsOrder_68 : decode cX5_readsOrder 68 = .ok (.getfield 153, 3) := by decide +kernel
theorem dX5_readsOrder_71 : decode cX5_readsOrder 71 = .ok (.iconst 1, 1) := by decide +kernel
theorem dX5_readsOrder_72 : decode cX5_readsOrder 72 = .ok (.iadd, 1) := by decide +kernel
theorem dX5_readsOrder_73 : decode cX5_readsOrder 73 = .ok (.putfield 153, 3) := by decide +kernel
theorem dX5_readsOrder_76 : decode cX5_readsOrder 76 = .ok (.aload_n 0, 1) := by decide +kernel
theorem dX5_readsOrder_77 : decode cX5_readsOrder 77 = .ok (.getfield 162, 3) := by decide +kernel
theorem dX5_readsOrder_80 : decode cX5_readsOrder 80 = .ok (.bipush 116, 2) := by decide +kernel
theorem dX5_readsOrder_82 : decode cX5_readsOrder 82 = .ok (.if_icmp .ne 53, 3) := by decide +kernel
theorem dX5_readsOrder_85 : decode cX5_readsOrder 85 = .ok (.aload_n 0, 1) := by decide +kernel
theorem dX5_readsOrder_86 : decode cX5_readsOrder 86 = .ok (.bipush 48, 2) := by decide +kernel
theorem dX5_readsOrder_88 : decode cX5_readsOrder 88 = .ok (.bipush 55, 2) := by decide +kernel
theorem dX5_readsOrder_90 : decode cX5_readsOrder 90 = .ok (.invokevirtual 156, 3) := by decide +kernel
theorem dX5_readsOrder_93 : decode cX5_readsOrder 93 = .ok (.ifCond .ne 5, 3) := by decide +kernel
theorem dX5_readsOrder_96 : decode cX5_readsOrder 96 = .ok (.iconst 0, 1) := by decide +kernel
theorem dX5_readsOrder_97 : decode cX5_readsOrder 97 = .ok (.ireturn, 1) := by decide +kernel
theorem dX5_readsOrder_98 : decode cX5_readsOrder 98 = .ok (.aload_n 0, 1) := by decide +kernel
theorem dX5_readsOrder_99 : decode cX5_readsOrder 99 = .ok (.aload_n 0, 1) := by decide +kernel
theorem dX5_readsOrder_100 : decode cX5_readsOrder 100 = .ok (.getfield 25, 3) := by decide +kernel
theorem dX5_readsOrder_103 : decode cX5_readsOrder 103 = .ok (.aload_n 0, 1) := by decide +kernel
theorem dX5_readsOrder_104 : decode cX5_readsOrder 104 = .ok (.getfield 153, 3) := by decide +kernel
theorem dX5_readsOrder_107 : decode cX5_readsOrder 107 = .ok (.iaload, 1) := by decide +kernel
theorem dX5_readsOrder_108 : decode cX5_readsOrder 108 = .ok (.bipush 48, 2) := by decide +kernel
theorem dX5_readsOrder_110 : decode cX5_readsOrder 110 = .ok (.isub, 1) := by decide +kernel
theorem dX5_readsOrder_111 : decode cX5_readsOrder 111 = .ok (.putfield 165, 3) := by decide +kernel
theorem dX5_readsOrder_114 : decode cX5_readsOrder 114 = .ok (.aload_n 0, 1) := by decide +kernel
theorem dX5_readsOrder_115 : decode cX5_readsOrder 115 = .ok (.dup, 1) := by decide +kernel
theorem dX5_readsOrder_116 : decode cX5_readsOrder 116 = .ok (.getfield 153, 3) := by decide +kernel
theorem dX5_readsOrder_119 : decode cX5_readsOrder 119 = .ok (.iconst 1, 1) := by decide +kernel
theorem dX5_readsOrder_120 : decode cX5_readsOrder 120 = .ok (.iadd, 1) := by decide +kernel
theorem dX5_readsOrder_121 : decode cX5_readsOrder 121 = .ok (.putfield 153, 3) := by decide +kernel
theorem dX5_readsOrder_124 : decode cX5_readsOrder 124 = .ok (.aload_n 0, 1) := by decide +kernel
theorem dX5_readsOrder_125 : decode cX5_readsOrder 125 = .ok (.bipush 61, 2) := by decide +kernel
theorem dX5_readsOrder_127 : decode cX5_readsOrder 127 = .ok (.invokevirtual 168, 3) := by decide +kernel
theorem dX5_readsOrder_130 : decode cX5_readsOrder 130 = .ok (.ifCond .ne 5, 3) := by decide +kernel
theorem dX5_readsOrder_133 : decode cX5_readsOrder 133 = .ok (.iconst 0, 1) := by decide +kernel
theorem dX5_readsOrder_134 : decode cX5_readsOrder 134 = .ok (.ireturn, 1) := by decide +kernel
theorem dX5_readsOrder_135 : decode cX5_readsOrder 135 = .ok (.aload_n 0, 1) := by decide +kernel
theorem dX5_readsOrder_136 : decode cX5_readsOrder 136 = .ok (.invokevirtual 171, 3) := by decide +kernel
theorem dX5_readsOrder_139 : decode cX5_readsOrder 139 = .ok (.ireturn, 1) := by decide +kernel
set_option maxRecDepth 20000 in
theorem ggX5_fault_X5_readsOrder : GoodIn wsX5_fault wsX5_readsOrder := goodIn_r _ [7, 1, 2, 8, 9, 10, 11, 12, 13, 6, 14, 15, 16, 17, 18, 19, 20, 21, 22, 23, 24, 25, 26, 27, 28, 29, 30, 31, 32, 33, 34, 35, 36, 37, 38] (by decide +kernel) (by decide +kernel)
set_option maxRecDepth 20000 in
theorem gX5_fault_X5_readsOrder : GoodIn wsX5_fault (wsV RX5 175 RX5 yX5_readsOrder wsX5_readsOrder) := goodIn_app (goodIn_of _ (by decide +kernel)) ggX5_fault_X5_readsOrder
set_option maxRecDepth 20000 in
theorem ggX5_fault_X5_takes : GoodIn wsX5_fault wsX5_takes := goodIn_r _ [21, 1, 11, 12, 13, 6, 14, 2, 8, 15, 16, 17, 27, 28, 29, 30, 31, 32, 33, 34, 35, 36, 37, 38] (by decide +kernel) (by decide +kernel)
set_option maxRecDepth 20000 in
theorem gX5_fault_X5_takes : GoodIn wsX5_fault (wsV RX5 168 RX5 yX5_takes wsX5_takes) := goodIn_app (goodIn_of _ (by decide +kernel)) ggX5_fault_X5_takes
theorem dX5_fault_0 : decode cX5_fault 0 = .ok (.aload_n 0, 1) := by decide +kernel
theorem dX5_fault_1 : decode cX5_fault 1 = .ok (.iconst 0, 1) := by decide +kernel
theorem dX5_fault_2 : decode cX5_fault 2 = .ok (.putfield 153, 3) := by decide +kernel
theorem dX5_fault_5 : decode cX5_fault 5 = .ok (.iconst 1, 1) := by decide +kernel
theorem dX5_fault_6 : decode cX5_fault 6 = .ok (.istore_n 1, 1) := by decide +kernel
theorem dX5_fault_7 : decode cX5_fault 7 = .ok (.iload_n 1, 1) := by decide +kernel
theorem dX5_fault_8 : decode cX5_fault 8 = .ok (.ifCond .eq 25, 3) := by decide +kernel
theorem dX5_fault_11 : decode cX5_fault 11 = .ok (.aload_n 0, 1) := by decide +kernel
theorem dX5_fault_12 : decode cX5_fault 12 = .ok (.invokevirtual 175, 3) := by decide +kernel
theorem dX5_fault_15 : decode cX5_fault 15 = .ok (.ifCond .ne 8, 3) := by decide +kernel
theorem dX5_fault_18 : decode cX5_fault 18 = .ok (.aload_n 0, 1) := by decide +kernel
theorem dX5_fault_19 : decode cX5_fault 19 = .ok (.getfield 153, 3) := by decide +kernel
theorem dX5_fault_22 : decode cX5_fault 22 = .ok (.ireturn, 1) := by decide +kernel
theorem dX5_fault_23 : decode cX5_fault 23 = .ok (.aload_n 0, 1) := by decide +kernel
theorem dX5_fault_24 : decode cX5_fault 24 = .ok (.bipush 59, 2) := by decide +kernel
theorem dX5_fault_26 : decode cX5_fault 26 = .ok (.invokevirtual 168, 3) := by decide +kernel
theorem dX5_fault_29 : decode cX5_fault 29 = .ok (.istore_n 1, 1) := by decide +kernel
theorem dX5_fault_30 : decode cX5_fault 30 = .ok (.goto (-23), 3) := by decide +kernel
theorem dX5_fault_33 : decode cX5_fault 33 = .ok (.aload_n 0, 1) := by decide +kernel
theorem dX5_fault_34 : decode cX5_fault 34 = .ok (.getfield 153, 3) := by decide +kernel
theorem dX5_fault_37 : decode cX5_fault 37 = .ok (.aload_n 0, 1) := by decide +kernel
theorem dX5_fault_38 : decode cX5_fault 38 = .ok (.getfield 136, 3) := by decide +kernel
theorem dX5_fault_41 : decode cX5_fault 41 = .ok (.if_icmp .ne 8, 3) := by decide +kernel
theorem dX5_fault_44 : decode cX5_fault 44 = .ok (.bipush (-6), 2) := by decide +kernel
theorem dX5_fault_46 : decode cX5_fault 46 = .ok (.goto 7, 3) := by decide +kernel
theorem dX5_fault_49 : decode cX5_fault 49 = .ok (.aload_n 0, 1) := by decide +kernel
theorem dX5_fault_50 : decode cX5_fault 50 = .ok (.getfield 153, 3) := by decide +kernel
theorem dX5_fault_53 : decode cX5_fault 53 = .ok (.ireturn, 1) := by decide +kernel
set_option maxRecDepth 20000 in
theorem ggX5_doOrder_X5_doArrive : GoodIn wsX5_doOrder wsX5_doArrive := goodIn_r _ [8, 9, 10, 11, 7, 12, 13, 14, 15, 16, 17, 18, 19, 20, 21, 22, 23, 24, 25, 26, 27, 28, 29, 101, 102, 103, 104, 105, 106, 107, 108, 109, 110, 111, 112] (by decide +kernel) (by decide +kernel)
set_option maxRecDepth 20000 in
theorem gX5_doOrder_X5_doArrive : GoodIn wsX5_doOrder (wsV RX5 121 RX5 yX5_doArrive wsX5_doArrive) := goodIn_app (goodIn_of _ (by decide +kernel)) ggX5_doOrder_X5_doArrive
set_option maxRecDepth 20000 in
theorem ggX5_doOrder_X5_doPass : GoodIn wsX5_doOrder wsX5_doPass := goodIn_r _ [33, 9, 34, 35, 7, 36, 37, 15, 16, 17, 38, 39, 40, 41, 42, 43, 44, 45, 46, 47, 48, 49, 22, 23, 24, 25, 26, 27, 28, 29, 50, 51, 52, 53, 54, 55, 56, 57, 58, 59, 60, 61, 62, 63, 64, 65, 66, 67, 68, 69, 70, 71, 72, 73, 74, 75, 76, 77, 18, 19, 20, 21, 78, 79, 80, 81, 101, 102, 103, 104, 105, 106, 107, 108, 109, 110, 111, 112] (by decide +kernel) (by decide +kernel)
set_option maxRecDepth 20000 in
theorem gX5_doOrder_X5_doPass : GoodIn wsX5_doOrder (wsV RX5 127 RX5 yX5_doPass wsX5_doPass) := goodIn_app (goodIn_of _ (by decide +kernel)) ggX5_doOrder_X5_doPass
set_option maxRecDepth 20000 in
theorem ggX5_doOrder_X5_doSet : GoodIn wsX5_doOrder wsX5_doSet := goodIn_r _ [85, 9, 86, 87, 7, 88, 89, 90, 91, 92, 15, 16, 17, 101, 102, 103, 104, 105, 106, 107, 108, 109, 110, 111, 112] (by decide +kernel) (by decide +kernel)
set_option maxRecDepth 20000 in
theorem gX5_doOrder_X5_doSet : GoodIn wsX5_doOrder (wsV RX5 115 RX5 yX5_doSet wsX5_doSet) := goodIn_app (goodIn_of _ (by decide +kernel)) ggX5_doOrder_X5_doSet
set_option maxRecDepth 20000 in
theorem ggX5_doOrder_X5_doTurn : GoodIn wsX5_doOrder wsX5_doTurn := goodIn_r _ [96, 9, 97, 98, 99, 7, 100, 15, 16, 17, 10, 11, 12, 13, 14, 22, 23, 24, 25, 18, 19, 20, 21, 26, 27, 28, 29, 101, 102, 103, 104, 105, 106, 107, 108, 109, 110, 111, 112] (by decide +kernel) (by decide +kernel)
set_option maxRecDepth 20000 in
theorem gX5_doOrder_X5_doTurn : GoodIn wsX5_doOrder (wsV RX5 124 RX5 yX5_doTurn wsX5_doTurn) := goodIn_app (goodIn_of _ (by decide +kernel)) ggX5_doOrder_X5_doTurn
theorem dX5_doOrder_0 : decode cX5_doOrder 0 = .ok (.aload_n 0, 1) := by decide +kernel
theorem dX5_doOrder_1 : decode cX5_doOrder 1 = .ok (.getfield 162, 3) := by decide +kernel
theorem dX5_doOrder_4 : decode cX5_doOrder 4 = .ok (.bipush 98, 2) := by decide +kernel
theorem dX5_doOrder_6 : decode cX5_doOrder 6 = .ok (.if_icmp .ne 14, 3) := by decide +kernel
theorem dX5_doOrder_9 : decode cX5_doOrder 9 = .ok (.aload_n 0, 1) := by decide +kernel
theorem dX5_doOrder_10 : decode cX5_doOrder 10 = .ok (.aload_n 0, 1) := by decide +kernel
theorem dX5_doOrder_11 : decode cX5_doOrder 11 = .ok (.getfield 159, 3) := by decide +kernel
theorem dX5_doOrder_14 : decode cX5_doOrder 14 = .ok (.invokevirtual 121, 3) := by decide +kernel
theorem dX5_doOrder_17 : decode cX5_doOrder 17 = .ok (.goto 56, 3) := by decide +kernel
theorem dX5_doOrder_20 : decode cX5_doOrder 20 = .ok (.aload_n 0, 1) := by decide +kernel
theorem dX5_doOrder_21 : decode cX5_doOrder 21 = .ok (.getfield 162, 3) := by decide +kernel
theorem dX5_doOrder_24 : decode cX5_doOrder 24 = .ok (.bipush 119, 2) := by decide +kernel
theorem dX5_doOrder_26 : decode cX5_doOrder 26 = .ok (.if_icmp .ne 14, 3) := by decide +kernel
theorem dX5_doOrder_29 : decode cX5_doOrder 29 = .ok (.aload_n 0, 1) := by decide +kernel
theorem dX5_doOrder_30 : decode cX5_doOrder 30 = .ok (.aload_n 0, 1) := by decide +kernel
theorem dX5_doOrder_31 : decode cX5_doOrder 31 = .ok (.getfield 159, 3) := by decide +kernel
theorem dX5_doOrder_34 : decode cX5_doOrder 34 = .ok (.invokevirtual 127, 3) := by decide +kernel
theorem dX5_doOrder_37 : decode cX5_doOrder 37 = .ok (.goto 36, 3) := by decide +kernel
theorem dX5_doOrder_40 : decode cX5_doOrder 40 = .ok (.aload_n 0, 1) := by decide +kernel
theorem dX5_doOrder_41 : decode cX5_doOrder 41 = .ok (.getfield 162, 3) := by decide +kernel
theorem dX5_doOrder_44 : decode cX5_doOrder 44 = .ok (.bipush 115, 2) := by decide +kernel
theorem dX5_doOrder_46 : decode cX5_doOrder 46 = .ok (.if_icmp .ne 15, 3) := by decide +kernel
theorem dX5_doOrder_49 : decode cX5_doOrder 49 = .ok (.aload_n 0, 1) := by decide +kernel
theorem dX5_doOrder_50 : decode cX5_doOrder 50 = .ok (.iconst 0, 1) := by decide +kernel
theorem dX5_doOrder_51 : decode cX5_doOrder 51 = .ok (.aload_n 0, 1) := by decide +kernel
theorem dX5_doOrder_52 : decode cX5_doOrder 52 = .ok (.getfield 159, 3) := by decide +kernel
theorem dX5_doOrder_55 : decode cX5_doOrder 55 = .ok (.invokevirtual 115, 3) := by decide +kernel
theorem dX5_doOrder_58 : decode cX5_doOrder 58 = .ok (.goto 15, 3) := by decide +kernel
theorem dX5_doOrder_61 : decode cX5_doOrder 61 = .ok (.aload_n 0, 1) := by decide +kernel
theorem dX5_doOrder_62 : decode cX5_doOrder 62 = .ok (.aload_n 0, 1) := by decide +kernel
theorem dX5_doOrder_63 : decode cX5_doOrder 63 = .ok (.getfield 165, 3) := by decide +kernel
theorem dX5_doOrder_66 : decode cX5_doOrder 66 = .ok (.aload_n 0, 1) := by decide +kernel
theorem dX5_doOrder_67 : decode cX5_doOrder 67 = .ok (.getfield 159, 3) := by decide +kernel
theorem dX5_doOrder_70 : decode cX5_doOrder 70 = .ok (.invokevirtual 124, 3) := by decide +kernel
theorem dX5_doOrder_73 : decode cX5_doOrder 73 = .ok (.ireturn, 1) := by decide +kernel
set_option maxRecDepth 20000 in
theorem ggX5_carryOut_X5_fault : GoodIn wsX5_carryOut wsX5_fault := goodIn_r _ [7, 1, 2, 8, 9, 10, 6, 11, 12, 13, 14, 15, 16, 17, 18, 19, 20, 21, 22, 23, 24, 25, 26, 27, 28, 29, 30, 139, 140, 141, 142, 143, 144, 145, 146, 147, 148, 149, 150] (by decide +kernel) (by decide +kernel)
set_option maxRecDepth 20000 in
theorem gX5_carryOut_X5_fault : GoodIn wsX5_carryOut (wsV RX5 178 RX5 yX5_fault wsX5_fault) := goodIn_app (goodIn_of _ (by decide +kernel)) ggX5_carryOut_X5_fault
set_option maxRecDepth 20000 in
theorem ggX5_carryOut_X5_keep : GoodIn wsX5_carryOut wsX5_keep := goodIn_r _ [34, 35, 36, 139, 140, 141, 142, 143, 144, 145, 146, 147, 148, 149, 150] (by decide +kernel) (by decide +kernel)
set_option maxRecDepth 20000 in
theorem gX5_carryOut_X5_keep : GoodIn wsX5_carryOut (wsV RX5 112 RX5 yX5_keep wsX5_keep) := goodIn_app (goodIn_of _ (by decide +kernel)) ggX5_carryOut_X5_keep
set_option maxRecDepth 20000 in
theorem ggX5_carryOut_X5_readsOrder : GoodIn wsX5_carryOut wsX5_readsOrder := goodIn_r _ [11, 1, 2, 12, 13, 14, 15, 16, 17, 6, 18, 19, 20, 21, 22, 23, 24, 25, 26, 27, 28, 29, 30, 139, 140, 141, 142, 143, 144, 145, 146, 147, 148, 149, 150] (by decide +kernel) (by decide +kernel)
set_option maxRecDepth 20000 in
theorem gX5_carryOut_X5_readsOrder : GoodIn wsX5_carryOut (wsV RX5 175 RX5 yX5_readsOrder wsX5_readsOrder) := goodIn_app (goodIn_of _ (by decide +kernel)) ggX5_carryOut_X5_readsOrder
set_option maxRecDepth 20000 in
theorem ggX5_carryOut_X5_doOrder : GoodIn wsX5_carryOut wsX5_doOrder := goodIn_r _ [40, 13, 30, 14, 41, 42, 43, 6, 44, 36, 45, 46, 47, 48, 49, 19, 20, 21, 50, 51, 52, 53, 54, 55, 56, 57, 58, 59, 60, 61, 62, 63, 64, 65, 66, 67, 68, 69, 70, 71, 72, 73, 74, 75, 76, 77, 78, 79, 80, 81, 82, 83, 84, 85, 86, 87, 88, 89, 90, 91, 92, 93, 94, 95, 96, 97, 98, 99, 100, 101, 102, 103, 104, 105, 106, 107, 108, 109, 110, 111, 112, 113, 114, 115, 116, 117, 118, 119, 120, 121, 122, 123, 124, 125, 126, 127, 128, 129, 130, 131, 132, 139, 140, 141, 142, 143, 144, 145, 146, 147, 148, 149, 150] (by decide +kernel) (by decide +kernel)
set_option maxRecDepth 20000 in
theorem gX5_carryOut_X5_doOrder : GoodIn wsX5_carryOut (wsV RX5 181 RX5 yX5_doOrder wsX5_doOrder) := goodIn_app (goodIn_of _ (by decide +kernel)) ggX5_carryOut_X5_doOrder
set_option maxRecDepth 20000 in
theorem ggX5_carryOut_X5_takes : GoodIn wsX5_carryOut wsX5_takes := goodIn_r _ [25, 1, 15, 16, 17, 6, 18, 2, 12, 19, 20, 21, 139, 140, 141, 142, 143, 144, 145, 146, 147, 148, 149, 150] (by decide +kernel) (by decide +kernel)
set_option maxRecDepth 20000 in
theorem gX5_carryOut_X5_takes : GoodIn wsX5_carryOut (wsV RX5 168 RX5 yX5_takes wsX5_takes) := goodIn_app (goodIn_of _ (by decide +kernel)) ggX5_carryOut_X5_takes
set_option maxRecDepth 20000 in
theorem ggX5_carryOut_X5_changed : GoodIn wsX5_carryOut wsX5_changed := goodIn_r _ [136, 137, 138, 35, 139, 140, 141, 142, 143, 144, 145, 146, 147, 148, 149, 150] (by decide +kernel) (by decide +kernel)
set_option maxRecDepth 20000 in
theorem gX5_carryOut_X5_changed : GoodIn wsX5_carryOut (wsV RX5 118 RX5 yX5_changed wsX5_changed) := goodIn_app (goodIn_of _ (by decide +kernel)) ggX5_carryOut_X5_changed
theorem dX5_carryOut_0 : decode cX5_carryOut 0 = .ok (.aload_n 0, 1) := by decide +kernel
theorem dX5_carryOut_1 : decode cX5_carryOut 1 = .ok (.invokevirtual 178, 3) := by decide +kernel
theorem dX5_carryOut_4 : decode cX5_carryOut 4 = .ok (.bipush (-6), 2) := by decide +kernel
theorem dX5_carryOut_6 : decode cX5_carryOut 6 = .ok (.if_icmp .eq 6, 3) := by decide +kernel
theorem dX5_carryOut_9 : decode cX5_carryOut 9 = .ok (.bipush (-3), 2) := by decide +kernel
theorem dX5_carryOut_11 : decode cX5_carryOut 11 = .ok (.ireturn, 1) := by decide +kernel
theorem dX5_carryOut_12 : decode cX5_carryOut 12 = .ok (.aload_n 0, 1) := by decide +kernel
theorem dX5_carryOut_13 : decode cX5_carryOut 13 = .ok (.invokevirtual 112, 3) := by decide +kernel
theorem dX5_carryOut_16 : decode cX5_carryOut 16 = .ok (.aload_n 0, 1) := by decide +kernel
theorem dX5_carryOut_17 : decode cX5_carryOut 17 = .ok (.iconst 0, 1) := by decide +kernel
theorem dX5_carryOut_18 : decode cX5_carryOut 18 = .ok (.putfield 153, 3) := by decide +kernel
theorem dX5_carryOut_21 : decode cX5_carryOut 21 = .ok (.iconst 0, 1) := by decide +kernel
theorem dX5_carryOut_22 : decode cX5_carryOut 22 = .ok (.istore_n 1, 1) := by decide +kernel
theorem dX5_carryOut_23 : decode cX5_carryOut 23 = .ok (.iconst 1, 1) := by decide +kernel
theorem dX5_carryOut_24 : decode cX5_carryOut 24 = .ok (.istore_n 2, 1) := by decide +kernel
theorem dX5_carryOut_25 : decode cX5_carryOut 25 = .ok (.iload_n 2, 1) := by decide +kernel
theorem dX5_carryOut_26 : decode cX5_carryOut 26 = .ok (.ifCond .eq 57, 3) := by decide +kernel
theorem dX5_carryOut_29 : decode cX5_carryOut 29 = .ok (.aload_n 0, 1) := by decide +kernel
theorem dX5_carryOut_30 : decode cX5_carryOut 30 = .ok (.invokevirtual 175, 3) := by decide +kernel
theorem dX5_carryOut_33 : decode cX5_carryOut 33 = .ok (.ifCond .eq 50, 3) := by decide +kernel
theorem dX5_carryOut_36 : decode cX5_carryOut 36 = .ok (.aload_n 0, 1) := by decide +kernel
theorem dX5_carryOut_37 : decode cX5_carryOut 37 = .ok (.invokevirtual 181, 3) := by decide +kernel
theorem dX5_carryOut_40 : decode cX5_carryOut 40 = .ok (.ifCond .lt 7, 3) := by decide +kernel
theorem dX5_carryOut_43 : decode cX5_carryOut 43 = .ok (.iconst 1, 1) := by decide +kernel
theorem dX5_carryOut_44 : decode cX5_carryOut 44 = .ok (.goto 4, 3) := by decide +kernel
theorem dX5_carryOut_47 : decode cX5_carryOut 47 = .ok (.iconst 0, 1) := by decide +kernel
theorem dX5_carryOut_48 : decode cX5_carryOut 48 = .ok (.istore_n 2, 1) := by decide +kernel
theorem dX5_carryOut_49 : decode cX5_carryOut 49 = .ok (.iload_n 1, 1) := by decide +kernel
theorem dX5_carryOut_50 : decode cX5_carryOut 50 = .ok (.iload_n 2, 1) := by decide +kernel
theorem dX5_carryOut_51 : decode cX5_carryOut 51 = .ok (.ifCond .eq 7, 3) := by decide +kernel
theorem dX5_carryOut_54 : decode cX5_carryOut 54 = .ok (.iconst 1, 1) := by decide +kernel
theorem dX5_carryOut_55 : decode cX5_carryOut 55 = .ok (.goto 4, 3) := by decide +kernel
theorem dX5_carryOut_58 : decode cX5_carryOut 58 = .ok (.iconst 0, 1) := by decide +kernel
theorem dX5_carryOut_59 : decode cX5_carryOut 59 = .ok (.iadd, 1) := by decide +kernel
theorem dX5_carryOut_60 : decode cX5_carryOut 60 = .ok (.istore_n 1, 1) := by decide +kernel
theorem dX5_carryOut_61 : decode cX5_carryOut 61 = .ok (.iload_n 2, 1) := by decide +kernel
theorem dX5_carryOut_62 : decode cX5_carryOut 62 = .ok (.ifCond .eq 16, 3) := by decide +kernel
theorem dX5_carryOut_65 : decode cX5_carryOut 65 = .ok (.aload_n 0, 1) := by decide +kernel
theorem dX5_carryOut_66 : decode cX5_carryOut 66 = .ok (.bipush 59, 2) := by decide +kernel
theorem dX5_carryOut_68 : decode cX5_carryOut 68 = .ok (.invokevirtual 168, 3) := by decide +kernel
theorem dX5_carryOut_71 : decode cX5_carryOut 71 = .ok (.ifCond .eq 7, 3) := by decide +kernel
theorem dX5_carryOut_74 : decode cX5_carryOut 74 = .ok (.iconst 1, 1) := by decide +kernel
theorem dX5_carryOut_75 : decode cX5_carryOut 75 = .ok (.goto 4, 3) := by decide +kernel
theorem dX5_carryOut_78 : decode cX5_carryOut 78 = .ok (.iconst 0, 1) := by decide +kernel
theorem dX5_carryOut_79 : decode cX5_carryOut 79 = .ok (.istore_n 2, 1) := by decide +kernel
theorem dX5_carryOut_80 : decode cX5_carryOut 80 = .ok (.goto (-55), 3) := by decide +kernel
theorem dX5_carryOut_83 : decode cX5_carryOut 83 = .ok (.aload_n 0, 1) := by decide +kernel
theorem dX5_carryOut_84 : decode cX5_carryOut 84 = .ok (.iconst 0, 1) := by decide +kernel
theorem dX5_carryOut_85 : decode cX5_carryOut 85 = .ok (.putfield 136, 3) := by decide +kernel
theorem dX5_carryOut_88 : decode cX5_carryOut 88 = .ok (.aload_n 0, 1) := by decide +kernel
theorem dX5_carryOut_89 : decode cX5_carryOut 89 = .ok (.iload_n 1, 1) := by decide +kernel
theorem dX5_carryOut_90 : decode cX5_carryOut 90 = .ok (.invokevirtual 118, 3) := by decide +kernel
theorem dX5_carryOut_93 : decode cX5_carryOut 93 = .ok (.ireturn, 1) := by decide +kernel
theorem dX5_undo_0 : decode cX5_undo 0 = .ok (.aload_n 0, 1) := by decide +kernel
theorem dX5_undo_1 : decode cX5_undo 1 = .ok (.getfield 28, 3) := by decide +kernel
theorem dX5_undo_4 : decode cX5_undo 4 = .ok (.ifCond .ne 6, 3) := by decide +kernel
theorem dX5_undo_7 : decode cX5_undo 7 = .ok (.bipush (-5), 2) := by decide +kernel
theorem dX5_undo_9 : decode cX5_undo 9 = .ok (.ireturn, 1) := by decide +kernel
theorem dX5_undo_10 : decode cX5_undo 10 = .ok (.aload_n 0, 1) := by decide +kernel
theorem dX5_undo_11 : decode cX5_undo 11 = .ok (.dup, 1) := by decide +kernel
theorem dX5_undo_12 : decode cX5_undo 12 = .ok (.getfield 28, 3) := by decide +kernel
theorem dX5_undo_15 : decode cX5_undo 15 = .ok (.iconst 1, 1) := by decide +kernel
theorem dX5_undo_16 : decode cX5_undo 16 = .ok (.isub, 1) := by decide +kernel
theorem dX5_undo_17 : decode cX5_undo 17 = .ok (.putfield 28, 3) := by decide +kernel
theorem dX5_undo_20 : decode cX5_undo 20 = .ok (.iconst 0, 1) := by decide +kernel
theorem dX5_undo_21 : decode cX5_undo 21 = .ok (.istore_n 1, 1) := by decide +kernel
theorem dX5_undo_22 : decode cX5_undo 22 = .ok (.iload_n 1, 1) := by decide +kernel
theorem dX5_undo_23 : decode cX5_undo 23 = .ok (.sipush 160, 3) := by decide +kernel
theorem dX5_undo_26 : decode cX5_undo 26 = .ok (.if_icmp .ge 30, 3) := by decide +kernel
theorem dX5_undo_29 : decode cX5_undo 29 = .ok (.aload_n 0, 1) := by decide +kernel
theorem dX5_undo_30 : decode cX5_undo 30 = .ok (.getfield 7, 3) := by decide +kernel
theorem dX5_undo_33 : decode cX5_undo 33 = .ok (.iload_n 1, 1) := by decide +kernel
theorem dX5_undo_34 : decode cX5_undo 34 = .ok (.aload_n 0, 1) := by decide +kernel
theorem dX5_undo_35 : decode cX5_undo 35 = .ok (.getfield 16, 3) := by decide +kernel
theorem dX5_undo_38 : decode cX5_undo 38 = .ok (.sipush 160, 3) := by decide +kernel
theorem dX5_undo_41 : decode cX5_undo 41 = .ok (.aload_n 0, 1) := by decide +kernel
theorem dX5_undo_42 : decode cX5_undo 42 = .ok (.getfield 28, 3) := by decide +kernel
theorem dX5_undo_45 : decode cX5_undo 45 = .ok (.imul, 1) := by decide +kernel
theorem dX5_undo_46 : decode cX5_undo 46 = .ok (.iload_n 1, 1) := by decide +kernel
theorem dX5_undo_47 : decode cX5_undo 47 = .ok (.iadd, 1) := by decide +kernel
theorem dX5_undo_48 : decode cX5_undo 48 = .ok (.iaload, 1) := by decide +kernel
theorem dX5_undo_49 : decode cX5_undo 49 = .ok (.iastore, 1) := by decide +kernel
theorem dX5_undo_50 : decode cX5_undo 50 = .ok (.iinc 1 1, 3) := by decide +kernel
theorem dX5_undo_53 : decode cX5_undo 53 = .ok (.goto (-31), 3) := by decide +kernel
theorem dX5_undo_56 : decode cX5_undo 56 = .ok (.aload_n 0, 1) := by decide +kernel
theorem dX5_undo_57 : decode cX5_undo 57 = .ok (.getfield 28, 3) := by decide +kernel
theorem dX5_undo_60 : decode cX5_undo 60 = .ok (.ireturn, 1) := by decide +kernel
set_option maxRecDepth 20000 in
theorem ggX5_save_X5_in : GoodIn wsX5_save wsX5_in := goodIn_r _ [7] (by decide +kernel) (by decide +kernel)
set_option maxRecDepth 20000 in
theorem gX5_save_X5_in : GoodIn wsX5_save (va_wsS RX5 36 yX5_in wsX5_in) := goodIn_app (goodIn_of _ (by decide +kernel)) ggX5_save_X5_in
theorem dX5_save_0 : decode cX5_save 0 = .ok (.iload_n 1, 1) := by decide +kernel
theorem dX5_save_1 : decode cX5_save 1 = .ok (.i2l, 1) := by decide +kernel
theorem dX5_save_2 : decode cX5_save 2 = .ok (.lconst 0, 1) := by decide +kernel
theorem dX5_save_3 : decode cX5_save 3 = .ok (.lconst 1, 1) := by decide +kernel
theorem dX5_save_4 : decode cX5_save 4 = .ok (.invokestatic 36, 3) := by decide +kernel
theorem dX5_save_7 : decode cX5_save 7 = .ok (.ifCond .ne 6, 3) := by decide +kernel
theorem dX5_save_10 : decode cX5_save 10 = .ok (.bipush (-2), 2) := by decide +kernel
theorem dX5_save_12 : decode cX5_save 12 = .ok (.ireturn, 1) := by decide +kernel
theorem dX5_save_13 : decode cX5_save 13 = .ok (.iconst 0, 1) := by decide +kernel
theorem dX5_save_14 : decode cX5_save 14 = .ok (.istore_n 2, 1) := by decide +kernel
theorem dX5_save_15 : decode cX5_save 15 = .ok (.iload_n 2, 1) := by decide +kernel
theorem dX5_save_16 : decode cX5_save 16 = .ok (.sipush 160, 3) := by decide +kernel
theorem dX5_save_19 : decode cX5_save 19 = .ok (.if_icmp .ge 27, 3) := by decide +kernel
theorem dX5_save_22 : decode cX5_save 22 = .ok (.aload_n 0, 1) := by decide +kernel
theorem dX5_save_23 : decode cX5_save 23 = .ok (.getfield 19, 3) := by decide +kernel
theorem dX5_save_26 : decode cX5_save 26 = .ok (.sipush 160, 3) := by decide +kernel
theorem dX5_save_29 : decode cX5_save 29 = .ok (.iload_n 1, 1) := by decide +kernel
theorem dX5_save_30 : decode cX5_save 30 = .ok (.imul, 1) := by decide +kernel
theorem dX5_save_31 : decode cX5_save 31 = .ok (.iload_n 2, 1) := by decide +kernel
theorem dX5_save_32 : decode cX5_save 32 = .ok (.iadd, 1) := by decide +kernel
theorem dX5_save_33 : decode cX5_save 33 = .ok (.aload_n 0, 1) := by decide +kernel
theorem dX5_save_34 : decode cX5_save 34 = .ok (.getfield 7, 3) := by decide +kernel
theorem dX5_save_37 : decode cX5_save 37 = .ok (.iload_n 2, 1) := by decide +kernel
theorem dX5_save_38 : decode cX5_save 38 = .ok (.iaload, 1) := by decide +kernel
theorem dX5_save_39 : decode cX5_save 39 = .ok (.iastore, 1) := by decide +kernel
theorem dX5_save_40 : decode cX5_save 40 = .ok (.iinc 2 1, 3) := by decide +kernel
theorem dX5_save_43 : decode cX5_save 43 = .ok (.goto (-28), 3) := by decide +kernel
theorem dX5_save_46 : decode cX5_save 46 = .ok (.aload_n 0, 1) := by decide +kernel
theorem dX5_save_47 : decode cX5_save 47 = .ok (.getfield 22, 3) := by decide +kernel
theorem dX5_save_50 : decode cX5_save 50 = .ok (.iload_n 1, 1) := by decide +kernel
theorem dX5_save_51 : decode cX5_save 51 = .ok (.iconst 1, 1) := by decide +kernel
theorem dX5_save_52 : decode cX5_save 52 = .ok (.iastore, 1) := by decide +kernel
theorem dX5_save_53 : decode cX5_save 53 = .ok (.aload_n 0, 1) := by decide +kernel
theorem dX5_save_54 : decode cX5_save 54 = .ok (.getfield 7, 3) := by decide +kernel
theorem dX5_save_57 : decode cX5_save 57 = .ok (.bipush 8, 2) := by decide +kernel
theorem dX5_save_59 : decode cX5_save 59 = .ok (.iaload, 1) := by decide +kernel
theorem dX5_save_60 : decode cX5_save 60 = .ok (.ireturn, 1) := by decide +kernel
set_option maxRecDepth 20000 in
theorem ggX5_restore_X5_in : GoodIn wsX5_restore wsX5_in := goodIn_r _ [7] (by decide +kernel) (by decide +kernel)
set_option maxRecDepth 20000 in
theorem gX5_restore_X5_in : GoodIn wsX5_restore (va_wsS RX5 36 yX5_in wsX5_in) := goodIn_app (goodIn_of _ (by decide +kernel)) ggX5_restore_X5_in
set_option maxRecDepth 20000 in
theorem ggX5_restore_X5_keep : GoodIn wsX5_restore wsX5_keep := goodIn_r _ [11, 12, 2, 19, 20, 21, 22, 23, 24, 25, 26, 27, 28, 29, 30] (by decide +kernel) (by decide +kernel)
set_option maxRecDepth 20000 in
theorem gX5_restore_X5_keep : GoodIn wsX5_restore (wsV RX5 112 RX5 yX5_keep wsX5_keep) := goodIn_app (goodIn_of _ (by decide +kernel)) ggX5_restore_X5_keep
set_option maxRecDepth 20000 in
theorem ggX5_restore_X5_changed : GoodIn wsX5_restore wsX5_changed := goodIn_r _ [16, 17, 18, 12, 19, 20, 21, 22, 23, 24, 25, 26, 27, 28, 29, 30] (by decide +kernel) (by decide +kernel)
set_option maxRecDepth 20000 in
theorem gX5_restore_X5_changed : GoodIn wsX5_restore (wsV RX5 118 RX5 yX5_changed wsX5_changed) := goodIn_app (goodIn_of _ (by decide +kernel)) ggX5_restore_X5_changed
theorem dX5_restore_0 : decode cX5_restore 0 = .ok (.iload_n 1, 1) := by decide +kernel
theorem dX5_restore_1 : decode cX5_restore 1 = .ok (.i2l, 1) := by decide +kernel
theorem dX5_restore_2 : decode cX5_restore 2 = .ok (.lconst 0, 1) := by decide +kernel
theorem dX5_restore_3 : decode cX5_restore 3 = .ok (.lconst 1, 1) := by decide +kernel
theorem dX5_restore_4 : decode cX5_restore 4 = .ok (.invokestatic 36, 3) := by decide +kernel
theorem dX5_restore_7 : decode cX5_restore 7 = .ok (.ifCond .ne 6, 3) := by decide +kernel
theorem dX5_restore_10 : decode cX5_restore 10 = .ok (.bipush (-2), 2) := by decide +kernel
theorem dX5_restore_12 : decode cX5_restore 12 = .ok (.ireturn, 1) := by decide +kernel
theorem dX5_restore_13 : decode cX5_restore 13 = .ok (.aload_n 0, 1) := by decide +kernel
theorem dX5_restore_14 : decode cX5_restore 14 = .ok (.getfield 22, 3) := by decide +kernel
theorem dX5_restore_17 : decode cX5_restore 17 = .ok (.iload_n 1, 1) := by decide +kernel
theorem dX5_restore_18 : decode cX5_restore 18 = .ok (.iaload, 1) := by decide +kernel
theorem dX5_restore_19 : decode cX5_restore 19 = .ok (.ifCond .ne 6, 3) := by decide +kernel
theorem dX5_restore_22 : decode cX5_restore 22 = .ok (.bipush (-5), 2) := by decide +kernel
theorem dX5_restore_24 : decode cX5_restore 24 = .ok (.ireturn, 1) := by decide +kernel
theorem dX5_restore_25 : decode cX5_restore 25 = .ok (.aload_n 0, 1) := by decide +kernel
theorem dX5_restore_26 : decode cX5_restore 26 = .ok (.invokevirtual 112, 3) := by decide +kernel
theorem dX5_restore_29 : decode cX5_restore 29 = .ok (.iconst 0, 1) := by decide +kernel
theorem dX5_restore_30 : decode cX5_restore 30 = .ok (.istore_n 2, 1) := by decide +kernel
theorem dX5_restore_31 : decode cX5_restore 31 = .ok (.iload_n 2, 1) := by decide +kernel
theorem dX5_restore_32 : decode cX5_restore 32 = .ok (.sipush 160, 3) := by decide +kernel
theorem dX5_restore_35 : decode cX5_restore 35 = .ok (.if_icmp .ge 27, 3) := by decide +kernel
theorem dX5_restore_38 : decode cX5_restore 38 = .ok (.aload_n 0, 1) := by decide +kernel
theorem dX5_restore_39 : decode cX5_restore 39 = .ok (.getfield 7, 3) := by decide +kernel
theorem dX5_restore_42 : decode cX5_restore 42 = .ok (.iload_n 2, 1) := by decide +kernel
theorem dX5_restore_43 : decode cX5_restore 43 = .ok (.aload_n 0, 1) := by decide +kernel
theorem dX5_restore_44 : decode cX5_restore 44 = .ok (.getfield 19, 3) := by decide +kernel
theorem dX5_restore_47 : decode cX5_restore 47 = .ok (.sipush 160, 3) := by decide +kernel
theorem dX5_restore_50 : decode cX5_restore 50 = .ok (.iload_n 1, 1) := by decide +kernel
theorem dX5_restore_51 : decode cX5_restore 51 = .ok (.imul, 1) := by decide +kernel
theorem dX5_restore_52 : decode cX5_restore 52 = .ok (.iload_n 2, 1) := by decide +kernel
theorem dX5_restore_53 : decode cX5_restore 53 = .ok (.iadd, 1) := by decide +kernel
theorem dX5_restore_54 : decode cX5_restore 54 = .ok (.iaload, 1) := by decide +kernel
theorem dX5_restore_55 : decode cX5_restore 55 = .ok (.iastore, 1) := by decide +kernel
theorem dX5_restore_56 : decode cX5_restore 56 = .ok (.iinc 2 1, 3) := by decide +kernel
theorem dX5_restore_59 : decode cX5_restore 59 = .ok (.goto (-28), 3) := by decide +kernel
theorem dX5_restore_62 : decode cX5_restore 62 = .ok (.aload_n 0, 1) := by decide +kernel
theorem dX5_restore_63 : decode cX5_restore 63 = .ok (.aload_n 0, 1) := by decide +kernel
theorem dX5_restore_64 : decode cX5_restore 64 = .ok (.getfield 7, 3) := by decide +kernel
theorem dX5_restore_67 : decode cX5_restore 67 = .ok (.bipush 8, 2) := by decide +kernel
theorem dX5_restore_69 : decode cX5_restore 69 = .ok (.iaload, 1) := by decide +kernel
theorem dX5_restore_70 : decode cX5_restore 70 = .ok (.invokevirtual 118, 3) := by decide +kernel
theorem dX5_restore_73 : decode cX5_restore 73 = .ok (.ireturn, 1) := by decide +kernel
end
section
/-! worlds by code numbers: cell i stands at the address ad i and holds f i -/
def wl (N : Nat) (ad : Nat → Nat) (f : Nat → va_E) : va_W := (List.range N).map (fun i => (ad i, f i))
theorem wl_get {N : Nat} {ad : Nat → Nat} {f : Nat → va_E} {i : Nat} (h : i < N) : (wl N ad f)[i]? = some (ad i, f i) := by simp [wl, h]
theorem wl_set {N : Nat} {ad : Nat → Nat} {f : Nat → va_E} {i : Nat} {e : va_E} (h : i < N) : (wl N ad f).set i (ad i, e) = wl N ad (va_up f i e) := by
  apply List.ext_getElem?
  intro k
  rw [List.getElem?_set]
  by_cases hk : i = k
  · subst hk
    simp [wl, h, va_up]
  · simp only [hk, if_false]
    by_cases hN : k < N
    · rw [wl_get hN, wl_get hN]
      simp [va_up, Ne.symm hk]
    · simp [wl, hN]
theorem wl_push {N : Nat} {ad : Nat → Nat} {f : Nat → va_E} {q : Nat} {e : va_E} : wl N ad f ++ [(q, e)] = wl (N + 1) (va_up ad N q) (va_up f N e) := by
  unfold wl
  rw [List.range_succ, List.map_append]
  congr 1
  · apply List.map_congr_left
    intro i hi
    have h := List.mem_range.mp hi
    have h2 : i ≠ N := by omega
    simp [va_up, h2]
  · simp [va_up]
def ix (i : Int32) (k n : Nat) : Prop := vp_in i n ∧ i.toNatClampNeg = k
theorem ix_nI {j n : Nat} (h : j < n) (hn : n < 2 ^ 31) : ix (nI j) j n := ⟨vp_in_nI h hn, nI_clamp (Nat.lt_trans h hn)⟩
theorem ix_of {i : Int32} {j n : Nat} (e : i = nI j) (h : j < n) (hn : n < 2 ^ 31) : ix i j n := by rw [e]; exact ix_nI h hn
theorem ix_c {i : Int32} {k n : Nat} (h : (decide (¬ (i < 0 ∨ n ≤ i.toNatClampNeg)) && decide (i.toNatClampNeg = k)) = true) : ix i k n := by
  simp only [Bool.and_eq_true, decide_eq_true_eq] at h
  exact h
/-! what is the same all along: the classes' numbers and slots, the array classes, where the law's own cells begin, the static arrays -/
abbrev GE : Type := va_G × (Nat → ClassId) × Nat × (Nat → Nat)
def gT (g : GE) : List (ClassId × FieldType) := [(g.2.1 0, .int), (g.2.1 1, .char), (g.2.1 2, .boolean), (g.2.1 3, .object RX0), (g.2.1 4, .object RX1)]
def gA (g : GE) : Nat → Prop := fun q => g.2.2.1 ≤ q
def lstA (l : List Int32) : Nat → Int32 := fun j => l.getD j 0
def SF1 (g : GE) (k : Nat) (C n : String) (N : Nat) (l : List Int32) (U : State) : Prop := va_Z C n "[I" (.ref (g.2.2.2 k)) (gA g) U U.heap ∧ va_T .int (g.2.2.2 k) N (fun j => .int (lstA l j)) (gA g) U U.heap
def SF (g : GE) (U : State) : Prop := SF1 g 0 RX0 "LOWEST" 8 [0, 0, 0, 0, 1, 1, 0, 0] U ∧ SF1 g 1 RX0 "HIGHEST" 8 [9, 5, 5, 20, 20, 60, 9, 9] U ∧ SF1 g 2 RX0 "AT_FIRST" 8 [3, 2, 2, 4, 6, 20, 1, 2] U ∧ SF1 g 3 RX4 "FORESEEN" 6 [3, 4, 5, 9, 6, 7] U ∧ U.heap[g.2.2.2 2]? = some (vp_cell (g.2.1 0) (8, .inl (lstA [3, 2, 2, 4, 6, 20, 1, 2])))
def NF (U : State) : Prop := va_Nw (.methodLinkNest RX0 44 yX1_init "BeltMarks") U ∧ va_Nw (.methodLinkNest RX4 36 yX3_init "BeltMarks") U ∧ va_Nw (.castable "[I" "java/lang/Cloneable") U
theorem SF1.go {g : GE} {k : Nat} {C n : String} {N : Nat} {l : List Int32} {u U : State} (h : SF1 g k C n N l u) (hvm : u.vm.Alike U.vm) (hq : ∀ a : Nat, a < u.heap.size → ¬ gA g a → U.heap[a]? = u.heap[a]?) : SF1 g k C n N l U := ⟨(h.1.kept hq).moved hvm, (h.2.kept hq).moved hvm⟩
theorem SF.go {g : GE} {u U : State} (h : SF g u) (hvm : u.vm.Alike U.vm) (hq : ∀ a : Nat, a < u.heap.size → ¬ gA g a → U.heap[a]? = u.heap[a]?) : SF g U := by
  refine ⟨h.1.go hvm hq, h.2.1.go hvm hq, h.2.2.1.go hvm hq, h.2.2.2.1.go hvm hq, ?_⟩
  obtain ⟨cell, h1, h2, h3, h4, h5, h6, h7⟩ := h.2.2.1.2
  rw [hq _ (Array.getElem?_eq_some_iff.mp h1).1 h7]
  exact h.2.2.2.2
/-- what holds of a world at a call, and behind it -/
def WC (g : GE) (N : Nat) (ad : Nat → Nat) (f : Nat → va_E) (U : State) : Prop := va_P g.1 vwCl (wl N ad f) U.heap ∧ va_K g.1 vwCl (gT g) U ∧ va_D (gA g) (wl N ad f) ∧ g.2.2.1 ≤ U.heap.size ∧ SF g U ∧ NF U
def Qg (g : GE) (post : Option Value → Nat → (Nat → Nat) → (Nat → va_E) → Prop) : Array Value → State → Outcome → State → Prop := fun _ st o t => (∃ (r : Option Value) (N' : Nat) (ad' : Nat → Nat) (u : Nat → va_E), o = .returned r ∧ post r N' ad' u ∧ va_P g.1 vwCl (wl N' ad' u) t.heap ∧ va_D (gA g) (wl N' ad' u)) ∧ va_F (gA g) st t
/-- a method's contract -/
def Ct (g : GE) (l : Launch) (y : MethodName) (ws : List Cond) (rm : Room) (N : Nat) (ad : Nat → Nat) (av : List Value) (f : Nat → va_E) (post : Option Value → Nat → (Nat → Nat) → (Nat → va_E) → Prop) (mc ms : Nat) : Prop := Met l y ws rm (va_Pc av (WC g N ad f)) (Qg g post) mc ms (gA g)
def pI (N : Nat) (ad : Nat → Nat) (P : Int32 → (Nat → va_E) → Prop) : Option Value → Nat → (Nat → Nat) → (Nat → va_E) → Prop := fun r N' ad' u => N' = N ∧ ad' = ad ∧ ∃ x, r = some (.int x) ∧ P x u
def pV (N : Nat) (ad : Nat → Nat) (P : (Nat → va_E) → Prop) : Option Value → Nat → (Nat → Nat) → (Nat → va_E) → Prop := fun r N' ad' u => N' = N ∧ ad' = ad ∧ r = none ∧ P u
def pR (N : Nat) (ad : Nat → Nat) (P : Nat → (Nat → va_E) → Prop) : Option Value → Nat → (Nat → Nat) → (Nat → va_E) → Prop := fun r N' ad' u => N' = N ∧ ad' = ad ∧ ∃ a, r = some (.ref a) ∧ P a u
/-! the judgement -/
abbrev EV : Type := Program × Launch × Env × Room × State × MethodId × Array Value × List Frame × Method × Code × Nat × (State → Prop)
abbrev eP (E : EV) : Program := E.1
abbrev eL (E : EV) : Launch := E.2.1
abbrev eE (E : EV) : Env := E.2.2.1
abbrev eR (E : EV) : Room := E.2.2.2.1
abbrev eS (E : EV) : State := E.2.2.2.2.1
abbrev eM (E : EV) : MethodId := E.2.2.2.2.2.1
abbrev eA (E : EV) : Array Value := E.2.2.2.2.2.2.1
abbrev eB (E : EV) : List Frame := E.2.2.2.2.2.2.2.1
abbrev eH (E : EV) : Method := E.2.2.2.2.2.2.2.2.1
abbrev eC (E : EV) : Code := E.2.2.2.2.2.2.2.2.2.1
abbrev eN (E : EV) : Nat := E.2.2.2.2.2.2.2.2.2.2.1
abbrev eQ (E : EV) : State → Prop := E.2.2.2.2.2.2.2.2.2.2.2
def lvo : Nat → List (Option Value) → List (Nat × Value)
  | _, [] => []
  | i, none :: t => lvo (i + 1) t
  | i, some v :: t => (i, v) :: lvo (i + 1) t
theorem lvo_mem : ∀ (lo : List (Option Value)) (b i : Nat) (v : Value), (i, v) ∈ lvo b lo ↔ ∃ j, i = b + j ∧ lo[j]? = some (some v)
  | [], b, i, v => by simp [lvo]
  | none :: t, b, i, v => by
    rw [lvo, lvo_mem t (b + 1) i v]
    constructor
    · rintro ⟨j, h1, h2⟩
      exact ⟨j + 1, by omega, by simpa using h2⟩
    · rintro ⟨j, h1, h2⟩
      cases j with
      | zero => simp at h2
      | succ j => exact ⟨j, by omega, by simpa using h2⟩
  | some w :: t, b, i, v => by
    rw [lvo, List.mem_cons, lvo_mem t (b + 1) i v]
    constructor
    · rintro (h | ⟨j, h1, h2⟩)
      · cases h
        exact ⟨0, by omega, by simp⟩
      · exact ⟨j + 1, by omega, by simpa using h2⟩
    · rintro ⟨j, h1, h2⟩
      cases j with
      | zero =>
        simp at h2
        exact Or.inl (by rw [h1, h2]; rfl)
      | succ j => exact Or.inr ⟨j, by omega, by simpa using h2⟩
def V (E : EV) (g : GE) (N : Nat) (ad : Nat → Nat) (ce sl : Nat) (f : Nat → va_E) (pc : Nat) (lo : List (Option Value)) (st : List Value) : Prop :=
  ∀ (H : Heap) (locs : List Loc) (ls : Array Slot), va_P g.1 vwCl (wl N ad f) H → va_D (gA g) (wl N ad f) → va_S (gA g) (eS E).heap H locs → lv_has ls (eN E) (lvo 0 lo) → W (eP E) (eL E) (eE E) (eR E) (eS E) (eM E) (eA E) (eB E) (eH E) (eC E) H locs ce sl (eQ E) (F0 (eM E) pc ls st)
def CX (E : EV) (g : GE) (cc : ByteArray) (Ts : List Cond) (own : String) (rm : Room) : Prop :=
  (eP E).tables.exec = Jvm.exec ∧ (eC E).code = cc ∧ (eC E).maxLocals = eN E ∧ (eS E).vm.findClass own = some (eM E).cls ∧ (∀ w ∈ Ts, w.before (eA E) (eS E) = true) ∧ va_K g.1 vwCl (gT g) (eS E) ∧ g.2.2.1 ≤ (eS E).heap.size ∧ SF g (eS E) ∧ NF (eS E) ∧ eR E = rm
def RT (E : EV) (g : GE) (mc ms : Nat) (ret : Option FieldType) (post : Option Value → Nat → (Nat → Nat) → (Nat → va_E) → Prop) : Prop := (eH E).sig.returnType = ret ∧ (eH E).locks = false ∧ eQ E = MQ (eB E) (Qg g post) (eA E) (eS E) mc ms (gA g)
theorem lvo_at {ls : Array Slot} {nL : Nat} {lo : List (Option Value)} (h : lv_has ls nL (lvo 0 lo)) {i : Nat} {v : Value} (hk : lo[i]? = some (some v)) : ls[i]? = some (.val v) := h.2.2 (i, v) ((lvo_mem lo 0 i v).mpr ⟨i, by omega, hk⟩)
def c1 : Option Value → Bool
  | none => true
  | some v => v.category == 1
/-- a store of one word, over the list of locals -/
theorem lvo_put {ls : Array Slot} {nL : Nat} {lo : List (Option Value)} (h : lv_has ls nL (lvo 0 lo)) (i : Nat) (v : Value) (hp : ∀ v', i ≠ 0 → lo[i - 1]? = some (some v') → v'.category = 1) : ∀ q ∈ lvo 0 (lo.set i (some v)), q ∈ (i, v) :: (lvo 0 lo).filter (fun q => !(q.1 == i) && !(q.1 + 1 == i && q.2.category == 2)) := by
  rintro ⟨j, w⟩ hq
  obtain ⟨j', h1, h2⟩ := (lvo_mem _ _ _ _).mp hq
  have hj : j' = j := by omega
  subst hj
  rw [List.getElem?_set] at h2
  by_cases hij : i = j'
  · subst hij
    rw [if_pos rfl] at h2
    split at h2
    · cases h2
      exact List.mem_cons_self
    · cases h2
  · rw [if_neg hij] at h2
    refine List.mem_cons_of_mem _ (List.mem_filter.mpr ⟨(lvo_mem _ _ _ _).mpr ⟨j', h1, h2⟩, ?_⟩)
    have h3 : (j' == i) = false := by simp; omega
    simp only [h3, Bool.not_false, Bool.true_and]
    by_cases h4 : j' + 1 = i
    · have h5 := hp w (by omega) (by rw [← h4]; exact h2)
      simp [h5]
    · simp [h4]
theorem lvo_sub {ls : Array Slot} {nL : Nat} {l l' : List (Nat × Value)} (h : lv_has ls nL l) (hs : ∀ q ∈ l', q ∈ l) : lv_has ls nL l' := ⟨h.1, h.2.1, fun q hq => h.2.2 q (hs q hq)⟩
section
variable {E : EV} {g : GE} {N : Nat} {ad : Nat → Nat} {ce sl : Nat} {f : Nat → va_E} {pc : Nat} {lo : List (Option Value)} {st : List Value} {cc : ByteArray} {Ts : List Cond} {own : String} {rm : Room}
theorem V_iconst (hC : CX E g cc Ts own rm) (v : Int32) {n : Int} (hd : decode cc pc = .ok (.iconst n, 1)) (hv : Int32.ofInt n = v) (k : V E g N ad ce sl f (pc + 1) lo (.int v :: st)) : V E g N ad ce sl f pc lo st := by
  intro H locs ls hP hD hS hl
  exact lv_iconst hC.1 hC.2.1 hd hv (k H locs ls hP hD hS hl)
theorem V_bipush (hC : CX E g cc Ts own rm) (v : Int32) {n : Int} (hd : decode cc pc = .ok (.bipush n, 2)) (hv : (Int8.ofInt n).toInt32 = v) (k : V E g N ad ce sl f (pc + 2) lo (.int v :: st)) : V E g N ad ce sl f pc lo st := by
  intro H locs ls hP hD hS hl
  exact lv_bipush hC.1 hC.2.1 hd hv (k H locs ls hP hD hS hl)
theorem V_sipush (hC : CX E g cc Ts own rm) (v : Int32) {n : Int} (hd : decode cc pc = .ok (.sipush n, 3)) (hv : (Int16.ofInt n).toInt32 = v) (k : V E g N ad ce sl f (pc + 3) lo (.int v :: st)) : V E g N ad ce sl f pc lo st := by
  intro H locs ls hP hD hS hl
  exact lv_sipush hC.1 hC.2.1 hd hv (k H locs ls hP hD hS hl)
theorem V_lconst (hC : CX E g cc Ts own rm) (v : Int64) {n : Fin 2} (hd : decode cc pc = .ok (.lconst n, 1)) (hv : Int64.ofNat (n : Nat) = v) (k : V E g N ad ce sl f (pc + 1) lo (.long v :: st)) : V E g N ad ce sl f pc lo st := by
  intro H locs ls hP hD hS hl
  exact lv_lconst hC.1 hC.2.1 hd hv (k H locs ls hP hD hS hl)
theorem V_iadd (hC : CX E g cc Ts own rm) {x y : Int32} (hd : decode cc pc = .ok (.iadd, 1))  (k : V E g N ad ce sl f (pc + 1) lo (.int (x + y) :: st)) : V E g N ad ce sl f pc lo (.int y :: .int x :: st) := by
  intro H locs ls hP hD hS hl
  exact lv_iadd hC.1 hC.2.1 hd (k H locs ls hP hD hS hl)
theorem V_isub (hC : CX E g cc Ts own rm) {x y : Int32} (hd : decode cc pc = .ok (.isub, 1))  (k : V E g N ad ce sl f (pc + 1) lo (.int (x - y) :: st)) : V E g N ad ce sl f pc lo (.int y :: .int x :: st) := by
  intro H locs ls hP hD hS hl
  exact lv_isub hC.1 hC.2.1 hd (k H locs ls hP hD hS hl)
theorem V_imul (hC : CX E g cc Ts own rm) {x y : Int32} (hd : decode cc pc = .ok (.imul, 1))  (k : V E g N ad ce sl f (pc + 1) lo (.int (x * y) :: st)) : V E g N ad ce sl f pc lo (.int y :: .int x :: st) := by
  intro H locs ls hP hD hS hl
  exact lv_imul hC.1 hC.2.1 hd (k H locs ls hP hD hS hl)
theorem V_iand (hC : CX E g cc Ts own rm) {x y : Int32} (hd : decode cc pc = .ok (.iand, 1))  (k : V E g N ad ce sl f (pc + 1) lo (.int (x &&& y) :: st)) : V E g N ad ce sl f pc lo (.int y :: .int x :: st) := by
  intro H locs ls hP hD hS hl
  exact lv_iand hC.1 hC.2.1 hd (k H locs ls hP hD hS hl)
theorem V_ixor (hC : CX E g cc Ts own rm) {x y : Int32} (hd : decode cc pc = .ok (.ixor, 1))  (k : V E g N ad ce sl f (pc + 1) lo (.int (x ^^^ y) :: st)) : V E g N ad ce sl f pc lo (.int y :: .int x :: st) := by
  intro H locs ls hP hD hS hl
  exact lv_ixor hC.1 hC.2.1 hd (k H locs ls hP hD hS hl)
theorem V_ineg (hC : CX E g cc Ts own rm) {x : Int32} (hd : decode cc pc = .ok (.ineg, 1))  (k : V E g N ad ce sl f (pc + 1) lo (.int (-x) :: st)) : V E g N ad ce sl f pc lo (.int x :: st) := by
  intro H locs ls hP hD hS hl
  exact lv_ineg hC.1 hC.2.1 hd (k H locs ls hP hD hS hl)
theorem V_land (hC : CX E g cc Ts own rm) {x y : Int64} (hd : decode cc pc = .ok (.land, 1))  (k : V E g N ad ce sl f (pc + 1) lo (.long (x &&& y) :: st)) : V E g N ad ce sl f pc lo (.long y :: .long x :: st) := by
  intro H locs ls hP hD hS hl
  exact lv_land hC.1 hC.2.1 hd (k H locs ls hP hD hS hl)
theorem V_lor (hC : CX E g cc Ts own rm) {x y : Int64} (hd : decode cc pc = .ok (.lor, 1))  (k : V E g N ad ce sl f (pc + 1) lo (.long (x ||| y) :: st)) : V E g N ad ce sl f pc lo (.long y :: .long x :: st) := by
  intro H locs ls hP hD hS hl
  exact lv_lor hC.1 hC.2.1 hd (k H locs ls hP hD hS hl)
theorem V_lsub (hC : CX E g cc Ts own rm) {x y : Int64} (hd : decode cc pc = .ok (.lsub, 1))  (k : V E g N ad ce sl f (pc + 1) lo (.long (x - y) :: st)) : V E g N ad ce sl f pc lo (.long y :: .long x :: st) := by
  intro H locs ls hP hD hS hl
  exact lv_lsub hC.1 hC.2.1 hd (k H locs ls hP hD hS hl)
theorem V_i2l (hC : CX E g cc Ts own rm) {x : Int32} (hd : decode cc pc = .ok (.i2l, 1))  (k : V E g N ad ce sl f (pc + 1) lo (.long x.toInt64 :: st)) : V E g N ad ce sl f pc lo (.int x :: st) := by
  intro H locs ls hP hD hS hl
  exact lv_i2l hC.1 hC.2.1 hd rfl (k H locs ls hP hD hS hl)
theorem V_l2i (hC : CX E g cc Ts own rm) {x : Int64} (hd : decode cc pc = .ok (.l2i, 1))  (k : V E g N ad ce sl f (pc + 1) lo (.int x.toInt32 :: st)) : V E g N ad ce sl f pc lo (.long x :: st) := by
  intro H locs ls hP hD hS hl
  exact lv_l2i hC.1 hC.2.1 hd rfl (k H locs ls hP hD hS hl)
theorem V_i2c (hC : CX E g cc Ts own rm) {x : Int32} (hd : decode cc pc = .ok (.i2c, 1))  (k : V E g N ad ce sl f (pc + 1) lo (.int (x.toUInt32 % 65536).toInt32 :: st)) : V E g N ad ce sl f pc lo (.int x :: st) := by
  intro H locs ls hP hD hS hl
  exact lv_i2c hC.1 hC.2.1 hd rfl (k H locs ls hP hD hS hl)
theorem V_lushr (hC : CX E g cc Ts own rm) {x : Int64} {y : Int32} (hd : decode cc pc = .ok (.lushr, 1))  (k : V E g N ad ce sl f (pc + 1) lo (.long (x.toUInt64 >>> (y.toInt64.toUInt64 &&& Int64.toUInt64 63)).toInt64 :: st)) : V E g N ad ce sl f pc lo (.int y :: .long x :: st) := by
  intro H locs ls hP hD hS hl
  exact lv_lushr hC.1 hC.2.1 hd rfl (k H locs ls hP hD hS hl)
theorem V_lshl (hC : CX E g cc Ts own rm) {x : Int64} {y : Int32} (hd : decode cc pc = .ok (.lshl, 1))  (k : V E g N ad ce sl f (pc + 1) lo (.long (x <<< (y.toInt64 &&& 63)) :: st)) : V E g N ad ce sl f pc lo (.int y :: .long x :: st) := by
  intro H locs ls hP hD hS hl
  exact lv_lshl hC.1 hC.2.1 hd rfl (k H locs ls hP hD hS hl)
theorem V_lcmp (hC : CX E g cc Ts own rm) {x y : Int64} (hd : decode cc pc = .ok (.lcmp, 1))  (k : V E g N ad ce sl f (pc + 1) lo (.int (lg_cmp x y) :: st)) : V E g N ad ce sl f pc lo (.long y :: .long x :: st) := by
  intro H locs ls hP hD hS hl
  exact W.lcmp hC.1 hC.2.1 hd (k H locs ls hP hD hS hl)
theorem V_idiv (hC : CX E g cc Ts own rm) {x y : Int32} (hd : decode cc pc = .ok (.idiv, 1)) (hne : ¬ y = 0) (k : V E g N ad ce sl f (pc + 1) lo (.int (x / y) :: st)) : V E g N ad ce sl f pc lo (.int y :: .int x :: st) := by
  intro H locs ls hP hD hS hl
  exact lv_idiv hC.1 hC.2.1 hd hne (k H locs ls hP hD hS hl)
theorem V_irem (hC : CX E g cc Ts own rm) {x y : Int32} (hd : decode cc pc = .ok (.irem, 1)) (hne : ¬ y = 0) (k : V E g N ad ce sl f (pc + 1) lo (.int (x - x / y * y) :: st)) : V E g N ad ce sl f pc lo (.int y :: .int x :: st) := by
  intro H locs ls hP hD hS hl
  exact lv_irem hC.1 hC.2.1 hd hne (k H locs ls hP hD hS hl)
theorem V_dup (hC : CX E g cc Ts own rm) {a : Value} (hd : decode cc pc = .ok (.dup, 1)) (ha : a.category = 1) (k : V E g N ad ce sl f (pc + 1) lo (a :: a :: st)) : V E g N ad ce sl f pc lo (a :: st) := by
  intro H locs ls hP hD hS hl
  exact lv_dup hC.1 hC.2.1 hd ha (k H locs ls hP hD hS hl)
theorem V_dup_x1 (hC : CX E g cc Ts own rm) {a b : Value} (hd : decode cc pc = .ok (.dup_x1, 1)) (ha : a.category = 1) (hb : b.category = 1) (k : V E g N ad ce sl f (pc + 1) lo (a :: b :: a :: st)) : V E g N ad ce sl f pc lo (a :: b :: st) := by
  intro H locs ls hP hD hS hl
  exact lv_dup_x1 hC.1 hC.2.1 hd ha hb (k H locs ls hP hD hS hl)
theorem V_dup2 (hC : CX E g cc Ts own rm) {a b : Value} (hd : decode cc pc = .ok (.dup2, 1)) (ha : a.category = 1) (hb : b.category = 1) (k : V E g N ad ce sl f (pc + 1) lo (a :: b :: a :: b :: st)) : V E g N ad ce sl f pc lo (a :: b :: st) := by
  intro H locs ls hP hD hS hl
  exact lv_dup2_11 hC.1 hC.2.1 hd ha hb (k H locs ls hP hD hS hl)
theorem V_pop (hC : CX E g cc Ts own rm) {a : Value} (hd : decode cc pc = .ok (.pop, 1)) (ha : a.category = 1) (k : V E g N ad ce sl f (pc + 1) lo (st)) : V E g N ad ce sl f pc lo (a :: st) := by
  intro H locs ls hP hD hS hl
  exact lv_pop hC.1 hC.2.1 hd ha (k H locs ls hP hD hS hl)
theorem V_iload_n (hC : CX E g cc Ts own rm) {k : Fin 4} {i : Nat} {x : Int32} (hd : decode cc pc = .ok (.iload_n k, 1)) (hi : (k : Nat) = i) (hv : lo[i]? = some (some (.int x))) (kk : V E g N ad ce sl f (pc + 1) lo (.int x :: st)) : V E g N ad ce sl f pc lo st := by
  intro H locs ls hP hD hS hl
  exact lv_iload_n hC.1 hC.2.1 hd hi (lvo_at hl hv) (kk H locs ls hP hD hS hl)
theorem V_iload (hC : CX E g cc Ts own rm) {i : Nat} {x : Int32} (hd : decode cc pc = .ok (.iload i, 2)) (hv : lo[i]? = some (some (.int x))) (kk : V E g N ad ce sl f (pc + 2) lo (.int x :: st)) : V E g N ad ce sl f pc lo st := by
  intro H locs ls hP hD hS hl
  exact lv_iload hC.1 hC.2.1 hd (lvo_at hl hv) (kk H locs ls hP hD hS hl)
theorem V_lload_n (hC : CX E g cc Ts own rm) {k : Fin 4} {i : Nat} {x : Int64} (hd : decode cc pc = .ok (.lload_n k, 1)) (hi : (k : Nat) = i) (hv : lo[i]? = some (some (.long x))) (kk : V E g N ad ce sl f (pc + 1) lo (.long x :: st)) : V E g N ad ce sl f pc lo st := by
  intro H locs ls hP hD hS hl
  exact lv_lload_n hC.1 hC.2.1 hd hi (lvo_at hl hv) (kk H locs ls hP hD hS hl)
theorem V_lload (hC : CX E g cc Ts own rm) {i : Nat} {x : Int64} (hd : decode cc pc = .ok (.lload i, 2)) (hv : lo[i]? = some (some (.long x))) (kk : V E g N ad ce sl f (pc + 2) lo (.long x :: st)) : V E g N ad ce sl f pc lo st := by
  intro H locs ls hP hD hS hl
  exact lv_lload hC.1 hC.2.1 hd (lvo_at hl hv) (kk H locs ls hP hD hS hl)
theorem V_aload_n (hC : CX E g cc Ts own rm) {k : Fin 4} {i : Nat} {x : Nat} (hd : decode cc pc = .ok (.aload_n k, 1)) (hi : (k : Nat) = i) (hv : lo[i]? = some (some (.ref x))) (kk : V E g N ad ce sl f (pc + 1) lo (.ref x :: st)) : V E g N ad ce sl f pc lo st := by
  intro H locs ls hP hD hS hl
  exact lv_aload_n hC.1 hC.2.1 hd hi (lvo_at hl hv) (kk H locs ls hP hD hS hl)
theorem V_aload (hC : CX E g cc Ts own rm) {i : Nat} {x : Nat} (hd : decode cc pc = .ok (.aload i, 2)) (hv : lo[i]? = some (some (.ref x))) (kk : V E g N ad ce sl f (pc + 2) lo (.ref x :: st)) : V E g N ad ce sl f pc lo st := by
  intro H locs ls hP hD hS hl
  exact lv_aload hC.1 hC.2.1 hd (lvo_at hl hv) (kk H locs ls hP hD hS hl)
theorem V_istore_n0 (hC : CX E g cc Ts own rm) {x : Int32} {v0 : Option Value} {t : List (Option Value)} {k : Fin 4} (hd : decode cc pc = .ok (.istore_n k, 1)) (hk : (k : Nat) = 0) (hn : 0 < eN E)  (kk : V E g N ad ce sl f (pc + 1) (some (.int x) :: t) st) : V E g N ad ce sl f pc (v0 :: t) (.int x :: st) := by
  intro H locs ls hP hD hS hl
  exact lv_istore_n hC.1 hC.2.1 hd hk hl hn rfl (fun ls hl2 => kk H locs ls hP hD hS (lvo_sub hl2 (lvo_put hl 0 _ (fun v h0 _ => absurd rfl h0))))
theorem V_istore0 (hC : CX E g cc Ts own rm) {x : Int32} {v0 : Option Value} {t : List (Option Value)}  (hd : decode cc pc = .ok (.istore 0, 2))  (hn : 0 < eN E)  (kk : V E g N ad ce sl f (pc + 2) (some (.int x) :: t) st) : V E g N ad ce sl f pc (v0 :: t) (.int x :: st) := by
  intro H locs ls hP hD hS hl
  exact lv_istore hC.1 hC.2.1 hd  hl hn rfl (fun ls hl2 => kk H locs ls hP hD hS (lvo_sub hl2 (lvo_put hl 0 _ (fun v h0 _ => absurd rfl h0))))
theorem V_astore_n0 (hC : CX E g cc Ts own rm) {x : Nat} {v0 : Option Value} {t : List (Option Value)} {k : Fin 4} (hd : decode cc pc = .ok (.astore_n k, 1)) (hk : (k : Nat) = 0) (hn : 0 < eN E)  (kk : V E g N ad ce sl f (pc + 1) (some (.ref x) :: t) st) : V E g N ad ce sl f pc (v0 :: t) (.ref x :: st) := by
  intro H locs ls hP hD hS hl
  exact lv_astore_n hC.1 hC.2.1 hd hk hl hn rfl (fun ls hl2 => kk H locs ls hP hD hS (lvo_sub hl2 (lvo_put hl 0 _ (fun v h0 _ => absurd rfl h0))))
theorem V_astore0 (hC : CX E g cc Ts own rm) {x : Nat} {v0 : Option Value} {t : List (Option Value)}  (hd : decode cc pc = .ok (.astore 0, 2))  (hn : 0 < eN E)  (kk : V E g N ad ce sl f (pc + 2) (some (.ref x) :: t) st) : V E g N ad ce sl f pc (v0 :: t) (.ref x :: st) := by
  intro H locs ls hP hD hS hl
  exact lv_astore hC.1 hC.2.1 hd  hl hn rfl (fun ls hl2 => kk H locs ls hP hD hS (lvo_sub hl2 (lvo_put hl 0 _ (fun v h0 _ => absurd rfl h0))))
theorem V_iinc0 (hC : CX E g cc Ts own rm) {x : Int32} {z : Option Value} {t : List (Option Value)} {n : Int} (v : Int32) (hd : decode cc pc = .ok (.iinc 0 n, 3)) (hv : x + Int32.ofInt n = v) (hn : 0 < eN E)  (kk : V E g N ad ce sl f (pc + 3) (some (.int v) :: t) st) : V E g N ad ce sl f pc (some (.int x) :: t) st := by
  intro H locs ls hP hD hS hl
  obtain ⟨k, hk⟩ := List.getElem?_of_mem ((lvo_mem (some (.int x) :: t) 0 0 (.int x)).mpr ⟨0, by omega, rfl⟩)
  exact lv_iinc hC.1 hC.2.1 hd hl hk hv hn rfl (fun ls hl2 => kk H locs ls hP hD hS (lvo_sub hl2 (lvo_put hl 0 _ (fun v h0 _ => absurd rfl h0))))
theorem V_istore_n1 (hC : CX E g cc Ts own rm) {x : Int32} {v0 v1 : Option Value} {t : List (Option Value)} {k : Fin 4} (hd : decode cc pc = .ok (.istore_n k, 1)) (hk : (k : Nat) = 1) (hn : 1 < eN E) (hc : c1 v0 = true) (kk : V E g N ad ce sl f (pc + 1) (v0 :: some (.int x) :: t) st) : V E g N ad ce sl f pc (v0 :: v1 :: t) (.int x :: st) := by
  intro H locs ls hP hD hS hl
  exact lv_istore_n hC.1 hC.2.1 hd hk hl hn rfl (fun ls hl2 => kk H locs ls hP hD hS (lvo_sub hl2 (lvo_put hl 1 _ (fun v _ h => by have h : v0 = some v := (by simpa using h); subst h; simpa [c1] using hc))))
theorem V_istore1 (hC : CX E g cc Ts own rm) {x : Int32} {v0 v1 : Option Value} {t : List (Option Value)}  (hd : decode cc pc = .ok (.istore 1, 2))  (hn : 1 < eN E) (hc : c1 v0 = true) (kk : V E g N ad ce sl f (pc + 2) (v0 :: some (.int x) :: t) st) : V E g N ad ce sl f pc (v0 :: v1 :: t) (.int x :: st) := by
  intro H locs ls hP hD hS hl
  exact lv_istore hC.1 hC.2.1 hd  hl hn rfl (fun ls hl2 => kk H locs ls hP hD hS (lvo_sub hl2 (lvo_put hl 1 _ (fun v _ h => by have h : v0 = some v := (by simpa using h); subst h; simpa [c1] using hc))))
theorem V_astore_n1 (hC : CX E g cc Ts own rm) {x : Nat} {v0 v1 : Option Value} {t : List (Option Value)} {k : Fin 4} (hd : decode cc pc = .ok (.astore_n k, 1)) (hk : (k : Nat) = 1) (hn : 1 < eN E) (hc : c1 v0 = true) (kk : V E g N ad ce sl f (pc + 1) (v0 :: some (.ref x) :: t) st) : V E g N ad ce sl f pc (v0 :: v1 :: t) (.ref x :: st) := by
  intro H locs ls hP hD hS hl
  exact lv_astore_n hC.1 hC.2.1 hd hk hl hn rfl (fun ls hl2 => kk H locs ls hP hD hS (lvo_sub hl2 (lvo_put hl 1 _ (fun v _ h => by have h : v0 = some v := (by simpa using h); subst h; simpa [c1] using hc))))
theorem V_astore1 (hC : CX E g cc Ts own rm) {x : Nat} {v0 v1 : Option Value} {t : List (Option Value)}  (hd : decode cc pc = .ok (.astore 1, 2))  (hn : 1 < eN E) (hc : c1 v0 = true) (kk : V E g N ad ce sl f (pc + 2) (v0 :: some (.ref x) :: t) st) : V E g N ad ce sl f pc (v0 :: v1 :: t) (.ref x :: st) := by
  intro H locs ls hP hD hS hl
  exact lv_astore hC.1 hC.2.1 hd  hl hn rfl (fun ls hl2 => kk H locs ls hP hD hS (lvo_sub hl2 (lvo_put hl 1 _ (fun v _ h => by have h : v0 = some v := (by simpa using h); subst h; simpa [c1] using hc))))
theorem V_iinc1 (hC : CX E g cc Ts own rm) {x : Int32} {v0 : Option Value} {t : List (Option Value)} {n : Int} (v : Int32) (hd : decode cc pc = .ok (.iinc 1 n, 3)) (hv : x + Int32.ofInt n = v) (hn : 1 < eN E) (hc : c1 v0 = true) (kk : V E g N ad ce sl f (pc + 3) (v0 :: some (.int v) :: t) st) : V E g N ad ce sl f pc (v0 :: some (.int x) :: t) st := by
  intro H locs ls hP hD hS hl
  obtain ⟨k, hk⟩ := List.getElem?_of_mem ((lvo_mem (v0 :: some (.int x) :: t) 0 1 (.int x)).mpr ⟨1, by omega, rfl⟩)
  exact lv_iinc hC.1 hC.2.1 hd hl hk hv hn rfl (fun ls hl2 => kk H locs ls hP hD hS (lvo_sub hl2 (lvo_put hl 1 _ (fun v _ h => by have h : v0 = some v := (by simpa using h); subst h; simpa [c1] using hc))))
theorem V_istore_n2 (hC : CX E g cc Ts own rm) {x : Int32} {v0 v1 v2 : Option Value} {t : List (Option Value)} {k : Fin 4} (hd : decode cc pc = .ok (.istore_n k, 1)) (hk : (k : Nat) = 2) (hn : 2 < eN E) (hc : c1 v1 = true) (kk : V E g N ad ce sl f (pc + 1) (v0 :: v1 :: some (.int x) :: t) st) : V E g N ad ce sl f pc (v0 :: v1 :: v2 :: t) (.int x :: st) := by
  intro H locs ls hP hD hS hl
  exact lv_istore_n hC.1 hC.2.1 hd hk hl hn rfl (fun ls hl2 => kk H locs ls hP hD hS (lvo_sub hl2 (lvo_put hl 2 _ (fun v _ h => by have h : v1 = some v := (by simpa using h); subst h; simpa [c1] using hc))))
theorem V_istore2 (hC : CX E g cc Ts own rm) {x : Int32} {v0 v1 v2 : Option Value} {t : List (Option Value)}  (hd : decode cc pc = .ok (.istore 2, 2))  (hn : 2 < eN E) (hc : c1 v1 = true) (kk : V E g N ad ce sl f (pc + 2) (v0 :: v1 :: some (.int x) :: t) st) : V E g N ad ce sl f pc (v0 :: v1 :: v2 :: t) (.int x :: st) := by
  intro H locs ls hP hD hS hl
  exact lv_istore hC.1 hC.2.1 hd  hl hn rfl (fun ls hl2 => kk H locs ls hP hD hS (lvo_sub hl2 (lvo_put hl 2 _ (fun v _ h => by have h : v1 = some v := (by simpa using h); subst h; simpa [c1] using hc))))
theorem V_astore_n2 (hC : CX E g cc Ts own rm) {x : Nat} {v0 v1 v2 : Option Value} {t : List (Option Value)} {k : Fin 4} (hd : decode cc pc = .ok (.astore_n k, 1)) (hk : (k : Nat) = 2) (hn : 2 < eN E) (hc : c1 v1 = true) (kk : V E g N ad ce sl f (pc + 1) (v0 :: v1 :: some (.ref x) :: t) st) : V E g N ad ce sl f pc (v0 :: v1 :: v2 :: t) (.ref x :: st) := by
  intro H locs ls hP hD hS hl
  exact lv_astore_n hC.1 hC.2.1 hd hk hl hn rfl (fun ls hl2 => kk H locs ls hP hD hS (lvo_sub hl2 (lvo_put hl 2 _ (fun v _ h => by have h : v1 = some v := (by simpa using h); subst h; simpa [c1] using hc))))
theorem V_astore2 (hC : CX E g cc Ts own rm) {x : Nat} {v0 v1 v2 : Option Value} {t : List (Option Value)}  (hd : decode cc pc = .ok (.astore 2, 2))  (hn : 2 < eN E) (hc : c1 v1 = true) (kk : V E g N ad ce sl f (pc + 2) (v0 :: v1 :: some (.ref x) :: t) st) : V E g N ad ce sl f pc (v0 :: v1 :: v2 :: t) (.ref x :: st) := by
  intro H locs ls hP hD hS hl
  exact lv_astore hC.1 hC.2.1 hd  hl hn rfl (fun ls hl2 => kk H locs ls hP hD hS (lvo_sub hl2 (lvo_put hl 2 _ (fun v _ h => by have h : v1 = some v := (by simpa using h); subst h; simpa [c1] using hc))))
theorem V_iinc2 (hC : CX E g cc Ts own rm) {x : Int32} {v0 v1 : Option Value} {t : List (Option Value)} {n : Int} (v : Int32) (hd : decode cc pc = .ok (.iinc 2 n, 3)) (hv : x + Int32.ofInt n = v) (hn : 2 < eN E) (hc : c1 v1 = true) (kk : V E g N ad ce sl f (pc + 3) (v0 :: v1 :: some (.int v) :: t) st) : V E g N ad ce sl f pc (v0 :: v1 :: some (.int x) :: t) st := by
  intro H locs ls hP hD hS hl
  obtain ⟨k, hk⟩ := List.getElem?_of_mem ((lvo_mem (v0 :: v1 :: some (.int x) :: t) 0 2 (.int x)).mpr ⟨2, by omega, rfl⟩)
  exact lv_iinc hC.1 hC.2.1 hd hl hk hv hn rfl (fun ls hl2 => kk H locs ls hP hD hS (lvo_sub hl2 (lvo_put hl 2 _ (fun v _ h => by have h : v1 = some v := (by simpa using h); subst h; simpa [c1] using hc))))
theorem V_istore_n3 (hC : CX E g cc Ts own rm) {x : Int32} {v0 v1 v2 v3 : Option Value} {t : List (Option Value)} {k : Fin 4} (hd : decode cc pc = .ok (.istore_n k, 1)) (hk : (k : Nat) = 3) (hn : 3 < eN E) (hc : c1 v2 = true) (kk : V E g N ad ce sl f (pc + 1) (v0 :: v1 :: v2 :: some (.int x) :: t) st) : V E g N ad ce sl f pc (v0 :: v1 :: v2 :: v3 :: t) (.int x :: st) := by
  intro H locs ls hP hD hS hl
  exact lv_istore_n hC.1 hC.2.1 hd hk hl hn rfl (fun ls hl2 => kk H locs ls hP hD hS (lvo_sub hl2 (lvo_put hl 3 _ (fun v _ h => by have h : v2 = some v := (by simpa using h); subst h; simpa [c1] using hc))))
theorem V_istore3 (hC : CX E g cc Ts own rm) {x : Int32} {v0 v1 v2 v3 : Option Value} {t : List (Option Value)}  (hd : decode cc pc = .ok (.istore 3, 2))  (hn : 3 < eN E) (hc : c1 v2 = true) (kk : V E g N ad ce sl f (pc + 2) (v0 :: v1 :: v2 :: some (.int x) :: t) st) : V E g N ad ce sl f pc (v0 :: v1 :: v2 :: v3 :: t) (.int x :: st) := by
  intro H locs ls hP hD hS hl
  exact lv_istore hC.1 hC.2.1 hd  hl hn rfl (fun ls hl2 => kk H locs ls hP hD hS (lvo_sub hl2 (lvo_put hl 3 _ (fun v _ h => by have h : v2 = some v := (by simpa using h); subst h; simpa [c1] using hc))))
theorem V_astore_n3 (hC : CX E g cc Ts own rm) {x : Nat} {v0 v1 v2 v3 : Option Value} {t : List (Option Value)} {k : Fin 4} (hd : decode cc pc = .ok (.astore_n k, 1)) (hk : (k : Nat) = 3) (hn : 3 < eN E) (hc : c1 v2 = true) (kk : V E g N ad ce sl f (pc + 1) (v0 :: v1 :: v2 :: some (.ref x) :: t) st) : V E g N ad ce sl f pc (v0 :: v1 :: v2 :: v3 :: t) (.ref x :: st) := by
  intro H locs ls hP hD hS hl
  exact lv_astore_n hC.1 hC.2.1 hd hk hl hn rfl (fun ls hl2 => kk H locs ls hP hD hS (lvo_sub hl2 (lvo_put hl 3 _ (fun v _ h => by have h : v2 = some v := (by simpa using h); subst h; simpa [c1] using hc))))
theorem V_astore3 (hC : CX E g cc Ts own rm) {x : Nat} {v0 v1 v2 v3 : Option Value} {t : List (Option Value)}  (hd : decode cc pc = .ok (.astore 3, 2))  (hn : 3 < eN E) (hc : c1 v2 = true) (kk : V E g N ad ce sl f (pc + 2) (v0 :: v1 :: v2 :: some (.ref x) :: t) st) : V E g N ad ce sl f pc (v0 :: v1 :: v2 :: v3 :: t) (.ref x :: st) := by
  intro H locs ls hP hD hS hl
  exact lv_astore hC.1 hC.2.1 hd  hl hn rfl (fun ls hl2 => kk H locs ls hP hD hS (lvo_sub hl2 (lvo_put hl 3 _ (fun v _ h => by have h : v2 = some v := (by simpa using h); subst h; simpa [c1] using hc))))
theorem V_iinc3 (hC : CX E g cc Ts own rm) {x : Int32} {v0 v1 v2 : Option Value} {t : List (Option Value)} {n : Int} (v : Int32) (hd : decode cc pc = .ok (.iinc 3 n, 3)) (hv : x + Int32.ofInt n = v) (hn : 3 < eN E) (hc : c1 v2 = true) (kk : V E g N ad ce sl f (pc + 3) (v0 :: v1 :: v2 :: some (.int v) :: t) st) : V E g N ad ce sl f pc (v0 :: v1 :: v2 :: some (.int x) :: t) st := by
  intro H locs ls hP hD hS hl
  obtain ⟨k, hk⟩ := List.getElem?_of_mem ((lvo_mem (v0 :: v1 :: v2 :: some (.int x) :: t) 0 3 (.int x)).mpr ⟨3, by omega, rfl⟩)
  exact lv_iinc hC.1 hC.2.1 hd hl hk hv hn rfl (fun ls hl2 => kk H locs ls hP hD hS (lvo_sub hl2 (lvo_put hl 3 _ (fun v _ h => by have h : v2 = some v := (by simpa using h); subst h; simpa [c1] using hc))))
theorem V_istore4 (hC : CX E g cc Ts own rm) {x : Int32} {v0 v1 v2 v3 v4 : Option Value} {t : List (Option Value)}  (hd : decode cc pc = .ok (.istore 4, 2))  (hn : 4 < eN E) (hc : c1 v3 = true) (kk : V E g N ad ce sl f (pc + 2) (v0 :: v1 :: v2 :: v3 :: some (.int x) :: t) st) : V E g N ad ce sl f pc (v0 :: v1 :: v2 :: v3 :: v4 :: t) (.int x :: st) := by
  intro H locs ls hP hD hS hl
  exact lv_istore hC.1 hC.2.1 hd  hl hn rfl (fun ls hl2 => kk H locs ls hP hD hS (lvo_sub hl2 (lvo_put hl 4 _ (fun v _ h => by have h : v3 = some v := (by simpa using h); subst h; simpa [c1] using hc))))
theorem V_astore4 (hC : CX E g cc Ts own rm) {x : Nat} {v0 v1 v2 v3 v4 : Option Value} {t : List (Option Value)}  (hd : decode cc pc = .ok (.astore 4, 2))  (hn : 4 < eN E) (hc : c1 v3 = true) (kk : V E g N ad ce sl f (pc + 2) (v0 :: v1 :: v2 :: v3 :: some (.ref x) :: t) st) : V E g N ad ce sl f pc (v0 :: v1 :: v2 :: v3 :: v4 :: t) (.ref x :: st) := by
  intro H locs ls hP hD hS hl
  exact lv_astore hC.1 hC.2.1 hd  hl hn rfl (fun ls hl2 => kk H locs ls hP hD hS (lvo_sub hl2 (lvo_put hl 4 _ (fun v _ h => by have h : v3 = some v := (by simpa using h); subst h; simpa [c1] using hc))))
theorem V_iinc4 (hC : CX E g cc Ts own rm) {x : Int32} {v0 v1 v2 v3 : Option Value} {t : List (Option Value)} {n : Int} (v : Int32) (hd : decode cc pc = .ok (.iinc 4 n, 3)) (hv : x + Int32.ofInt n = v) (hn : 4 < eN E) (hc : c1 v3 = true) (kk : V E g N ad ce sl f (pc + 3) (v0 :: v1 :: v2 :: v3 :: some (.int v) :: t) st) : V E g N ad ce sl f pc (v0 :: v1 :: v2 :: v3 :: some (.int x) :: t) st := by
  intro H locs ls hP hD hS hl
  obtain ⟨k, hk⟩ := List.getElem?_of_mem ((lvo_mem (v0 :: v1 :: v2 :: v3 :: some (.int x) :: t) 0 4 (.int x)).mpr ⟨4, by omega, rfl⟩)
  exact lv_iinc hC.1 hC.2.1 hd hl hk hv hn rfl (fun ls hl2 => kk H locs ls hP hD hS (lvo_sub hl2 (lvo_put hl 4 _ (fun v _ h => by have h : v3 = some v := (by simpa using h); subst h; simpa [c1] using hc))))
theorem V_istore5 (hC : CX E g cc Ts own rm) {x : Int32} {v0 v1 v2 v3 v4 v5 : Option Value} {t : List (Option Value)}  (hd : decode cc pc = .ok (.istore 5, 2))  (hn : 5 < eN E) (hc : c1 v4 = true) (kk : V E g N ad ce sl f (pc + 2) (v0 :: v1 :: v2 :: v3 :: v4 :: some (.int x) :: t) st) : V E g N ad ce sl f pc (v0 :: v1 :: v2 :: v3 :: v4 :: v5 :: t) (.int x :: st) := by
  intro H locs ls hP hD hS hl
  exact lv_istore hC.1 hC.2.1 hd  hl hn rfl (fun ls hl2 => kk H locs ls hP hD hS (lvo_sub hl2 (lvo_put hl 5 _ (fun v _ h => by have h : v4 = some v := (by simpa using h); subst h; simpa [c1] using hc))))
theorem V_astore5 (hC : CX E g cc Ts own rm) {x : Nat} {v0 v1 v2 v3 v4 v5 : Option Value} {t : List (Option Value)}  (hd : decode cc pc = .ok (.astore 5, 2))  (hn : 5 < eN E) (hc : c1 v4 = true) (kk : V E g N ad ce sl f (pc + 2) (v0 :: v1 :: v2 :: v3 :: v4 :: some (.ref x) :: t) st) : V E g N ad ce sl f pc (v0 :: v1 :: v2 :: v3 :: v4 :: v5 :: t) (.ref x :: st) := by
  intro H locs ls hP hD hS hl
  exact lv_astore hC.1 hC.2.1 hd  hl hn rfl (fun ls hl2 => kk H locs ls hP hD hS (lvo_sub hl2 (lvo_put hl 5 _ (fun v _ h => by have h : v4 = some v := (by simpa using h); subst h; simpa [c1] using hc))))
theorem V_iinc5 (hC : CX E g cc Ts own rm) {x : Int32} {v0 v1 v2 v3 v4 : Option Value} {t : List (Option Value)} {n : Int} (v : Int32) (hd : decode cc pc = .ok (.iinc 5 n, 3)) (hv : x + Int32.ofInt n = v) (hn : 5 < eN E) (hc : c1 v4 = true) (kk : V E g N ad ce sl f (pc + 3) (v0 :: v1 :: v2 :: v3 :: v4 :: some (.int v) :: t) st) : V E g N ad ce sl f pc (v0 :: v1 :: v2 :: v3 :: v4 :: some (.int x) :: t) st := by
  intro H locs ls hP hD hS hl
  obtain ⟨k, hk⟩ := List.getElem?_of_mem ((lvo_mem (v0 :: v1 :: v2 :: v3 :: v4 :: some (.int x) :: t) 0 5 (.int x)).mpr ⟨5, by omega, rfl⟩)
  exact lv_iinc hC.1 hC.2.1 hd hl hk hv hn rfl (fun ls hl2 => kk H locs ls hP hD hS (lvo_sub hl2 (lvo_put hl 5 _ (fun v _ h => by have h : v4 = some v := (by simpa using h); subst h; simpa [c1] using hc))))
theorem V_istore6 (hC : CX E g cc Ts own rm) {x : Int32} {v0 v1 v2 v3 v4 v5 v6 : Option Value} {t : List (Option Value)}  (hd : decode cc pc = .ok (.istore 6, 2))  (hn : 6 < eN E) (hc : c1 v5 = true) (kk : V E g N ad ce sl f (pc + 2) (v0 :: v1 :: v2 :: v3 :: v4 :: v5 :: some (.int x) :: t) st) : V E g N ad ce sl f pc (v0 :: v1 :: v2 :: v3 :: v4 :: v5 :: v6 :: t) (.int x :: st) := by
  intro H locs ls hP hD hS hl
  exact lv_istore hC.1 hC.2.1 hd  hl hn rfl (fun ls hl2 => kk H locs ls hP hD hS (lvo_sub hl2 (lvo_put hl 6 _ (fun v _ h => by have h : v5 = some v := (by simpa using h); subst h; simpa [c1] using hc))))
theorem V_astore6 (hC : CX E g cc Ts own rm) {x : Nat} {v0 v1 v2 v3 v4 v5 v6 : Option Value} {t : List (Option Value)}  (hd : decode cc pc = .ok (.astore 6, 2))  (hn : 6 < eN E) (hc : c1 v5 = true) (kk : V E g N ad ce sl f (pc + 2) (v0 :: v1 :: v2 :: v3 :: v4 :: v5 :: some (.ref x) :: t) st) : V E g N ad ce sl f pc (v0 :: v1 :: v2 :: v3 :: v4 :: v5 :: v6 :: t) (.ref x :: st) := by
  intro H locs ls hP hD hS hl
  exact lv_astore hC.1 hC.2.1 hd  hl hn rfl (fun ls hl2 => kk H locs ls hP hD hS (lvo_sub hl2 (lvo_put hl 6 _ (fun v _ h => by have h : v5 = some v := (by simpa using h); subst h; simpa [c1] using hc))))
theorem V_iinc6 (hC : CX E g cc Ts own rm) {x : Int32} {v0 v1 v2 v3 v4 v5 : Option Value} {t : List (Option Value)} {n : Int} (v : Int32) (hd : decode cc pc = .ok (.iinc 6 n, 3)) (hv : x + Int32.ofInt n = v) (hn : 6 < eN E) (hc : c1 v5 = true) (kk : V E g N ad ce sl f (pc + 3) (v0 :: v1 :: v2 :: v3 :: v4 :: v5 :: some (.int v) :: t) st) : V E g N ad ce sl f pc (v0 :: v1 :: v2 :: v3 :: v4 :: v5 :: some (.int x) :: t) st := by
  intro H locs ls hP hD hS hl
  obtain ⟨k, hk⟩ := List.getElem?_of_mem ((lvo_mem (v0 :: v1 :: v2 :: v3 :: v4 :: v5 :: some (.int x) :: t) 0 6 (.int x)).mpr ⟨6, by omega, rfl⟩)
  exact lv_iinc hC.1 hC.2.1 hd hl hk hv hn rfl (fun ls hl2 => kk H locs ls hP hD hS (lvo_sub hl2 (lvo_put hl 6 _ (fun v _ h => by have h : v5 = some v := (by simpa using h); subst h; simpa [c1] using hc))))
theorem V_istore7 (hC : CX E g cc Ts own rm) {x : Int32} {v0 v1 v2 v3 v4 v5 v6 v7 : Option Value} {t : List (Option Value)}  (hd : decode cc pc = .ok (.istore 7, 2))  (hn : 7 < eN E) (hc : c1 v6 = true) (kk : V E g N ad ce sl f (pc + 2) (v0 :: v1 :: v2 :: v3 :: v4 :: v5 :: v6 :: some (.int x) :: t) st) : V E g N ad ce sl f pc (v0 :: v1 :: v2 :: v3 :: v4 :: v5 :: v6 :: v7 :: t) (.int x :: st) := by
  intro H locs ls hP hD hS hl
  exact lv_istore hC.1 hC.2.1 hd  hl hn rfl (fun ls hl2 => kk H locs ls hP hD hS (lvo_sub hl2 (lvo_put hl 7 _ (fun v _ h => by have h : v6 = some v := (by simpa using h); subst h; simpa [c1] using hc))))
theorem V_astore7 (hC : CX E g cc Ts own rm) {x : Nat} {v0 v1 v2 v3 v4 v5 v6 v7 : Option Value} {t : List (Option Value)}  (hd : decode cc pc = .ok (.astore 7, 2))  (hn : 7 < eN E) (hc : c1 v6 = true) (kk : V E g N ad ce sl f (pc + 2) (v0 :: v1 :: v2 :: v3 :: v4 :: v5 :: v6 :: some (.ref x) :: t) st) : V E g N ad ce sl f pc (v0 :: v1 :: v2 :: v3 :: v4 :: v5 :: v6 :: v7 :: t) (.ref x :: st) := by
  intro H locs ls hP hD hS hl
  exact lv_astore hC.1 hC.2.1 hd  hl hn rfl (fun ls hl2 => kk H locs ls hP hD hS (lvo_sub hl2 (lvo_put hl 7 _ (fun v _ h => by have h : v6 = some v := (by simpa using h); subst h; simpa [c1] using hc))))
theorem V_iinc7 (hC : CX E g cc Ts own rm) {x : Int32} {v0 v1 v2 v3 v4 v5 v6 : Option Value} {t : List (Option Value)} {n : Int} (v : Int32) (hd : decode cc pc = .ok (.iinc 7 n, 3)) (hv : x + Int32.ofInt n = v) (hn : 7 < eN E) (hc : c1 v6 = true) (kk : V E g N ad ce sl f (pc + 3) (v0 :: v1 :: v2 :: v3 :: v4 :: v5 :: v6 :: some (.int v) :: t) st) : V E g N ad ce sl f pc (v0 :: v1 :: v2 :: v3 :: v4 :: v5 :: v6 :: some (.int x) :: t) st := by
  intro H locs ls hP hD hS hl
  obtain ⟨k, hk⟩ := List.getElem?_of_mem ((lvo_mem (v0 :: v1 :: v2 :: v3 :: v4 :: v5 :: v6 :: some (.int x) :: t) 0 7 (.int x)).mpr ⟨7, by omega, rfl⟩)
  exact lv_iinc hC.1 hC.2.1 hd hl hk hv hn rfl (fun ls hl2 => kk H locs ls hP hD hS (lvo_sub hl2 (lvo_put hl 7 _ (fun v _ h => by have h : v6 = some v := (by simpa using h); subst h; simpa [c1] using hc))))
theorem V_if_eq (hC : CX E g cc Ts own rm) {x : Int32} {off : Int} (tgt : Nat) (hd : decode cc pc = .ok (.ifCond .eq off, 3)) (ht : (pc : Int) + off = (tgt : Int)) (kt : x = 0 → V E g N ad ce sl f tgt lo st) (kf : ¬ x = 0 → V E g N ad ce sl f (pc + 3) lo st) : V E g N ad ce sl f pc lo (.int x :: st) := by
  intro H locs ls hP hD hS hl
  exact lv_if_eq hC.1 hC.2.1 hd ht (fun h => kt h H locs ls hP hD hS hl) (fun h => kf h H locs ls hP hD hS hl)
theorem V_icmp_eq (hC : CX E g cc Ts own rm) {x y : Int32} {off : Int} (tgt : Nat) (hd : decode cc pc = .ok (.if_icmp .eq off, 3)) (ht : (pc : Int) + off = (tgt : Int)) (kt : x = y → V E g N ad ce sl f tgt lo st) (kf : ¬ x = y → V E g N ad ce sl f (pc + 3) lo st) : V E g N ad ce sl f pc lo (.int y :: .int x :: st) := by
  intro H locs ls hP hD hS hl
  exact lv_icmp_eq hC.1 hC.2.1 hd ht (fun h => kt h H locs ls hP hD hS hl) (fun h => kf h H locs ls hP hD hS hl)
theorem V_if_eq_t (hC : CX E g cc Ts own rm) {x : Int32} {off : Int} (tgt : Nat) (hd : decode cc pc = .ok (.ifCond .eq off, 3)) (ht : (pc : Int) + off = (tgt : Int)) (h : x = 0) (kt : V E g N ad ce sl f tgt lo st) : V E g N ad ce sl f pc lo (.int x :: st) := V_if_eq hC tgt hd ht (fun _ => kt) (fun q => absurd h (by first | exact q | exact fun z => z q))
theorem V_icmp_eq_t (hC : CX E g cc Ts own rm) {x y : Int32} {off : Int} (tgt : Nat) (hd : decode cc pc = .ok (.if_icmp .eq off, 3)) (ht : (pc : Int) + off = (tgt : Int)) (h : x = y) (kt : V E g N ad ce sl f tgt lo st) : V E g N ad ce sl f pc lo (.int y :: .int x :: st) := V_icmp_eq hC tgt hd ht (fun _ => kt) (fun q => absurd h (by first | exact q | exact fun z => z q))
theorem V_if_eq_f (hC : CX E g cc Ts own rm) {x : Int32} {off : Int} {tgt : Nat} (hd : decode cc pc = .ok (.ifCond .eq off, 3)) (ht : (pc : Int) + off = (tgt : Int)) (h : ¬ x = 0) (kf : V E g N ad ce sl f (pc + 3) lo st) : V E g N ad ce sl f pc lo (.int x :: st) := V_if_eq hC tgt hd ht (fun q => absurd q (by first | exact h | exact fun z => z h)) (fun _ => kf)
theorem V_icmp_eq_f (hC : CX E g cc Ts own rm) {x y : Int32} {off : Int} {tgt : Nat} (hd : decode cc pc = .ok (.if_icmp .eq off, 3)) (ht : (pc : Int) + off = (tgt : Int)) (h : ¬ x = y) (kf : V E g N ad ce sl f (pc + 3) lo st) : V E g N ad ce sl f pc lo (.int y :: .int x :: st) := V_icmp_eq hC tgt hd ht (fun q => absurd q (by first | exact h | exact fun z => z h)) (fun _ => kf)
theorem V_if_ne (hC : CX E g cc Ts own rm) {x : Int32} {off : Int} (tgt : Nat) (hd : decode cc pc = .ok (.ifCond .ne off, 3)) (ht : (pc : Int) + off = (tgt : Int)) (kt : ¬ x = 0 → V E g N ad ce sl f tgt lo st) (kf : x = 0 → V E g N ad ce sl f (pc + 3) lo st) : V E g N ad ce sl f pc lo (.int x :: st) := by
  intro H locs ls hP hD hS hl
  exact lv_if_ne hC.1 hC.2.1 hd ht (fun h => kt h H locs ls hP hD hS hl) (fun h => kf h H locs ls hP hD hS hl)
theorem V_icmp_ne (hC : CX E g cc Ts own rm) {x y : Int32} {off : Int} (tgt : Nat) (hd : decode cc pc = .ok (.if_icmp .ne off, 3)) (ht : (pc : Int) + off = (tgt : Int)) (kt : ¬ x = y → V E g N ad ce sl f tgt lo st) (kf : x = y → V E g N ad ce sl f (pc + 3) lo st) : V E g N ad ce sl f pc lo (.int y :: .int x :: st) := by
  intro H locs ls hP hD hS hl
  exact lv_icmp_ne hC.1 hC.2.1 hd ht (fun h => kt h H locs ls hP hD hS hl) (fun h => kf h H locs ls hP hD hS hl)
theorem V_if_ne_t (hC : CX E g cc Ts own rm) {x : Int32} {off : Int} (tgt : Nat) (hd : decode cc pc = .ok (.ifCond .ne off, 3)) (ht : (pc : Int) + off = (tgt : Int)) (h : ¬ x = 0) (kt : V E g N ad ce sl f tgt lo st) : V E g N ad ce sl f pc lo (.int x :: st) := V_if_ne hC tgt hd ht (fun _ => kt) (fun q => absurd h (by first | exact q | exact fun z => z q))
theorem V_icmp_ne_t (hC : CX E g cc Ts own rm) {x y : Int32} {off : Int} (tgt : Nat) (hd : decode cc pc = .ok (.if_icmp .ne off, 3)) (ht : (pc : Int) + off = (tgt : Int)) (h : ¬ x = y) (kt : V E g N ad ce sl f tgt lo st) : V E g N ad ce sl f pc lo (.int y :: .int x :: st) := V_icmp_ne hC tgt hd ht (fun _ => kt) (fun q => absurd h (by first | exact q | exact fun z => z q))
theorem V_if_ne_f (hC : CX E g cc Ts own rm) {x : Int32} {off : Int} {tgt : Nat} (hd : decode cc pc = .ok (.ifCond .ne off, 3)) (ht : (pc : Int) + off = (tgt : Int)) (h : x = 0) (kf : V E g N ad ce sl f (pc + 3) lo st) : V E g N ad ce sl f pc lo (.int x :: st) := V_if_ne hC tgt hd ht (fun q => absurd q (by first | exact h | exact fun z => z h)) (fun _ => kf)
theorem V_icmp_ne_f (hC : CX E g cc Ts own rm) {x y : Int32} {off : Int} {tgt : Nat} (hd : decode cc pc = .ok (.if_icmp .ne off, 3)) (ht : (pc : Int) + off = (tgt : Int)) (h : x = y) (kf : V E g N ad ce sl f (pc + 3) lo st) : V E g N ad ce sl f pc lo (.int y :: .int x :: st) := V_icmp_ne hC tgt hd ht (fun q => absurd q (by first | exact h | exact fun z => z h)) (fun _ => kf)
theorem V_if_lt (hC : CX E g cc Ts own rm) {x : Int32} {off : Int} (tgt : Nat) (hd : decode cc pc = .ok (.ifCond .lt off, 3)) (ht : (pc : Int) + off = (tgt : Int)) (kt : x < 0 → V E g N ad ce sl f tgt lo st) (kf : ¬ x < 0 → V E g N ad ce sl f (pc + 3) lo st) : V E g N ad ce sl f pc lo (.int x :: st) := by
  intro H locs ls hP hD hS hl
  exact lv_if_lt hC.1 hC.2.1 hd ht (fun h => kt h H locs ls hP hD hS hl) (fun h => kf h H locs ls hP hD hS hl)
theorem V_icmp_lt (hC : CX E g cc Ts own rm) {x y : Int32} {off : Int} (tgt : Nat) (hd : decode cc pc = .ok (.if_icmp .lt off, 3)) (ht : (pc : Int) + off = (tgt : Int)) (kt : x < y → V E g N ad ce sl f tgt lo st) (kf : ¬ x < y → V E g N ad ce sl f (pc + 3) lo st) : V E g N ad ce sl f pc lo (.int y :: .int x :: st) := by
  intro H locs ls hP hD hS hl
  exact lv_icmp_lt hC.1 hC.2.1 hd ht (fun h => kt h H locs ls hP hD hS hl) (fun h => kf h H locs ls hP hD hS hl)
theorem V_if_lt_t (hC : CX E g cc Ts own rm) {x : Int32} {off : Int} (tgt : Nat) (hd : decode cc pc = .ok (.ifCond .lt off, 3)) (ht : (pc : Int) + off = (tgt : Int)) (h : x < 0) (kt : V E g N ad ce sl f tgt lo st) : V E g N ad ce sl f pc lo (.int x :: st) := V_if_lt hC tgt hd ht (fun _ => kt) (fun q => absurd h (by first | exact q | exact fun z => z q))
theorem V_icmp_lt_t (hC : CX E g cc Ts own rm) {x y : Int32} {off : Int} (tgt : Nat) (hd : decode cc pc = .ok (.if_icmp .lt off, 3)) (ht : (pc : Int) + off = (tgt : Int)) (h : x < y) (kt : V E g N ad ce sl f tgt lo st) : V E g N ad ce sl f pc lo (.int y :: .int x :: st) := V_icmp_lt hC tgt hd ht (fun _ => kt) (fun q => absurd h (by first | exact q | exact fun z => z q))
theorem V_if_lt_f (hC : CX E g cc Ts own rm) {x : Int32} {off : Int} {tgt : Nat} (hd : decode cc pc = .ok (.ifCond .lt off, 3)) (ht : (pc : Int) + off = (tgt : Int)) (h : ¬ x < 0) (kf : V E g N ad ce sl f (pc + 3) lo st) : V E g N ad ce sl f pc lo (.int x :: st) := V_if_lt hC tgt hd ht (fun q => absurd q (by first | exact h | exact fun z => z h)) (fun _ => kf)
theorem V_icmp_lt_f (hC : CX E g cc Ts own rm) {x y : Int32} {off : Int} {tgt : Nat} (hd : decode cc pc = .ok (.if_icmp .lt off, 3)) (ht : (pc : Int) + off = (tgt : Int)) (h : ¬ x < y) (kf : V E g N ad ce sl f (pc + 3) lo st) : V E g N ad ce sl f pc lo (.int y :: .int x :: st) := V_icmp_lt hC tgt hd ht (fun q => absurd q (by first | exact h | exact fun z => z h)) (fun _ => kf)
theorem V_if_ge (hC : CX E g cc Ts own rm) {x : Int32} {off : Int} (tgt : Nat) (hd : decode cc pc = .ok (.ifCond .ge off, 3)) (ht : (pc : Int) + off = (tgt : Int)) (kt : 0 ≤ x → V E g N ad ce sl f tgt lo st) (kf : ¬ 0 ≤ x → V E g N ad ce sl f (pc + 3) lo st) : V E g N ad ce sl f pc lo (.int x :: st) := by
  intro H locs ls hP hD hS hl
  exact lv_if_ge hC.1 hC.2.1 hd ht (fun h => kt h H locs ls hP hD hS hl) (fun h => kf h H locs ls hP hD hS hl)
theorem V_icmp_ge (hC : CX E g cc Ts own rm) {x y : Int32} {off : Int} (tgt : Nat) (hd : decode cc pc = .ok (.if_icmp .ge off, 3)) (ht : (pc : Int) + off = (tgt : Int)) (kt : y ≤ x → V E g N ad ce sl f tgt lo st) (kf : ¬ y ≤ x → V E g N ad ce sl f (pc + 3) lo st) : V E g N ad ce sl f pc lo (.int y :: .int x :: st) := by
  intro H locs ls hP hD hS hl
  exact lv_icmp_ge hC.1 hC.2.1 hd ht (fun h => kt h H locs ls hP hD hS hl) (fun h => kf h H locs ls hP hD hS hl)
theorem V_if_ge_t (hC : CX E g cc Ts own rm) {x : Int32} {off : Int} (tgt : Nat) (hd : decode cc pc = .ok (.ifCond .ge off, 3)) (ht : (pc : Int) + off = (tgt : Int)) (h : 0 ≤ x) (kt : V E g N ad ce sl f tgt lo st) : V E g N ad ce sl f pc lo (.int x :: st) := V_if_ge hC tgt hd ht (fun _ => kt) (fun q => absurd h (by first | exact q | exact fun z => z q))
theorem V_icmp_ge_t (hC : CX E g cc Ts own rm) {x y : Int32} {off : Int} (tgt : Nat) (hd : decode cc pc = .ok (.if_icmp .ge off, 3)) (ht : (pc : Int) + off = (tgt : Int)) (h : y ≤ x) (kt : V E g N ad ce sl f tgt lo st) : V E g N ad ce sl f pc lo (.int y :: .int x :: st) := V_icmp_ge hC tgt hd ht (fun _ => kt) (fun q => absurd h (by first | exact q | exact fun z => z q))
theorem V_if_ge_f (hC : CX E g cc Ts own rm) {x : Int32} {off : Int} {tgt : Nat} (hd : decode cc pc = .ok (.ifCond .ge off, 3)) (ht : (pc : Int) + off = (tgt : Int)) (h : ¬ 0 ≤ x) (kf : V E g N ad ce sl f (pc + 3) lo st) : V E g N ad ce sl f pc lo (.int x :: st) := V_if_ge hC tgt hd ht (fun q => absurd q (by first | exact h | exact fun z => z h)) (fun _ => kf)
theorem V_icmp_ge_f (hC : CX E g cc Ts own rm) {x y : Int32} {off : Int} {tgt : Nat} (hd : decode cc pc = .ok (.if_icmp .ge off, 3)) (ht : (pc : Int) + off = (tgt : Int)) (h : ¬ y ≤ x) (kf : V E g N ad ce sl f (pc + 3) lo st) : V E g N ad ce sl f pc lo (.int y :: .int x :: st) := V_icmp_ge hC tgt hd ht (fun q => absurd q (by first | exact h | exact fun z => z h)) (fun _ => kf)
theorem V_if_gt (hC : CX E g cc Ts own rm) {x : Int32} {off : Int} (tgt : Nat) (hd : decode cc pc = .ok (.ifCond .gt off, 3)) (ht : (pc : Int) + off = (tgt : Int)) (kt : 0 < x → V E g N ad ce sl f tgt lo st) (kf : ¬ 0 < x → V E g N ad ce sl f (pc + 3) lo st) : V E g N ad ce sl f pc lo (.int x :: st) := by
  intro H locs ls hP hD hS hl
  exact lv_if_gt hC.1 hC.2.1 hd ht (fun h => kt h H locs ls hP hD hS hl) (fun h => kf h H locs ls hP hD hS hl)
theorem V_icmp_gt (hC : CX E g cc Ts own rm) {x y : Int32} {off : Int} (tgt : Nat) (hd : decode cc pc = .ok (.if_icmp .gt off, 3)) (ht : (pc : Int) + off = (tgt : Int)) (kt : y < x → V E g N ad ce sl f tgt lo st) (kf : ¬ y < x → V E g N ad ce sl f (pc + 3) lo st) : V E g N ad ce sl f pc lo (.int y :: .int x :: st) := by
  intro H locs ls hP hD hS hl
  exact lv_icmp_gt hC.1 hC.2.1 hd ht (fun h => kt h H locs ls hP hD hS hl) (fun h => kf h H locs ls hP hD hS hl)
theorem V_if_gt_t (hC : CX E g cc Ts own rm) {x : Int32} {off : Int} (tgt : Nat) (hd : decode cc pc = .ok (.ifCond .gt off, 3)) (ht : (pc : Int) + off = (tgt : Int)) (h : 0 < x) (kt : V E g N ad ce sl f tgt lo st) : V E g N ad ce sl f pc lo (.int x :: st) := V_if_gt hC tgt hd ht (fun _ => kt) (fun q => absurd h (by first | exact q | exact fun z => z q))
theorem V_icmp_gt_t (hC : CX E g cc Ts own rm) {x y : Int32} {off : Int} (tgt : Nat) (hd : decode cc pc = .ok (.if_icmp .gt off, 3)) (ht : (pc : Int) + off = (tgt : Int)) (h : y < x) (kt : V E g N ad ce sl f tgt lo st) : V E g N ad ce sl f pc lo (.int y :: .int x :: st) := V_icmp_gt hC tgt hd ht (fun _ => kt) (fun q => absurd h (by first | exact q | exact fun z => z q))
theorem V_if_gt_f (hC : CX E g cc Ts own rm) {x : Int32} {off : Int} {tgt : Nat} (hd : decode cc pc = .ok (.ifCond .gt off, 3)) (ht : (pc : Int) + off = (tgt : Int)) (h : ¬ 0 < x) (kf : V E g N ad ce sl f (pc + 3) lo st) : V E g N ad ce sl f pc lo (.int x :: st) := V_if_gt hC tgt hd ht (fun q => absurd q (by first | exact h | exact fun z => z h)) (fun _ => kf)
theorem V_icmp_gt_f (hC : CX E g cc Ts own rm) {x y : Int32} {off : Int} {tgt : Nat} (hd : decode cc pc = .ok (.if_icmp .gt off, 3)) (ht : (pc : Int) + off = (tgt : Int)) (h : ¬ y < x) (kf : V E g N ad ce sl f (pc + 3) lo st) : V E g N ad ce sl f pc lo (.int y :: .int x :: st) := V_icmp_gt hC tgt hd ht (fun q => absurd q (by first | exact h | exact fun z => z h)) (fun _ => kf)
theorem V_if_le (hC : CX E g cc Ts own rm) {x : Int32} {off : Int} (tgt : Nat) (hd : decode cc pc = .ok (.ifCond .le off, 3)) (ht : (pc : Int) + off = (tgt : Int)) (kt : x ≤ 0 → V E g N ad ce sl f tgt lo st) (kf : ¬ x ≤ 0 → V E g N ad ce sl f (pc + 3) lo st) : V E g N ad ce sl f pc lo (.int x :: st) := by
  intro H locs ls hP hD hS hl
  exact lv_if_le hC.1 hC.2.1 hd ht (fun h => kt h H locs ls hP hD hS hl) (fun h => kf h H locs ls hP hD hS hl)
theorem V_icmp_le (hC : CX E g cc Ts own rm) {x y : Int32} {off : Int} (tgt : Nat) (hd : decode cc pc = .ok (.if_icmp .le off, 3)) (ht : (pc : Int) + off = (tgt : Int)) (kt : x ≤ y → V E g N ad ce sl f tgt lo st) (kf : ¬ x ≤ y → V E g N ad ce sl f (pc + 3) lo st) : V E g N ad ce sl f pc lo (.int y :: .int x :: st) := by
  intro H locs ls hP hD hS hl
  exact lv_icmp_le hC.1 hC.2.1 hd ht (fun h => kt h H locs ls hP hD hS hl) (fun h => kf h H locs ls hP hD hS hl)
theorem V_if_le_t (hC : CX E g cc Ts own rm) {x : Int32} {off : Int} (tgt : Nat) (hd : decode cc pc = .ok (.ifCond .le off, 3)) (ht : (pc : Int) + off = (tgt : Int)) (h : x ≤ 0) (kt : V E g N ad ce sl f tgt lo st) : V E g N ad ce sl f pc lo (.int x :: st) := V_if_le hC tgt hd ht (fun _ => kt) (fun q => absurd h (by first | exact q | exact fun z => z q))
theorem V_icmp_le_t (hC : CX E g cc Ts own rm) {x y : Int32} {off : Int} (tgt : Nat) (hd : decode cc pc = .ok (.if_icmp .le off, 3)) (ht : (pc : Int) + off = (tgt : Int)) (h : x ≤ y) (kt : V E g N ad ce sl f tgt lo st) : V E g N ad ce sl f pc lo (.int y :: .int x :: st) := V_icmp_le hC tgt hd ht (fun _ => kt) (fun q => absurd h (by first | exact q | exact fun z => z q))
theorem V_if_le_f (hC : CX E g cc Ts own rm) {x : Int32} {off : Int} {tgt : Nat} (hd : decode cc pc = .ok (.ifCond .le off, 3)) (ht : (pc : Int) + off = (tgt : Int)) (h : ¬ x ≤ 0) (kf : V E g N ad ce sl f (pc + 3) lo st) : V E g N ad ce sl f pc lo (.int x :: st) := V_if_le hC tgt hd ht (fun q => absurd q (by first | exact h | exact fun z => z h)) (fun _ => kf)
theorem V_icmp_le_f (hC : CX E g cc Ts own rm) {x y : Int32} {off : Int} {tgt : Nat} (hd : decode cc pc = .ok (.if_icmp .le off, 3)) (ht : (pc : Int) + off = (tgt : Int)) (h : ¬ x ≤ y) (kf : V E g N ad ce sl f (pc + 3) lo st) : V E g N ad ce sl f pc lo (.int y :: .int x :: st) := V_icmp_le hC tgt hd ht (fun q => absurd q (by first | exact h | exact fun z => z h)) (fun _ => kf)
theorem V_goto (hC : CX E g cc Ts own rm) {off : Int} (tgt : Nat) (hd : decode cc pc = .ok (.goto off, 3)) (ht : (pc : Int) + off = (tgt : Int)) (k : V E g N ad ce sl f tgt lo st) : V E g N ad ce sl f pc lo st := by
  intro H locs ls hP hD hS hl
  exact lv_goto hC.1 hC.2.1 hd ht (k H locs ls hP hD hS hl)
theorem V_lookup (hC : CX E g cc Ts own rm) {x : Int32} {dflt : Int} {ps : Array (Int × Int)} {len : Nat} {off : Int} (tgt : Nat) (hd : decode cc pc = .ok (.lookupswitch dflt ps, len)) (hp : (ps.toList.zip (ps.toList.drop 1)).all (fun (a, next) => a.1 < next.1) = true) (ho : Op.lookupswitch.offset ps.toList dflt x.toInt = off) (ht : (pc : Int) + off = (tgt : Int)) (k : V E g N ad ce sl f tgt lo st) : V E g N ad ce sl f pc lo (.int x :: st) := by
  intro H locs ls hP hD hS hl
  exact lv_lookup hC.1 hC.2.1 hd hp ho ht (k H locs ls hP hD hS hl)
theorem V_tableOut (hC : CX E g cc Ts own rm) {x : Int32} {dflt a b : Int} {offs : Array Int} {len : Nat} (tgt : Nat) (hd : decode cc pc = .ok (.tableswitch dflt a b offs, len)) (h : x.toInt < a ∨ b < x.toInt) (ht : (pc : Int) + dflt = (tgt : Int)) (k : V E g N ad ce sl f tgt lo st) : V E g N ad ce sl f pc lo (.int x :: st) := by
  intro H locs ls hP hD hS hl
  exact lv_tableOut hC.1 hC.2.1 hd h ht (k H locs ls hP hD hS hl)
theorem V_tableIn (hC : CX E g cc Ts own rm) {x : Int32} {dflt a b : Int} {offs : Array Int} {len : Nat} {off : Int} (tgt : Nat) (hd : decode cc pc = .ok (.tableswitch dflt a b offs, len)) (h1 : ¬ x.toInt < a) (h2 : ¬ b < x.toInt) (ho : offs[(x.toInt - a).toNat]? = some off) (ht : (pc : Int) + off = (tgt : Int)) (k : V E g N ad ce sl f tgt lo st) : V E g N ad ce sl f pc lo (.int x :: st) := by
  intro H locs ls hP hD hS hl
  exact lv_tableIn hC.1 hC.2.1 hd h1 h2 ho ht (k H locs ls hP hD hS hl)
theorem V_ldc2 (hC : CX E g cc Ts own rm) {index : Nat} {v : Int64} (hd : decode cc pc = .ok (.ldc2_w index, 3)) (hw : Cond.constantLong own index v ∈ Ts) (k : V E g N ad ce sl f (pc + 3) lo (.long v :: st)) : V E g N ad ce sl f pc lo st := by
  intro H locs ls hP hD hS hl
  exact lv_ldc2 hC.1 hC.2.1 hC.2.2.2.1 (hC.2.2.2.2.1 _ hw) hd (k H locs ls hP hD hS hl)
/-! names for values, so that terms stay small -/
theorem V_top {x : Int32} (k : ∀ y : Int32, y = x → V E g N ad ce sl f pc lo (.int y :: st)) : V E g N ad ce sl f pc lo (.int x :: st) := k x rfl
theorem V_eqt {x : Int32} (y : Int32) (h : x = y) (k : V E g N ad ce sl f pc lo (.int y :: st)) : V E g N ad ce sl f pc lo (.int x :: st) := h ▸ k
theorem V_st {st2 : List Value} (h : st = st2) (k : V E g N ad ce sl f pc lo st2) : V E g N ad ce sl f pc lo st := h ▸ k
theorem V_lo {lo2 : List (Option Value)} (h : ∀ q ∈ lvo 0 lo2, q ∈ lvo 0 lo) (k : V E g N ad ce sl f pc lo2 st) : V E g N ad ce sl f pc lo st := fun H locs ls hP hD hS hl => k H locs ls hP hD hS (lvo_sub hl h)
theorem V_f {f2 : Nat → va_E} (h : f = f2) (k : V E g N ad ce sl f2 pc lo st) : V E g N ad ce sl f pc lo st := h ▸ k
/-! fields -/
theorem V_get (hC : CX E g cc Ts own rm) {i ci : Nat} {fs : List Value} {C : String} {T : u_T} {Nf index : Nat} {v : Value} (k : Nat) (hd : decode cc pc = .ok (.getfield index, 3)) (hi : i < N) (hf : f i = .inr (ci, fs)) (hc : vwCl[ci]? = some (C, T, Nf)) (hk : k < Nf) (hin : ∀ w ∈ u_ws C T Nf, w ∈ Ts) (hlink : Cond.fieldLink own index (T k).1 (T k).2.1 (T k).2.2.1 ∈ Ts) (hv : fs[k]? = some v)
    (kk : V E g N ad ce sl f (pc + 3) lo (v :: st)) : V E g N ad ce sl f pc lo (.ref (ad i) :: st) := by
  intro H locs ls hP hD hS hl
  exact va_get hC.1 hC.2.1 hC.2.2.2.2.1 hin hC.2.2.2.1 hC.2.2.2.2.2.1 hP i (fs := fs) (by rw [wl_get hi, hf]) hc k hk (hC.2.2.2.2.1 _ hlink) (fun _ h => h) hv hd (kk H locs ls hP hD hS hl)
theorem V_put (hC : CX E g cc Ts own rm) {i ci : Nat} {fs : List Value} {C : String} {T : u_T} {Nf index : Nat} {v : Value} {ty0 : Nat → FieldType} {ty : FieldType} (k : Nat) (hd : decode cc pc = .ok (.putfield index, 3)) (hi : i < N) (hf : f i = .inr (ci, fs)) (hc : vwCl[ci]? = some (C, T, Nf)) (hk : k < Nf) (hin : ∀ w ∈ u_ws C T Nf, w ∈ Ts) (hlink : Cond.fieldLink own index (T k).1 (T k).2.1 (T k).2.2.1 ∈ Ts)
    (hty : ∀ k, k < Nf → parseFieldDescriptor (T k).2.2.1 = some (ty0 k)) (hnm : ∀ a, a < Nf → ∀ b, b < Nf → a ≠ b → (T a).2.1 ≠ (T b).2.1) (hfin : (T k).2.2.2 = false) (hp : parseFieldDescriptor (T k).2.2.1 = some ty) (hn : narrow ty v = v) (hfit : fits ty v = true) (hlen : k < fs.length)
    (kk : V E g N ad ce sl (va_up f i (.inr (ci, fs.set k v))) (pc + 3) lo st) : V E g N ad ce sl f pc lo (v :: .ref (ad i) :: st) := by
  intro H locs ls hP hD hS hl
  refine va_put hC.1 hC.2.1 hC.2.2.2.2.1 hin ty0 hty hnm hC.2.2.2.1 hC.2.2.2.2.2.1 hP hD hS i (fs := fs) (by rw [wl_get hi, hf]) hc k hk (hC.2.2.2.2.1 _ hlink) (fun _ h => h) hfin hp hn hfit hlen hd (fun H1 locs1 hP1 hD1 hS1 => ?_)
  rw [wl_set hi] at hP1 hD1
  exact kk H1 locs1 ls hP1 hD1 hS1 hl
theorem V_putF (hC : CX E g cc Ts own rm) (hin2 : (eH E).name = "<init>") {i ci : Nat} {fs : List Value} {C : String} {T : u_T} {Nf index : Nat} {v : Value} {ty0 : Nat → FieldType} {ty : FieldType} (k : Nat) (hd : decode cc pc = .ok (.putfield index, 3)) (hi : i < N) (hf : f i = .inr (ci, fs)) (hc : vwCl[ci]? = some (C, T, Nf)) (hk : k < Nf) (hin : ∀ w ∈ u_ws C T Nf, w ∈ Ts) (hlink : Cond.fieldLink own index (T k).1 (T k).2.1 (T k).2.2.1 ∈ Ts)
    (hty : ∀ k, k < Nf → parseFieldDescriptor (T k).2.2.1 = some (ty0 k)) (hnm : ∀ a, a < Nf → ∀ b, b < Nf → a ≠ b → (T a).2.1 ≠ (T b).2.1) (hfin : (T k).2.2.2 = true) (hdecl : (T k).1 = own) (hp : parseFieldDescriptor (T k).2.2.1 = some ty) (hn : narrow ty v = v) (hfit : fits ty v = true) (hlen : k < fs.length)
    (kk : V E g N ad ce sl (va_up f i (.inr (ci, fs.set k v))) (pc + 3) lo st) : V E g N ad ce sl f pc lo (v :: .ref (ad i) :: st) := by
  intro H locs ls hP hD hS hl
  refine va_putF hC.1 hC.2.1 hC.2.2.2.2.1 hin ty0 hty hnm hC.2.2.2.1 hC.2.2.2.2.2.1 hP hD hS i (fs := fs) (by rw [wl_get hi, hf]) hc k hk (hC.2.2.2.2.1 _ hlink) (fun _ h => h) hfin hin2 hdecl hp hn hfit hlen hd (fun H1 locs1 hP1 hD1 hS1 => ?_)
  rw [wl_set hi] at hP1 hD1
  exact kk H1 locs1 ls hP1 hD1 hS1 hl
/-! arrays -/
theorem V_iald (hC : CX E g cc Ts own rm) {i n k : Nat} {j : Int32} {a : Nat → Int32} (hd : decode cc pc = .ok (.iaload, 1)) (hi : i < N) (hf : f i = .inl (g.2.1 0, n, .inl a)) (hx : ix j k n) (kk : V E g N ad ce sl f (pc + 1) lo (.int (a k) :: st)) : V E g N ad ce sl f pc lo (.int j :: .ref (ad i) :: st) := by
  intro H locs ls hP hD hS hl
  obtain ⟨h1, h2⟩ := hx
  subst h2
  exact va_iald hC.1 hC.2.1 hC.2.2.2.2.2.1 hP i 0 (by rw [wl_get hi, hf]) rfl h1 hd (kk H locs ls hP hD hS hl)
theorem V_cald (hC : CX E g cc Ts own rm) {i n k : Nat} {j : Int32} {a : Nat → Int32} (hd : decode cc pc = .ok (.caload, 1)) (hi : i < N) (hf : f i = .inl (g.2.1 1, n, .inl a)) (hx : ix j k n) (kk : V E g N ad ce sl f (pc + 1) lo (.int (a k) :: st)) : V E g N ad ce sl f pc lo (.int j :: .ref (ad i) :: st) := by
  intro H locs ls hP hD hS hl
  obtain ⟨h1, h2⟩ := hx
  subst h2
  exact va_cald hC.1 hC.2.1 hC.2.2.2.2.2.1 hP i 1 (by rw [wl_get hi, hf]) rfl h1 hd (kk H locs ls hP hD hS hl)
theorem V_zald (hC : CX E g cc Ts own rm) {i n k : Nat} {j : Int32} {a : Nat → Int32} (hd : decode cc pc = .ok (.baload, 1)) (hi : i < N) (hf : f i = .inl (g.2.1 2, n, .inl a)) (hx : ix j k n) (kk : V E g N ad ce sl f (pc + 1) lo (.int (a k) :: st)) : V E g N ad ce sl f pc lo (.int j :: .ref (ad i) :: st) := by
  intro H locs ls hP hD hS hl
  obtain ⟨h1, h2⟩ := hx
  subst h2
  exact va_zald hC.1 hC.2.1 hC.2.2.2.2.2.1 hP i 2 (by rw [wl_get hi, hf]) rfl h1 hd (kk H locs ls hP hD hS hl)
theorem V_iast (hC : CX E g cc Ts own rm) {i n k : Nat} {j x : Int32} {a : Nat → Int32} (hd : decode cc pc = .ok (.iastore, 1)) (hi : i < N) (hf : f i = .inl (g.2.1 0, n, .inl a)) (hx : ix j k n) (kk : V E g N ad ce sl (va_up f i (.inl (g.2.1 0, n, .inl (upd a k x)))) (pc + 1) lo st) : V E g N ad ce sl f pc lo (.int x :: .int j :: .ref (ad i) :: st) := by
  intro H locs ls hP hD hS hl
  obtain ⟨h1, h2⟩ := hx
  subst h2
  refine va_iast hC.1 hC.2.1 hC.2.2.2.2.2.1 hP hD hS i 0 (by rw [wl_get hi, hf]) rfl h1 hd (fun H1 locs1 hP1 hD1 hS1 => ?_)
  rw [wl_set hi] at hP1 hD1
  exact kk H1 locs1 ls hP1 hD1 hS1 hl
theorem V_cast (hC : CX E g cc Ts own rm) {i n k : Nat} {j x : Int32} {a : Nat → Int32} (hd : decode cc pc = .ok (.castore, 1)) (hi : i < N) (hf : f i = .inl (g.2.1 1, n, .inl a)) (hx : ix j k n) (kk : V E g N ad ce sl (va_up f i (.inl (g.2.1 1, n, .inl (upd a k (vp_nar .char x))))) (pc + 1) lo st) : V E g N ad ce sl f pc lo (.int x :: .int j :: .ref (ad i) :: st) := by
  intro H locs ls hP hD hS hl
  obtain ⟨h1, h2⟩ := hx
  subst h2
  refine va_cast hC.1 hC.2.1 hC.2.2.2.2.2.1 hP hD hS i 1 (by rw [wl_get hi, hf]) rfl h1 hd (fun H1 locs1 hP1 hD1 hS1 => ?_)
  rw [wl_set hi] at hP1 hD1
  exact kk H1 locs1 ls hP1 hD1 hS1 hl
theorem V_zast (hC : CX E g cc Ts own rm) {i n k : Nat} {j x : Int32} {a : Nat → Int32} (hd : decode cc pc = .ok (.bastore, 1)) (hi : i < N) (hf : f i = .inl (g.2.1 2, n, .inl a)) (hx : ix j k n) (kk : V E g N ad ce sl (va_up f i (.inl (g.2.1 2, n, .inl (upd a k (vp_nar .boolean x))))) (pc + 1) lo st) : V E g N ad ce sl f pc lo (.int x :: .int j :: .ref (ad i) :: st) := by
  intro H locs ls hP hD hS hl
  obtain ⟨h1, h2⟩ := hx
  subst h2
  refine va_zast hC.1 hC.2.1 hC.2.2.2.2.2.1 hP hD hS i 2 (by rw [wl_get hi, hf]) rfl h1 hd (fun H1 locs1 hP1 hD1 hS1 => ?_)
  rw [wl_set hi] at hP1 hD1
  exact kk H1 locs1 ls hP1 hD1 hS1 hl
theorem V_alen (hC : CX E g cc Ts own rm) {i t0 : Nat} {ty : FieldType} {cA : ClassId} {x : vp_A} (v : Int32) (hd : decode cc pc = .ok (.arraylength, 1)) (hi : i < N) (hf : f i = .inl (cA, x)) (ht : (gT g)[t0]? = some (cA, ty)) (hv : Int32.ofNat x.1 = v) (kk : V E g N ad ce sl f (pc + 1) lo (.int v :: st)) : V E g N ad ce sl f pc lo (.ref (ad i) :: st) := by
  intro H locs ls hP hD hS hl
  exact va_alen hC.1 hC.2.1 hC.2.2.2.2.2.1 hP i t0 (by rw [wl_get hi, hf]) ht hv hd (kk H locs ls hP hD hS hl)
theorem V_aald (hC : CX E g cc Ts own rm) {i n k t0 : Nat} {C : String} {cA : ClassId} {j : Int32} {a : Nat → Option Nat} (hd : decode cc pc = .ok (.aaload, 1)) (hi : i < N) (hf : f i = .inl (cA, n, .inr (.inr (.inr (.inr a))))) (ht : (gT g)[t0]? = some (cA, .object C)) (hx : ix j k n) {v : Nat} (hv : a k = some v) (kk : V E g N ad ce sl f (pc + 1) lo (.ref v :: st)) : V E g N ad ce sl f pc lo (.int j :: .ref (ad i) :: st) := by
  intro H locs ls hP hD hS hl
  obtain ⟨h1, h2⟩ := hx
  subst h2
  refine va_aldq hC.1 hC.2.1 hC.2.2.2.2.2.1 hP i t0 (by rw [wl_get hi, hf]) ht h1 hd ?_
  rw [hv]
  exact kk H locs ls hP hD hS hl
theorem V_aast (hC : CX E g cc Ts own rm) {i n k t0 q ci : Nat} {r : vw_C} {vs : List Value} {cA : ClassId} {j : Int32} {a : Nat → Option Nat} (hd : decode cc pc = .ok (.aastore, 1)) (hi : i < N) (hf : f i = .inl (cA, n, .inr (.inr (.inr (.inr a))))) (ht : (gT g)[t0]? = some (cA, .object r.1)) (hq : q < N) (hfq : f q = .inr (ci, vs)) (hc : vwCl[ci]? = some r) (hx : ix j k n)
    (kk : V E g N ad ce sl (va_up f i (.inl (cA, n, .inr (.inr (.inr (.inr (va_up a k (some (ad q)))))))))  (pc + 1) lo st) : V E g N ad ce sl f pc lo (.ref (ad q) :: .int j :: .ref (ad i) :: st) := by
  intro H locs ls hP hD hS hl
  obtain ⟨h1, h2⟩ := hx
  subst h2
  refine va_astq hC.1 hC.2.1 hC.2.2.2.2.2.1 hP hD hS i t0 q ci (vs := vs) (by rw [wl_get hi, hf]) ht (by rw [wl_get hq, hfq]) hc h1 hd (fun H1 locs1 hP1 hD1 hS1 => ?_)
  rw [wl_set hi] at hP1 hD1
  exact kk H1 locs1 ls hP1 hD1 hS1 hl
theorem V_copy (hC : CX E g cc Ts own rm) {i0 i1 n0 n1 k : Nat} {a b : Nat → Int32} {index : Nat} {n : Int32} (hd : decode cc pc = .ok (.invokestatic index, 3)) (hw1 : Cond.methodLink own index arraycopyName ∈ Ts) (hw2 : Cond.native arraycopyName ∈ Ts) (hw3 : Cond.static arraycopyName ∈ Ts) (hw4 : Cond.initialized "java/lang/System" ∈ Ts)
    (hi0 : i0 < N) (hf0 : f i0 = .inl (g.2.1 0, n0, .inl a)) (hi1 : i1 < N) (hf1 : f i1 = .inl (g.2.1 0, n1, .inl b)) (hn : ¬ n < 0) (hk : n.toNatClampNeg = k) (h4 : k ≤ n0) (h5 : k ≤ n1) (hR : 1 ≤ rm.frames) (hR2 : (st.map fun v => v.category).sum + (nativeFrameWords "java/lang/System" "arraycopy" 5 + 11) ≤ rm.locals)
    (kk : V E g N ad ce sl (va_up f i1 (.inl (g.2.1 0, n1, .inl (va_cpy a b 0 0 k)))) (pc + 3) lo st) : V E g N ad ce sl f pc lo (.int n :: .int 0 :: .ref (ad i1) :: .int 0 :: .ref (ad i0) :: st) := by
  intro H locs ls hP hD hS hl
  obtain ⟨c1, c2, c3, c4, c5, c6, c7, c8, c9, c10⟩ := hC
  subst hk
  refine va_copyi c1 c2 (c3.trans hl.1.symm) c4 (c5 _ hw1) (c5 _ hw2) (c5 _ hw3) (c5 _ hw4) c6 hP hD hS i0 i1 0 0 (by rw [wl_get hi0, hf0]) (by rw [wl_get hi1, hf1]) rfl rfl rfl (sp := 0) (dp := 0) (by decide) (by decide) hn (by simpa using h4) (by simpa using h5) (fun _ _ => rfl) (by rw [c10]; exact hR) (by rw [c10]; exact hR2) hd (fun H1 locs1 hP1 hD1 hS1 => ?_)
  rw [wl_set hi1] at hP1 hD1
  exact kk H1 locs1 ls hP1 hD1 hS1 hl
/-! static arrays -/
theorem V_gets (hC : CX E g cc Ts own rm) {k index Nk : Nat} {C n : String} {l : List Int32} (hs : SF1 g k C n Nk l (eS E)) (hd : decode cc pc = .ok (.getstatic index, 3)) (hlink : Cond.fieldLink own index C n "[I" ∈ Ts) (kk : V E g N ad ce sl f (pc + 3) lo (.ref (g.2.2.2 k) :: st)) : V E g N ad ce sl f pc lo st := by
  intro H locs ls hP hD hS hl
  exact va_gets hC.1 hC.2.1 hs.1 hS hC.2.2.2.1 (hC.2.2.2.2.1 _ hlink) (fun _ h => h) hd (kk H locs ls hP hD hS hl)
theorem V_tald (hC : CX E g cc Ts own rm) {k j Nk : Nat} {C n : String} {l : List Int32} {i : Int32} (hs : SF1 g k C n Nk l (eS E)) (hd : decode cc pc = .ok (.iaload, 1)) (hx : ix i j Nk) (kk : V E g N ad ce sl f (pc + 1) lo (.int (lstA l j) :: st)) : V E g N ad ce sl f pc lo (.int i :: .ref (g.2.2.2 k) :: st) := by
  intro H locs ls hP hD hS hl
  obtain ⟨h1, h2⟩ := hx
  subst h2
  exact va_ti hC.1 hC.2.1 hs.2 hS h1 rfl hd (kk H locs ls hP hD hS hl)
theorem V_talen (hC : CX E g cc Ts own rm) {k Nk : Nat} {C n : String} {l : List Int32} (hs : SF1 g k C n Nk l (eS E)) (v : Int32) (hv : Int32.ofNat Nk = v) (hd : decode cc pc = .ok (.arraylength, 1)) (kk : V E g N ad ce sl f (pc + 1) lo (.int v :: st)) : V E g N ad ce sl f pc lo (.ref (g.2.2.2 k) :: st) := by
  intro H locs ls hP hD hS hl
  obtain ⟨cell, h1, h2, h3, h4, h5, h6, h7⟩ := hs.2
  exact W.alen (n := v) hC.1 hC.2.1 (by rw [hS.2.1 _ (Array.getElem?_eq_some_iff.mp h1).1 h7]; exact h1) h2 (by rw [h5, hv]) rfl rfl hd (kk H locs ls hP hD hS hl)
/-! Math.min, Math.abs -/
theorem V_min (hC : CX E g cc Ts own rm) {index : Nat} {x y : Int32} (hd : decode cc pc = .ok (.invokestatic index, 3)) (hw1 : Cond.methodLink own index Lib.Math.min.name ∈ Ts) (hw2 : Cond.static Lib.Math.min.name ∈ Ts) (hw3 : Cond.initialized "java/lang/Math" ∈ Ts) (hw4 : Cond.code Lib.Math.min.name Lib.Math.min.code 2 (some .int) ∈ Ts) (hR : 1 ≤ rm.frames) (hR2 : (st.map fun v => v.category).sum + 13 ≤ rm.locals) (hR3 : ce ≤ rm.cells ∧ sl ≤ rm.slots) (kk : V E g N ad ce sl f (pc + 3) lo (.int (if y < x then y else x) :: st)) : V E g N ad ce sl f pc lo (.int y :: .int x :: st) := by
  intro H locs ls hP hD hS hl
  obtain ⟨c1, c2, c3, c4, c5, c6, c7, c8, c9, c10⟩ := hC
  subst c10
  exact va_mmin c1 c2 (c3.trans hl.1.symm) c4 (c5 _ hw1) (c5 _ hw2) (c5 _ hw3) (c5 _ hw4) hR hR2 hR3.1 hR3.2 hd (kk H locs ls hP hD hS hl)
theorem V_abs (hC : CX E g cc Ts own rm) {index : Nat} {x : Int32} (hd : decode cc pc = .ok (.invokestatic index, 3)) (hw1 : Cond.methodLink own index Lib.Math.abs.name ∈ Ts) (hw2 : Cond.static Lib.Math.abs.name ∈ Ts) (hw3 : Cond.initialized "java/lang/Math" ∈ Ts) (hw4 : Cond.code Lib.Math.abs.name Lib.Math.abs.code 1 (some .int) ∈ Ts) (hR : 1 ≤ rm.frames) (hR2 : (st.map fun v => v.category).sum + 13 ≤ rm.locals) (hR3 : ce ≤ rm.cells ∧ sl ≤ rm.slots) (kk : V E g N ad ce sl f (pc + 3) lo (.int (if 0 ≤ x then x else 0 - x) :: st)) : V E g N ad ce sl f pc lo (.int x :: st) := by
  intro H locs ls hP hD hS hl
  obtain ⟨c1, c2, c3, c4, c5, c6, c7, c8, c9, c10⟩ := hC
  subst c10
  exact va_mabs c1 c2 (c3.trans hl.1.symm) c4 (c5 _ hw1) (c5 _ hw2) (c5 _ hw3) (c5 _ hw4) hR hR2 hR3.1 hR3.2 hd (kk H locs ls hP hD hS hl)

/-! calls -/
theorem WC.blind {g : GE} {N : Nat} {ad : Nat → Nat} {f : Nat → va_E} {av : List Value} : FrameBlind (va_Pc av (WC g N ad f)) := by
  intro a U gf mk q
  obtain ⟨q0, qP, qK, qD, qz, qS, q1, q2, q3⟩ := q
  exact ⟨q0, qP, va_K.moved (u := U) (U := U.calling gf mk a) (Vm.Alike.refl U.vm) qK, qD, qz, SF.go (u := U) (U := U.calling gf mk a) qS (Vm.Alike.refl U.vm) (fun _ _ _ => rfl), va_Nw.same rfl rfl q1, va_Nw.same rfl rfl q2, va_Nw.same rfl rfl q3⟩
theorem WC.at (hC : CX E g cc Ts own rm) {H : Heap} {locs : List Loc} (hP : va_P g.1 vwCl (wl N ad f) H) (hD : va_D (gA g) (wl N ad f)) (hS : va_S (gA g) (eS E).heap H locs) {U : State} (hU : U.heap = H) (hW : (eS E).WarmedH U.vm) : WC g N ad f U := by
  obtain ⟨c1, c2, c3, c4, c5, c6, c7, c8, ⟨d1, d2, d3⟩, c10⟩ := hC
  refine ⟨by rw [hU]; exact hP, va_K.moved hW.alike c6, hD, by rw [hU]; exact Nat.le_trans c7 hS.1, c8.go hW.alike (fun a h1 h2 => by rw [hU]; exact hS.2.1 a h1 h2), d1.warmM hW, d2.warmM hW, ?_⟩
  exact va_tabs rfl (rfl : ((eS E).setVm U.vm).vm = U.vm) ((Cond.castable_setVm (args := #[]) hW.alike "[I" "java/lang/Cloneable").trans d3)
theorem V_run (hC : CX E g cc Ts own rm) {post : Option Value → Nat → (Nat → Nat) → (Nat → va_E) → Prop} {mc ms : Nat} {a : Array Value} {rest : List Value}
    (hr : ∀ (H : Heap) (locs : List Loc) (ls : Array Slot), va_P g.1 vwCl (wl N ad f) H → va_D (gA g) (wl N ad f) → va_S (gA g) (eS E).heap H locs → ls.size = eN E → va_Run (eP E) (eL E) (eE E) (eR E) (eS E) (eM E) (eA E) (eB E) (eH E) (eC E) H locs ce sl mc ms (F0 (eM E) pc ls st) rest (Qg g post a) (gA g))
    (kk : ∀ (r : Option Value) (N' : Nat) (ad' : Nat → Nat) (u : Nat → va_E), post r N' ad' u → V E g N' ad' (ce + mc) (sl + ms) u (pc + 3) lo (r.toList ++ rest)) : V E g N ad ce sl f pc lo st := by
  intro H locs ls hP hD hS hl T hT X
  obtain ⟨v, st₀, t, T', L, h0, X', hL, e1, e2, ⟨⟨r, N', ad', u, hv, hp, hP1, hD1⟩, hz, hk⟩, sx⟩ := hr H locs ls hP hD hS hl.1 T hT X
  cases hv
  rw [h0] at hz hk
  obtain ⟨t2, a1, b1⟩ := kk _ N' ad' u hp T'.heap (locs ++ L) ls (by rw [e1]; exact hP1) hD1 ⟨Nat.le_trans hS.1 (by rw [e1]; exact hz), fun q h1 h2 => by rw [e1, hk q (Nat.lt_of_lt_of_le h1 hS.1) h2]; exact hS.2.1 q h1 h2, fun q hq => by
    rcases List.mem_append.mp hq with h | h
    · exact hS.2.2 q h
    · exact hL q h⟩ hl T' rfl X'
  exact ⟨t2, sx t2 a1, b1⟩
theorem V_cv (hC : CX E g cc Ts own rm) {y : MethodName} {ws ws' : List Cond} {rm2 : Room} {post : Option Value → Nat → (Nat → Nat) → (Nat → va_E) → Prop} {mc ms n index maxL i ci Nf : Nat} {As rest : List Value} {C : String} {T : u_T} {fs : List Value} {bytes : ByteArray} {ret : Option FieldType}
    (hM : Ct g (eL E) y ws rm2 N ad (.ref (ad i) :: As) f post mc ms) (hn : As.length = n) (hG : GoodIn Ts (wsV own index C y ws)) (hw : ws = Cond.code y bytes maxL ret :: ws') (hrc : rm2.cells = mc ∧ rm2.slots = ms) (hd2 : y.cls = C ∧ y.cls ≠ "java/lang/invoke/MethodHandle" ∧ y.cls ≠ "java/lang/invoke/VarHandle" ∧ (parseMethodDescriptor y.desc).map (fun d => d.parameters.length) = some n)
    (hR : rm2.frames + 1 ≤ rm.frames ∧ 8 + (maxL + 11) + rm2.locals ≤ rm.locals) (hi : i < N) (hf : f i = .inr (ci, fs)) (hcl : vwCl[ci]? = some (C, T, Nf)) (hst : st = As.reverse ++ .ref (ad i) :: rest) (hcat : (rest.map fun v => v.category).sum ≤ 8) (hd : decode cc pc = .ok (.invokevirtual index, 3)) (hf2 : ce + mc ≤ rm.cells ∧ sl + ms ≤ rm.slots)
    (kk : ∀ (r : Option Value) (N' : Nat) (ad' : Nat → Nat) (u : Nat → va_E), post r N' ad' u → V E g N' ad' (ce + mc) (sl + ms) u (pc + 3) lo (r.toList ++ rest)) : V E g N ad ce sl f pc lo st := by
  have hC0 := hC
  obtain ⟨c1, c2, c3, c4, c5, c6, c7, c8, c9, c10⟩ := hC
  subst c10
  refine V_run (post := post) (a := (Value.ref (ad i) :: As).toArray) hC0 (fun H locs ls hP hD hS hsz => ?_) kk
  exact va_runV (As := As) (rest := rest) ⟨c1, c2, c3, c4, c5⟩ hM (cwV n c5 hG hw hrc.1 hrc.2 hd2 hR) ⟨WC.blind, va_recv c6 hP (ci := ci) (q0 := i) hcl (by rw [wl_get hi, hf]), fun U hU hW => ⟨rfl, WC.at hC0 hP hD hS hU hW⟩⟩ rfl hn hsz hst (lv_room hcat) hd hf2
theorem V_cs (hC : CX E g cc Ts own rm) {y : MethodName} {ws ws' : List Cond} {rm2 : Room} {post : Option Value → Nat → (Nat → Nat) → (Nat → va_E) → Prop} {mc ms n index maxL : Nat} {As rest : List Value} {bytes : ByteArray} {ret : Option FieldType}
    (hM : Ct g (eL E) y ws rm2 N ad As f post mc ms) (hn : As.length = n) (hG : GoodIn Ts (va_wsS own index y ws)) (hw : ws = Cond.code y bytes maxL ret :: ws') (hrc : rm2.cells = mc ∧ rm2.slots = ms) (hd2 : y.cls ≠ "java/lang/invoke/MethodHandle" ∧ y.cls ≠ "java/lang/invoke/VarHandle" ∧ (parseMethodDescriptor y.desc).map (fun d => d.parameters.length) = some n)
    (hR : rm2.frames + 1 ≤ rm.frames ∧ 8 + (maxL + 11) + rm2.locals ≤ rm.locals) (hst : st = As.reverse ++ rest) (hcat : (rest.map fun v => v.category).sum ≤ 8) (hd : decode cc pc = .ok (.invokestatic index, 3)) (hf2 : ce + mc ≤ rm.cells ∧ sl + ms ≤ rm.slots)
    (kk : ∀ (r : Option Value) (N' : Nat) (ad' : Nat → Nat) (u : Nat → va_E), post r N' ad' u → V E g N' ad' (ce + mc) (sl + ms) u (pc + 3) lo (r.toList ++ rest)) : V E g N ad ce sl f pc lo st := by
  have hC0 := hC
  obtain ⟨c1, c2, c3, c4, c5, c6, c7, c8, c9, c10⟩ := hC
  subst c10
  refine V_run (post := post) (a := As.toArray) hC0 (fun H locs ls hP hD hS hsz => ?_) kk
  exact va_runS (As := As) (rest := rest) ⟨c1, c2, c3, c4, c5⟩ hM (va_cwS n c5 hG hw hrc.1 hrc.2 hd2 hR) ⟨WC.blind, fun U hU hW => ⟨rfl, WC.at hC0 hP hD hS hU hW⟩⟩ rfl hn hsz hst (lv_room hcat) hd hf2

theorem V_cvI (hC : CX E g cc Ts own rm) {y : MethodName} {ws ws' : List Cond} {rm2 : Room} {n index maxL i ci Nf : Nat} {As rest : List Value} {C : String} {T : u_T} {fs : List Value} {bytes : ByteArray} {ret : Option FieldType} {P : Int32 → (Nat → va_E) → Prop}
    (hM : Ct g (eL E) y ws rm2 N ad (.ref (ad i) :: As) f (pI N ad P) 0 0) (hd : decode cc pc = .ok (.invokevirtual index, 3)) (hG : GoodIn Ts (wsV own index C y ws)) (hst : st = As.reverse ++ .ref (ad i) :: rest) (hn : As.length = n) (hw : ws = Cond.code y bytes maxL ret :: ws') (hrc : rm2.cells = 0 ∧ rm2.slots = 0) (hd2 : y.cls = C ∧ y.cls ≠ "java/lang/invoke/MethodHandle" ∧ y.cls ≠ "java/lang/invoke/VarHandle" ∧ (parseMethodDescriptor y.desc).map (fun d => d.parameters.length) = some n)
    (hR : rm2.frames + 1 ≤ rm.frames ∧ 8 + (maxL + 11) + rm2.locals ≤ rm.locals) (hi : i < N) (hf : f i = .inr (ci, fs)) (hcl : vwCl[ci]? = some (C, T, Nf)) (hcat : (rest.map fun v => v.category).sum ≤ 8) (hf2 : ce ≤ rm.cells ∧ sl ≤ rm.slots) (kk : ∀ (x : Int32) (u : Nat → va_E), P x u → V E g N ad ce sl u (pc + 3) lo (.int x :: rest)) : V E g N ad ce sl f pc lo st := by
  refine V_cv hC hM hn hG hw hrc hd2 hR hi hf hcl hst hcat hd hf2 (fun r N' ad' u h => ?_)
  obtain ⟨rfl, rfl, x, rfl, h⟩ := h
  exact kk x u h
theorem V_cvV (hC : CX E g cc Ts own rm) {y : MethodName} {ws ws' : List Cond} {rm2 : Room} {n index maxL i ci Nf : Nat} {As rest : List Value} {C : String} {T : u_T} {fs : List Value} {bytes : ByteArray} {ret : Option FieldType} {P : (Nat → va_E) → Prop}
    (hM : Ct g (eL E) y ws rm2 N ad (.ref (ad i) :: As) f (pV N ad P) 0 0) (hd : decode cc pc = .ok (.invokevirtual index, 3)) (hG : GoodIn Ts (wsV own index C y ws)) (hst : st = As.reverse ++ .ref (ad i) :: rest) (hn : As.length = n) (hw : ws = Cond.code y bytes maxL ret :: ws') (hrc : rm2.cells = 0 ∧ rm2.slots = 0) (hd2 : y.cls = C ∧ y.cls ≠ "java/lang/invoke/MethodHandle" ∧ y.cls ≠ "java/lang/invoke/VarHandle" ∧ (parseMethodDescriptor y.desc).map (fun d => d.parameters.length) = some n)
    (hR : rm2.frames + 1 ≤ rm.frames ∧ 8 + (maxL + 11) + rm2.locals ≤ rm.locals) (hi : i < N) (hf : f i = .inr (ci, fs)) (hcl : vwCl[ci]? = some (C, T, Nf)) (hcat : (rest.map fun v => v.category).sum ≤ 8) (hf2 : ce ≤ rm.cells ∧ sl ≤ rm.slots) (kk : ∀ (u : Nat → va_E), P u → V E g N ad ce sl u (pc + 3) lo rest) : V E g N ad ce sl f pc lo st := by
  refine V_cv hC hM hn hG hw hrc hd2 hR hi hf hcl hst hcat hd hf2 (fun r N' ad' u h => ?_)
  obtain ⟨rfl, rfl, rfl, h⟩ := h
  exact kk u h
theorem V_cvR (hC : CX E g cc Ts own rm) {y : MethodName} {ws ws' : List Cond} {rm2 : Room} {n index maxL i ci Nf : Nat} {As rest : List Value} {C : String} {T : u_T} {fs : List Value} {bytes : ByteArray} {ret : Option FieldType} {P : Nat → (Nat → va_E) → Prop}
    (hM : Ct g (eL E) y ws rm2 N ad (.ref (ad i) :: As) f (pR N ad P) 0 0) (hd : decode cc pc = .ok (.invokevirtual index, 3)) (hG : GoodIn Ts (wsV own index C y ws)) (hst : st = As.reverse ++ .ref (ad i) :: rest) (hn : As.length = n) (hw : ws = Cond.code y bytes maxL ret :: ws') (hrc : rm2.cells = 0 ∧ rm2.slots = 0) (hd2 : y.cls = C ∧ y.cls ≠ "java/lang/invoke/MethodHandle" ∧ y.cls ≠ "java/lang/invoke/VarHandle" ∧ (parseMethodDescriptor y.desc).map (fun d => d.parameters.length) = some n)
    (hR : rm2.frames + 1 ≤ rm.frames ∧ 8 + (maxL + 11) + rm2.locals ≤ rm.locals) (hi : i < N) (hf : f i = .inr (ci, fs)) (hcl : vwCl[ci]? = some (C, T, Nf)) (hcat : (rest.map fun v => v.category).sum ≤ 8) (hf2 : ce ≤ rm.cells ∧ sl ≤ rm.slots) (kk : ∀ (x : Nat) (u : Nat → va_E), P x u → V E g N ad ce sl u (pc + 3) lo (.ref x :: rest)) : V E g N ad ce sl f pc lo st := by
  refine V_cv hC hM hn hG hw hrc hd2 hR hi hf hcl hst hcat hd hf2 (fun r N' ad' u h => ?_)
  obtain ⟨rfl, rfl, x, rfl, h⟩ := h
  exact kk x u h
theorem V_csI (hC : CX E g cc Ts own rm) {y : MethodName} {ws ws' : List Cond} {rm2 : Room} {n index maxL : Nat} {As rest : List Value} {bytes : ByteArray} {ret : Option FieldType} {P : Int32 → (Nat → va_E) → Prop}
    (hM : Ct g (eL E) y ws rm2 N ad As f (pI N ad P) 0 0) (hd : decode cc pc = .ok (.invokestatic index, 3)) (hG : GoodIn Ts (va_wsS own index y ws)) (hst : st = As.reverse ++ rest) (hn : As.length = n) (hw : ws = Cond.code y bytes maxL ret :: ws') (hrc : rm2.cells = 0 ∧ rm2.slots = 0) (hd2 : y.cls ≠ "java/lang/invoke/MethodHandle" ∧ y.cls ≠ "java/lang/invoke/VarHandle" ∧ (parseMethodDescriptor y.desc).map (fun d => d.parameters.length) = some n)
    (hR : rm2.frames + 1 ≤ rm.frames ∧ 8 + (maxL + 11) + rm2.locals ≤ rm.locals) (hcat : (rest.map fun v => v.category).sum ≤ 8) (hf2 : ce ≤ rm.cells ∧ sl ≤ rm.slots) (kk : ∀ (x : Int32) (u : Nat → va_E), P x u → V E g N ad ce sl u (pc + 3) lo (.int x :: rest)) : V E g N ad ce sl f pc lo st := by
  refine V_cs hC hM hn hG hw hrc hd2 hR hst hcat hd hf2 (fun r N' ad' u h => ?_)
  obtain ⟨rfl, rfl, x, rfl, h⟩ := h
  exact kk x u h
theorem V_csV (hC : CX E g cc Ts own rm) {y : MethodName} {ws ws' : List Cond} {rm2 : Room} {n index maxL : Nat} {As rest : List Value} {bytes : ByteArray} {ret : Option FieldType} {P : (Nat → va_E) → Prop}
    (hM : Ct g (eL E) y ws rm2 N ad As f (pV N ad P) 0 0) (hd : decode cc pc = .ok (.invokestatic index, 3)) (hG : GoodIn Ts (va_wsS own index y ws)) (hst : st = As.reverse ++ rest) (hn : As.length = n) (hw : ws = Cond.code y bytes maxL ret :: ws') (hrc : rm2.cells = 0 ∧ rm2.slots = 0) (hd2 : y.cls ≠ "java/lang/invoke/MethodHandle" ∧ y.cls ≠ "java/lang/invoke/VarHandle" ∧ (parseMethodDescriptor y.desc).map (fun d => d.parameters.length) = some n)
    (hR : rm2.frames + 1 ≤ rm.frames ∧ 8 + (maxL + 11) + rm2.locals ≤ rm.locals) (hcat : (rest.map fun v => v.category).sum ≤ 8) (hf2 : ce ≤ rm.cells ∧ sl ≤ rm.slots) (kk : ∀ (u : Nat → va_E), P u → V E g N ad ce sl u (pc + 3) lo rest) : V E g N ad ce sl f pc lo st := by
  refine V_cs hC hM hn hG hw hrc hd2 hR hst hcat hd hf2 (fun r N' ad' u h => ?_)
  obtain ⟨rfl, rfl, rfl, h⟩ := h
  exact kk u h
theorem V_csR (hC : CX E g cc Ts own rm) {y : MethodName} {ws ws' : List Cond} {rm2 : Room} {n index maxL : Nat} {As rest : List Value} {bytes : ByteArray} {ret : Option FieldType} {P : Nat → (Nat → va_E) → Prop}
    (hM : Ct g (eL E) y ws rm2 N ad As f (pR N ad P) 0 0) (hd : decode cc pc = .ok (.invokestatic index, 3)) (hG : GoodIn Ts (va_wsS own index y ws)) (hst : st = As.reverse ++ rest) (hn : As.length = n) (hw : ws = Cond.code y bytes maxL ret :: ws') (hrc : rm2.cells = 0 ∧ rm2.slots = 0) (hd2 : y.cls ≠ "java/lang/invoke/MethodHandle" ∧ y.cls ≠ "java/lang/invoke/VarHandle" ∧ (parseMethodDescriptor y.desc).map (fun d => d.parameters.length) = some n)
    (hR : rm2.frames + 1 ≤ rm.frames ∧ 8 + (maxL + 11) + rm2.locals ≤ rm.locals) (hcat : (rest.map fun v => v.category).sum ≤ 8) (hf2 : ce ≤ rm.cells ∧ sl ≤ rm.slots) (kk : ∀ (x : Nat) (u : Nat → va_E), P x u → V E g N ad ce sl u (pc + 3) lo (.ref x :: rest)) : V E g N ad ce sl f pc lo st := by
  refine V_cs hC hM hn hG hw hrc hd2 hR hst hcat hd hf2 (fun r N' ad' u h => ?_)
  obtain ⟨rfl, rfl, x, rfl, h⟩ := h
  exact kk x u h
/-! the ends -/
theorem V_iret (hC : CX E g cc Ts own rm) {post : Option Value → Nat → (Nat → Nat) → (Nat → va_E) → Prop} {v : Int32} (hR : RT E g ce sl (some .int) post) (hd : decode cc pc = .ok (.ireturn, 1)) (hp : post (some (.int v)) N ad f) : V E g N ad ce sl f pc lo [.int v] := by
  intro H locs ls hP hD hS hl
  rw [hR.2.2]
  exact W.iret hC.1 hC.2.1 hR.1 (fun t ht _ => ⟨⟨_, N, ad, f, rfl, hp, by rw [ht]; exact hP, hD⟩, hS.F ht⟩) hS.2.2 hd hR.2.1
theorem V_zret (hC : CX E g cc Ts own rm) {post : Option Value → Nat → (Nat → Nat) → (Nat → va_E) → Prop} {v : Int32} {ty : FieldType} (hR : RT E g ce sl (some ty) post) (hn : narrow ty (.int v) = .int v) (hd : decode cc pc = .ok (.ireturn, 1)) (hp : post (some (.int v)) N ad f) : V E g N ad ce sl f pc lo [.int v] := by
  intro H locs ls hP hD hS hl
  rw [hR.2.2]
  exact W.zret hC.1 hC.2.1 hR.1 hn (fun t ht _ => ⟨⟨_, N, ad, f, rfl, hp, by rw [ht]; exact hP, hD⟩, hS.F ht⟩) hS.2.2 hd hR.2.1
theorem V_vret (hC : CX E g cc Ts own rm) {post : Option Value → Nat → (Nat → Nat) → (Nat → va_E) → Prop} (hR : RT E g ce sl none post) (hd : decode cc pc = .ok (.return_, 1)) (hp : post none N ad f) : V E g N ad ce sl f pc lo [] := by
  intro H locs ls hP hD hS hl
  rw [hR.2.2]
  exact W.vret hC.1 hC.2.1 hR.1 (fun t ht _ => ⟨⟨_, N, ad, f, rfl, hp, by rw [ht]; exact hP, hD⟩, hS.F ht⟩) hS.2.2 hd hR.2.1
theorem V_aret (hC : CX E g cc Ts own rm) {post : Option Value → Nat → (Nat → Nat) → (Nat → va_E) → Prop} {a : Nat} {rt : FieldType} (hR : RT E g ce sl (some rt) post) (hrt : (∃ n, rt = .object n) ∨ ∃ t, rt = .array t) (hd : decode cc pc = .ok (.areturn, 1)) (hp : post (some (.ref a)) N ad f) : V E g N ad ce sl f pc lo [.ref a] := by
  intro H locs ls hP hD hS hl
  rw [hR.2.2]
  exact W.aret hC.1 hC.2.1 hR.1 hrt (Or.inr ⟨a, rfl⟩) (fun t ht _ => ⟨⟨_, N, ad, f, rfl, hp, by rw [ht]; exact hP, hD⟩, hS.F ht⟩) hS.2.2 hd hR.2.1
theorem V_widen {ce2 sl2 : Nat} (h1 : ce ≤ ce2) (h2 : sl ≤ sl2) (k : V E g N ad ce2 sl2 f pc lo st) : V E g N ad ce sl f pc lo st := fun H locs ls hP hD hS hl => W.widen h1 h2 (k H locs ls hP hD hS hl)
end
/-- a contract out of a walk -/
theorem Ct.of {g : GE} {l : Launch} {y : MethodName} {ws ws' : List Cond} {rm : Room} {N : Nat} {ad : Nat → Nat} {av : List Value} {f : Nat → va_E} {post : Option Value → Nat → (Nat → Nat) → (Nat → va_E) → Prop} {mc ms : Nat} {cc : ByteArray} {maxL : Nat} {ret : Option FieldType} (hw : ws = Cond.code y cc maxL ret :: ws') (hy : plainName y.cls = true) (lo : List (Option Value)) (hav : (lg_sl av).length ≤ maxL) (hlo : ∀ q ∈ lvo 0 lo, q ∈ lv_args 0 av)
    (body : ∀ E : EV, eN E = maxL → (eH E).name = y.name → CX E g cc ws y.cls rm → RT E g mc ms ret post → V E g N ad 0 0 f 0 lo []) : Ct g l y ws rm N ad av f post mc ms := by
  refine Met.ofW (cc := cc) (maxL := maxL) (ret := ret) hy hw ?_
  intro p e s m args below meth c s₁ B hml hv
  obtain ⟨rfl, hP, hK, hD, hz, hSF, hNF⟩ := hv
  have hts := atoms_spec (ws := ws) B.pre
  have hown : s.vm.findClass y.cls = some m.cls := findClass_of_methodNamed B.named
  rw [lg_entry_eq]
  have hl := lvo_sub (lv_entry av (n := maxL) hav) hlo
  exact body (p, l, e, rm, s, m, av.toArray, below, meth, c, maxL, MQ below (Qg g post) av.toArray s mc ms (gA g)) rfl (name_of_methodNamed B.named B.method).1 ⟨B.exec, B.bytes, hml, hown, hts, hK, hz, hSF, hNF, rfl⟩ ⟨B.returns, B.notSynchronized, rfl⟩ s.heap [] _ hP hD va_S.rf hl
end
section
def zM (g : GE) (ad : Nat → Nat) (f : Nat → va_E) (o : Nat) (a : Nat → Int32) (kp : Nat → Int32) (hs : Nat → Int32) (hl : Int32) (so : Nat → Int32) (sv : Nat → Int32) (pd : Nat → Int32) (pn : Int32) (sp : Int32) (od : Int32) (wb : Int32) (nb : Int32) : Nat → va_E := fun q => if q = o then .inr (5, [.ref (ad (o + 1)), .ref (ad (o + 2)), .ref (ad (o + 3)), .int hl, .ref (ad (o + 4)), .ref (ad (o + 5)), .ref (ad (o + 6)), .int pn, .int sp, .int od, .int wb, .int nb]) else if q = o + 1 then .inl (g.2.1 0, 160, .inl a) else if q = o + 2 then .inl (g.2.1 0, 160, .inl kp) else if q = o + 3 then .inl (g.2.1 0, 960, .inl hs) else if q = o + 4 then .inl (g.2.1 0, 320, .inl so) else if q = o + 5 then .inl (g.2.1 0, 2, .inl sv) else if q = o + 6 then .inl (g.2.1 0, 60, .inl pd) else f q
section
variable {E : EV} {g : GE} {N : Nat} {ad : Nat → Nat} {ce sl : Nat} {f : Nat → va_E} {pc : Nat} {lo : List (Option Value)} {st : List Value} {cc : ByteArray} {Ts : List Cond} {own : String} {rm : Room}
variable {o : Nat} {a : Nat → Int32} {kp : Nat → Int32} {hs : Nat → Int32} {hl : Int32} {so : Nat → Int32} {sv : Nat → Int32} {pd : Nat → Int32} {pn : Int32} {sp : Int32} {od : Int32} {wb : Int32} {nb : Int32}
theorem zM_0 : (zM g ad f o a kp hs hl so sv pd pn sp od wb nb) o = .inr (5, [.ref (ad (o + 1)), .ref (ad (o + 2)), .ref (ad (o + 3)), .int hl, .ref (ad (o + 4)), .ref (ad (o + 5)), .ref (ad (o + 6)), .int pn, .int sp, .int od, .int wb, .int nb]) := by simp [zM]
theorem zM_a1 : (zM g ad f o a kp hs hl so sv pd pn sp od wb nb) (o + 1) = .inl (g.2.1 0, 160, .inl a) := by simp [zM]
theorem zM_a2 : (zM g ad f o a kp hs hl so sv pd pn sp od wb nb) (o + 2) = .inl (g.2.1 0, 160, .inl kp) := by simp [zM]
theorem zM_a3 : (zM g ad f o a kp hs hl so sv pd pn sp od wb nb) (o + 3) = .inl (g.2.1 0, 960, .inl hs) := by simp [zM]
theorem zM_a4 : (zM g ad f o a kp hs hl so sv pd pn sp od wb nb) (o + 4) = .inl (g.2.1 0, 320, .inl so) := by simp [zM]
theorem zM_a5 : (zM g ad f o a kp hs hl so sv pd pn sp od wb nb) (o + 5) = .inl (g.2.1 0, 2, .inl sv) := by simp [zM]
theorem zM_a6 : (zM g ad f o a kp hs hl so sv pd pn sp od wb nb) (o + 6) = .inl (g.2.1 0, 60, .inl pd) := by simp [zM]
theorem zM_out {q : Nat} (h : q < o ∨ o + 7 ≤ q) : (zM g ad f o a kp hs hl so sv pd pn sp od wb nb) q = f q := by
  unfold zM
  rw [if_neg (by omega), if_neg (by omega), if_neg (by omega), if_neg (by omega), if_neg (by omega), if_neg (by omega), if_neg (by omega)]
theorem V_zM_all (hC : CX E g cc Ts own rm) (hN : o + 7 ≤ N) {index : Nat} (hd : decode cc pc = .ok (.getfield index, 3)) (hin : ∀ w ∈ wsX50, w ∈ Ts) (hlk : Cond.fieldLink own index "BeltMarksModel" "all" "[I" ∈ Ts) (kk : V E g N ad ce sl (zM g ad f o a kp hs hl so sv pd pn sp od wb nb) (pc + 3) lo (.ref (ad (o + 1)) :: st)) : V E g N ad ce sl (zM g ad f o a kp hs hl so sv pd pn sp od wb nb) pc lo (.ref (ad o) :: st) := V_get hC 0 hd (by omega) zM_0 rfl (by decide) hin hlk rfl kk
theorem V_zM_kept (hC : CX E g cc Ts own rm) (hN : o + 7 ≤ N) {index : Nat} (hd : decode cc pc = .ok (.getfield index, 3)) (hin : ∀ w ∈ wsX50, w ∈ Ts) (hlk : Cond.fieldLink own index "BeltMarksModel" "kept" "[I" ∈ Ts) (kk : V E g N ad ce sl (zM g ad f o a kp hs hl so sv pd pn sp od wb nb) (pc + 3) lo (.ref (ad (o + 2)) :: st)) : V E g N ad ce sl (zM g ad f o a kp hs hl so sv pd pn sp od wb nb) pc lo (.ref (ad o) :: st) := V_get hC 1 hd (by omega) zM_0 rfl (by decide) hin hlk rfl kk
theorem V_zM_history (hC : CX E g cc Ts own rm) (hN : o + 7 ≤ N) {index : Nat} (hd : decode cc pc = .ok (.getfield index, 3)) (hin : ∀ w ∈ wsX50, w ∈ Ts) (hlk : Cond.fieldLink own index "BeltMarksModel" "history" "[I" ∈ Ts) (kk : V E g N ad ce sl (zM g ad f o a kp hs hl so sv pd pn sp od wb nb) (pc + 3) lo (.ref (ad (o + 3)) :: st)) : V E g N ad ce sl (zM g ad f o a kp hs hl so sv pd pn sp od wb nb) pc lo (.ref (ad o) :: st) := V_get hC 2 hd (by omega) zM_0 rfl (by decide) hin hlk rfl kk
theorem V_zM_historyLong (hC : CX E g cc Ts own rm) (hN : o + 7 ≤ N) {index : Nat} (hd : decode cc pc = .ok (.getfield index, 3)) (hin : ∀ w ∈ wsX50, w ∈ Ts) (hlk : Cond.fieldLink own index "BeltMarksModel" "historyLong" "I" ∈ Ts) (kk : V E g N ad ce sl (zM g ad f o a kp hs hl so sv pd pn sp od wb nb) (pc + 3) lo (.int hl :: st)) : V E g N ad ce sl (zM g ad f o a kp hs hl so sv pd pn sp od wb nb) pc lo (.ref (ad o) :: st) := V_get hC 3 hd (by omega) zM_0 rfl (by decide) hin hlk rfl kk
theorem zM_u_historyLong {z : Int32} : va_up (zM g ad f o a kp hs hl so sv pd pn sp od wb nb) o (.inr (5, [.ref (ad (o + 1)), .ref (ad (o + 2)), .ref (ad (o + 3)), .int z, .ref (ad (o + 4)), .ref (ad (o + 5)), .ref (ad (o + 6)), .int pn, .int sp, .int od, .int wb, .int nb])) = zM g ad f o a kp hs z so sv pd pn sp od wb nb := by
  funext q
  unfold va_up zM
  by_cases h : q = o
  · subst h; simp
  · simp [h]
theorem V_zM_put_historyLong (hC : CX E g cc Ts own rm) (hN : o + 7 ≤ N) {index : Nat} {z : Int32} (hd : decode cc pc = .ok (.putfield index, 3)) (hin : ∀ w ∈ wsX50, w ∈ Ts) (hlk : Cond.fieldLink own index "BeltMarksModel" "historyLong" "I" ∈ Ts) (kk : V E g N ad ce sl (zM g ad f o a kp hs z so sv pd pn sp od wb nb) (pc + 3) lo st) : V E g N ad ce sl (zM g ad f o a kp hs hl so sv pd pn sp od wb nb) pc lo (.int z :: .ref (ad o) :: st) := V_put hC (ty := .int) 3 hd (by omega) zM_0 rfl (by decide) hin hlk tyX5_ok nmX5 rfl rfl rfl rfl (by simp) (V_f zM_u_historyLong kk)
theorem V_zM_slots (hC : CX E g cc Ts own rm) (hN : o + 7 ≤ N) {index : Nat} (hd : decode cc pc = .ok (.getfield index, 3)) (hin : ∀ w ∈ wsX50, w ∈ Ts) (hlk : Cond.fieldLink own index "BeltMarksModel" "slots" "[I" ∈ Ts) (kk : V E g N ad ce sl (zM g ad f o a kp hs hl so sv pd pn sp od wb nb) (pc + 3) lo (.ref (ad (o + 4)) :: st)) : V E g N ad ce sl (zM g ad f o a kp hs hl so sv pd pn sp od wb nb) pc lo (.ref (ad o) :: st) := V_get hC 4 hd (by omega) zM_0 rfl (by decide) hin hlk rfl kk
theorem V_zM_isSaved (hC : CX E g cc Ts own rm) (hN : o + 7 ≤ N) {index : Nat} (hd : decode cc pc = .ok (.getfield index, 3)) (hin : ∀ w ∈ wsX50, w ∈ Ts) (hlk : Cond.fieldLink own index "BeltMarksModel" "isSaved" "[I" ∈ Ts) (kk : V E g N ad ce sl (zM g ad f o a kp hs hl so sv pd pn sp od wb nb) (pc + 3) lo (.ref (ad (o + 5)) :: st)) : V E g N ad ce sl (zM g ad f o a kp hs hl so sv pd pn sp od wb nb) pc lo (.ref (ad o) :: st) := V_get hC 5 hd (by omega) zM_0 rfl (by decide) hin hlk rfl kk
theorem V_zM_pad (hC : CX E g cc Ts own rm) (hN : o + 7 ≤ N) {index : Nat} (hd : decode cc pc = .ok (.getfield index, 3)) (hin : ∀ w ∈ wsX50, w ∈ Ts) (hlk : Cond.fieldLink own index "BeltMarksModel" "pad" "[I" ∈ Ts) (kk : V E g N ad ce sl (zM g ad f o a kp hs hl so sv pd pn sp od wb nb) (pc + 3) lo (.ref (ad (o + 6)) :: st)) : V E g N ad ce sl (zM g ad f o a kp hs hl so sv pd pn sp od wb nb) pc lo (.ref (ad o) :: st) := V_get hC 6 hd (by omega) zM_0 rfl (by decide) hin hlk rfl kk
theorem V_zM_padLong (hC : CX E g cc Ts own rm) (hN : o + 7 ≤ N) {index : Nat} (hd : decode cc pc = .ok (.getfield index, 3)) (hin : ∀ w ∈ wsX50, w ∈ Ts) (hlk : Cond.fieldLink own index "BeltMarksModel" "padLong" "I" ∈ Ts) (kk : V E g N ad ce sl (zM g ad f o a kp hs hl so sv pd pn sp od wb nb) (pc + 3) lo (.int pn :: st)) : V E g N ad ce sl (zM g ad f o a kp hs hl so sv pd pn sp od wb nb) pc lo (.ref (ad o) :: st) := V_get hC 7 hd (by omega) zM_0 rfl (by decide) hin hlk rfl kk
theorem zM_u_padLong {z : Int32} : va_up (zM g ad f o a kp hs hl so sv pd pn sp od wb nb) o (.inr (5, [.ref (ad (o + 1)), .ref (ad (o + 2)), .ref (ad (o + 3)), .int hl, .ref (ad (o + 4)), .ref (ad (o + 5)), .ref (ad (o + 6)), .int z, .int sp, .int od, .int wb, .int nb])) = zM g ad f o a kp hs hl so sv pd z sp od wb nb := by
  funext q
  unfold va_up zM
  by_cases h : q = o
  · subst h; simp
  · simp [h]
theorem V_zM_put_padLong (hC : CX E g cc Ts own rm) (hN : o + 7 ≤ N) {index : Nat} {z : Int32} (hd : decode cc pc = .ok (.putfield index, 3)) (hin : ∀ w ∈ wsX50, w ∈ Ts) (hlk : Cond.fieldLink own index "BeltMarksModel" "padLong" "I" ∈ Ts) (kk : V E g N ad ce sl (zM g ad f o a kp hs hl so sv pd z sp od wb nb) (pc + 3) lo st) : V E g N ad ce sl (zM g ad f o a kp hs hl so sv pd pn sp od wb nb) pc lo (.int z :: .ref (ad o) :: st) := V_put hC (ty := .int) 7 hd (by omega) zM_0 rfl (by decide) hin hlk tyX5_ok nmX5 rfl rfl rfl rfl (by simp) (V_f zM_u_padLong kk)
theorem V_zM_spot (hC : CX E g cc Ts own rm) (hN : o + 7 ≤ N) {index : Nat} (hd : decode cc pc = .ok (.getfield index, 3)) (hin : ∀ w ∈ wsX50, w ∈ Ts) (hlk : Cond.fieldLink own index "BeltMarksModel" "spot" "I" ∈ Ts) (kk : V E g N ad ce sl (zM g ad f o a kp hs hl so sv pd pn sp od wb nb) (pc + 3) lo (.int sp :: st)) : V E g N ad ce sl (zM g ad f o a kp hs hl so sv pd pn sp od wb nb) pc lo (.ref (ad o) :: st) := V_get hC 8 hd (by omega) zM_0 rfl (by decide) hin hlk rfl kk
theorem zM_u_spot {z : Int32} : va_up (zM g ad f o a kp hs hl so sv pd pn sp od wb nb) o (.inr (5, [.ref (ad (o + 1)), .ref (ad (o + 2)), .ref (ad (o + 3)), .int hl, .ref (ad (o + 4)), .ref (ad (o + 5)), .ref (ad (o + 6)), .int pn, .int z, .int od, .int wb, .int nb])) = zM g ad f o a kp hs hl so sv pd pn z od wb nb := by
  funext q
  unfold va_up zM
  by_cases h : q = o
  · subst h; simp
  · simp [h]
theorem V_zM_put_spot (hC : CX E g cc Ts own rm) (hN : o + 7 ≤ N) {index : Nat} {z : Int32} (hd : decode cc pc = .ok (.putfield index, 3)) (hin : ∀ w ∈ wsX50, w ∈ Ts) (hlk : Cond.fieldLink own index "BeltMarksModel" "spot" "I" ∈ Ts) (kk : V E g N ad ce sl (zM g ad f o a kp hs hl so sv pd pn z od wb nb) (pc + 3) lo st) : V E g N ad ce sl (zM g ad f o a kp hs hl so sv pd pn sp od wb nb) pc lo (.int z :: .ref (ad o) :: st) := V_put hC (ty := .int) 8 hd (by omega) zM_0 rfl (by decide) hin hlk tyX5_ok nmX5 rfl rfl rfl rfl (by simp) (V_f zM_u_spot kk)
theorem V_zM_order (hC : CX E g cc Ts own rm) (hN : o + 7 ≤ N) {index : Nat} (hd : decode cc pc = .ok (.getfield index, 3)) (hin : ∀ w ∈ wsX50, w ∈ Ts) (hlk : Cond.fieldLink own index "BeltMarksModel" "order" "I" ∈ Ts) (kk : V E g N ad ce sl (zM g ad f o a kp hs hl so sv pd pn sp od wb nb) (pc + 3) lo (.int od :: st)) : V E g N ad ce sl (zM g ad f o a kp hs hl so sv pd pn sp od wb nb) pc lo (.ref (ad o) :: st) := V_get hC 9 hd (by omega) zM_0 rfl (by decide) hin hlk rfl kk
theorem zM_u_order {z : Int32} : va_up (zM g ad f o a kp hs hl so sv pd pn sp od wb nb) o (.inr (5, [.ref (ad (o + 1)), .ref (ad (o + 2)), .ref (ad (o + 3)), .int hl, .ref (ad (o + 4)), .ref (ad (o + 5)), .ref (ad (o + 6)), .int pn, .int sp, .int z, .int wb, .int nb])) = zM g ad f o a kp hs hl so sv pd pn sp z wb nb := by
  funext q
  unfold va_up zM
  by_cases h : q = o
  · subst h; simp
  · simp [h]
theorem V_zM_put_order (hC : CX E g cc Ts own rm) (hN : o + 7 ≤ N) {index : Nat} {z : Int32} (hd : decode cc pc = .ok (.putfield index, 3)) (hin : ∀ w ∈ wsX50, w ∈ Ts) (hlk : Cond.fieldLink own index "BeltMarksModel" "order" "I" ∈ Ts) (kk : V E g N ad ce sl (zM g ad f o a kp hs hl so sv pd pn sp z wb nb) (pc + 3) lo st) : V E g N ad ce sl (zM g ad f o a kp hs hl so sv pd pn sp od wb nb) pc lo (.int z :: .ref (ad o) :: st) := V_put hC (ty := .int) 9 hd (by omega) zM_0 rfl (by decide) hin hlk tyX5_ok nmX5 rfl rfl rfl rfl (by simp) (V_f zM_u_order kk)
theorem V_zM_whichBox (hC : CX E g cc Ts own rm) (hN : o + 7 ≤ N) {index : Nat} (hd : decode cc pc = .ok (.getfield index, 3)) (hin : ∀ w ∈ wsX50, w ∈ Ts) (hlk : Cond.fieldLink own index "BeltMarksModel" "whichBox" "I" ∈ Ts) (kk : V E g N ad ce sl (zM g ad f o a kp hs hl so sv pd pn sp od wb nb) (pc + 3) lo (.int wb :: st)) : V E g N ad ce sl (zM g ad f o a kp hs hl so sv pd pn sp od wb nb) pc lo (.ref (ad o) :: st) := V_get hC 10 hd (by omega) zM_0 rfl (by decide) hin hlk rfl kk
theorem zM_u_whichBox {z : Int32} : va_up (zM g ad f o a kp hs hl so sv pd pn sp od wb nb) o (.inr (5, [.ref (ad (o + 1)), .ref (ad (o + 2)), .ref (ad (o + 3)), .int hl, .ref (ad (o + 4)), .ref (ad (o + 5)), .ref (ad (o + 6)), .int pn, .int sp, .int od, .int z, .int nb])) = zM g ad f o a kp hs hl so sv pd pn sp od z nb := by
  funext q
  unfold va_up zM
  by_cases h : q = o
  · subst h; simp
  · simp [h]
theorem V_zM_put_whichBox (hC : CX E g cc Ts own rm) (hN : o + 7 ≤ N) {index : Nat} {z : Int32} (hd : decode cc pc = .ok (.putfield index, 3)) (hin : ∀ w ∈ wsX50, w ∈ Ts) (hlk : Cond.fieldLink own index "BeltMarksModel" "whichBox" "I" ∈ Ts) (kk : V E g N ad ce sl (zM g ad f o a kp hs hl so sv pd pn sp od z nb) (pc + 3) lo st) : V E g N ad ce sl (zM g ad f o a kp hs hl so sv pd pn sp od wb nb) pc lo (.int z :: .ref (ad o) :: st) := V_put hC (ty := .int) 10 hd (by omega) zM_0 rfl (by decide) hin hlk tyX5_ok nmX5 rfl rfl rfl rfl (by simp) (V_f zM_u_whichBox kk)
theorem V_zM_number (hC : CX E g cc Ts own rm) (hN : o + 7 ≤ N) {index : Nat} (hd : decode cc pc = .ok (.getfield index, 3)) (hin : ∀ w ∈ wsX50, w ∈ Ts) (hlk : Cond.fieldLink own index "BeltMarksModel" "number" "I" ∈ Ts) (kk : V E g N ad ce sl (zM g ad f o a kp hs hl so sv pd pn sp od wb nb) (pc + 3) lo (.int nb :: st)) : V E g N ad ce sl (zM g ad f o a kp hs hl so sv pd pn sp od wb nb) pc lo (.ref (ad o) :: st) := V_get hC 11 hd (by omega) zM_0 rfl (by decide) hin hlk rfl kk
theorem zM_u_number {z : Int32} : va_up (zM g ad f o a kp hs hl so sv pd pn sp od wb nb) o (.inr (5, [.ref (ad (o + 1)), .ref (ad (o + 2)), .ref (ad (o + 3)), .int hl, .ref (ad (o + 4)), .ref (ad (o + 5)), .ref (ad (o + 6)), .int pn, .int sp, .int od, .int wb, .int z])) = zM g ad f o a kp hs hl so sv pd pn sp od wb z := by
  funext q
  unfold va_up zM
  by_cases h : q = o
  · subst h; simp
  · simp [h]
theorem V_zM_put_number (hC : CX E g cc Ts own rm) (hN : o + 7 ≤ N) {index : Nat} {z : Int32} (hd : decode cc pc = .ok (.putfield index, 3)) (hin : ∀ w ∈ wsX50, w ∈ Ts) (hlk : Cond.fieldLink own index "BeltMarksModel" "number" "I" ∈ Ts) (kk : V E g N ad ce sl (zM g ad f o a kp hs hl so sv pd pn sp od wb z) (pc + 3) lo st) : V E g N ad ce sl (zM g ad f o a kp hs hl so sv pd pn sp od wb nb) pc lo (.int z :: .ref (ad o) :: st) := V_put hC (ty := .int) 11 hd (by omega) zM_0 rfl (by decide) hin hlk tyX5_ok nmX5 rfl rfl rfl rfl (by simp) (V_f zM_u_number kk)
theorem zM_u1 {z : Nat → Int32} : va_up (zM g ad f o a kp hs hl so sv pd pn sp od wb nb) (o + 1) (.inl (g.2.1 0, 160, .inl z)) = zM g ad f o z kp hs hl so sv pd pn sp od wb nb := by
  funext q
  unfold va_up zM
  by_cases h : q = o + 1
  · subst h; simp
  · simp [h]
theorem V_zM_ld1 (hC : CX E g cc Ts own rm) (hN : o + 7 ≤ N) {j : Int32} {k : Nat} (hd : decode cc pc = .ok (.iaload, 1)) (hx : ix j k 160) (kk : V E g N ad ce sl (zM g ad f o a kp hs hl so sv pd pn sp od wb nb) (pc + 1) lo (.int (a k) :: st)) : V E g N ad ce sl (zM g ad f o a kp hs hl so sv pd pn sp od wb nb) pc lo (.int j :: .ref (ad (o + 1)) :: st) := V_iald hC hd (by omega) zM_a1 hx kk
theorem V_zM_st1 (hC : CX E g cc Ts own rm) (hN : o + 7 ≤ N) {j x : Int32} {k : Nat} (hd : decode cc pc = .ok (.iastore, 1)) (hx : ix j k 160) (kk : V E g N ad ce sl (zM g ad f o (upd a k x) kp hs hl so sv pd pn sp od wb nb) (pc + 1) lo st) : V E g N ad ce sl (zM g ad f o a kp hs hl so sv pd pn sp od wb nb) pc lo (.int x :: .int j :: .ref (ad (o + 1)) :: st) := V_iast hC hd (by omega) zM_a1 hx (V_f zM_u1 kk)
theorem V_zM_len1 (hC : CX E g cc Ts own rm) (hN : o + 7 ≤ N) (v : Int32) (hd : decode cc pc = .ok (.arraylength, 1)) (hv : Int32.ofNat 160 = v) (kk : V E g N ad ce sl (zM g ad f o a kp hs hl so sv pd pn sp od wb nb) (pc + 1) lo (.int v :: st)) : V E g N ad ce sl (zM g ad f o a kp hs hl so sv pd pn sp od wb nb) pc lo (.ref (ad (o + 1)) :: st) := V_alen (t0 := 0) (ty := .int) hC v hd (by omega) zM_a1 rfl hv kk
theorem zM_u2 {z : Nat → Int32} : va_up (zM g ad f o a kp hs hl so sv pd pn sp od wb nb) (o + 2) (.inl (g.2.1 0, 160, .inl z)) = zM g ad f o a z hs hl so sv pd pn sp od wb nb := by
  funext q
  unfold va_up zM
  by_cases h : q = o + 2
  · subst h; simp
  · simp [h]
theorem V_zM_ld2 (hC : CX E g cc Ts own rm) (hN : o + 7 ≤ N) {j : Int32} {k : Nat} (hd : decode cc pc = .ok (.iaload, 1)) (hx : ix j k 160) (kk : V E g N ad ce sl (zM g ad f o a kp hs hl so sv pd pn sp od wb nb) (pc + 1) lo (.int (kp k) :: st)) : V E g N ad ce sl (zM g ad f o a kp hs hl so sv pd pn sp od wb nb) pc lo (.int j :: .ref (ad (o + 2)) :: st) := V_iald hC hd (by omega) zM_a2 hx kk
theorem V_zM_st2 (hC : CX E g cc Ts own rm) (hN : o + 7 ≤ N) {j x : Int32} {k : Nat} (hd : decode cc pc = .ok (.iastore, 1)) (hx : ix j k 160) (kk : V E g N ad ce sl (zM g ad f o a (upd kp k x) hs hl so sv pd pn sp od wb nb) (pc + 1) lo st) : V E g N ad ce sl (zM g ad f o a kp hs hl so sv pd pn sp od wb nb) pc lo (.int x :: .int j :: .ref (ad (o + 2)) :: st) := V_iast hC hd (by omega) zM_a2 hx (V_f zM_u2 kk)
theorem V_zM_len2 (hC : CX E g cc Ts own rm) (hN : o + 7 ≤ N) (v : Int32) (hd : decode cc pc = .ok (.arraylength, 1)) (hv : Int32.ofNat 160 = v) (kk : V E g N ad ce sl (zM g ad f o a kp hs hl so sv pd pn sp od wb nb) (pc + 1) lo (.int v :: st)) : V E g N ad ce sl (zM g ad f o a kp hs hl so sv pd pn sp od wb nb) pc lo (.ref (ad (o + 2)) :: st) := V_alen (t0 := 0) (ty := .int) hC v hd (by omega) zM_a2 rfl hv kk
theorem zM_u3 {z : Nat → Int32} : va_up (zM g ad f o a kp hs hl so sv pd pn sp od wb nb) (o + 3) (.inl (g.2.1 0, 960, .inl z)) = zM g ad f o a kp z hl so sv pd pn sp od wb nb := by
  funext q
  unfold va_up zM
  by_cases h : q = o + 3
  · subst h; simp
  · simp [h]
theorem V_zM_ld3 (hC : CX E g cc Ts own rm) (hN : o + 7 ≤ N) {j : Int32} {k : Nat} (hd : decode cc pc = .ok (.iaload, 1)) (hx : ix j k 960) (kk : V E g N ad ce sl (zM g ad f o a kp hs hl so sv pd pn sp od wb nb) (pc + 1) lo (.int (hs k) :: st)) : V E g N ad ce sl (zM g ad f o a kp hs hl so sv pd pn sp od wb nb) pc lo (.int j :: .ref (ad (o + 3)) :: st) := V_iald hC hd (by omega) zM_a3 hx kk
theorem V_zM_st3 (hC : CX E g cc Ts own rm) (hN : o + 7 ≤ N) {j x : Int32} {k : Nat} (hd : decode cc pc = .ok (.iastore, 1)) (hx : ix j k 960) (kk : V E g N ad ce sl (zM g ad f o a kp (upd hs k x) hl so sv pd pn sp od wb nb) (pc + 1) lo st) : V E g N ad ce sl (zM g ad f o a kp hs hl so sv pd pn sp od wb nb) pc lo (.int x :: .int j :: .ref (ad (o + 3)) :: st) := V_iast hC hd (by omega) zM_a3 hx (V_f zM_u3 kk)
theorem V_zM_len3 (hC : CX E g cc Ts own rm) (hN : o + 7 ≤ N) (v : Int32) (hd : decode cc pc = .ok (.arraylength, 1)) (hv : Int32.ofNat 960 = v) (kk : V E g N ad ce sl (zM g ad f o a kp hs hl so sv pd pn sp od wb nb) (pc + 1) lo (.int v :: st)) : V E g N ad ce sl (zM g ad f o a kp hs hl so sv pd pn sp od wb nb) pc lo (.ref (ad (o + 3)) :: st) := V_alen (t0 := 0) (ty := .int) hC v hd (by omega) zM_a3 rfl hv kk
theorem zM_u4 {z : Nat → Int32} : va_up (zM g ad f o a kp hs hl so sv pd pn sp od wb nb) (o + 4) (.inl (g.2.1 0, 320, .inl z)) = zM g ad f o a kp hs hl z sv pd pn sp od wb nb := by
  funext q
  unfold va_up zM
  by_cases h : q = o + 4
  · subst h; simp
  · simp [h]
theorem V_zM_ld4 (hC : CX E g cc Ts own rm) (hN : o + 7 ≤ N) {j : Int32} {k : Nat} (hd : decode cc pc = .ok (.iaload, 1)) (hx : ix j k 320) (kk : V E g N ad ce sl (zM g ad f o a kp hs hl so sv pd pn sp od wb nb) (pc + 1) lo (.int (so k) :: st)) : V E g N ad ce sl (zM g ad f o a kp hs hl so sv pd pn sp od wb nb) pc lo (.int j :: .ref (ad (o + 4)) :: st) := V_iald hC hd (by omega) zM_a4 hx kk
theorem V_zM_st4 (hC : CX E g cc Ts own rm) (hN : o + 7 ≤ N) {j x : Int32} {k : Nat} (hd : decode cc pc = .ok (.iastore, 1)) (hx : ix j k 320) (kk : V E g N ad ce sl (zM g ad f o a kp hs hl (upd so k x) sv pd pn sp od wb nb) (pc + 1) lo st) : V E g N ad ce sl (zM g ad f o a kp hs hl so sv pd pn sp od wb nb) pc lo (.int x :: .int j :: .ref (ad (o + 4)) :: st) := V_iast hC hd (by omega) zM_a4 hx (V_f zM_u4 kk)
theorem V_zM_len4 (hC : CX E g cc Ts own rm) (hN : o + 7 ≤ N) (v : Int32) (hd : decode cc pc = .ok (.arraylength, 1)) (hv : Int32.ofNat 320 = v) (kk : V E g N ad ce sl (zM g ad f o a kp hs hl so sv pd pn sp od wb nb) (pc + 1) lo (.int v :: st)) : V E g N ad ce sl (zM g ad f o a kp hs hl so sv pd pn sp od wb nb) pc lo (.ref (ad (o + 4)) :: st) := V_alen (t0 := 0) (ty := .int) hC v hd (by omega) zM_a4 rfl hv kk
theorem zM_u5 {z : Nat → Int32} : va_up (zM g ad f o a kp hs hl so sv pd pn sp od wb nb) (o + 5) (.inl (g.2.1 0, 2, .inl z)) = zM g ad f o a kp hs hl so z pd pn sp od wb nb := by
  funext q
  unfold va_up zM
  by_cases h : q = o + 5
  · subst h; simp
  · simp [h]
theorem V_zM_ld5 (hC : CX E g cc Ts own rm) (hN : o + 7 ≤ N) {j : Int32} {k : Nat} (hd : decode cc pc = .ok (.iaload, 1)) (hx : ix j k 2) (kk : V E g N ad ce sl (zM g ad f o a kp hs hl so sv pd pn sp od wb nb) (pc + 1) lo (.int (sv k) :: st)) : V E g N ad ce sl (zM g ad f o a kp hs hl so sv pd pn sp od wb nb) pc lo (.int j :: .ref (ad (o + 5)) :: st) := V_iald hC hd (by omega) zM_a5 hx kk
theorem V_zM_st5 (hC : CX E g cc Ts own rm) (hN : o + 7 ≤ N) {j x : Int32} {k : Nat} (hd : decode cc pc = .ok (.iastore, 1)) (hx : ix j k 2) (kk : V E g N ad ce sl (zM g ad f o a kp hs hl so (upd sv k x) pd pn sp od wb nb) (pc + 1) lo st) : V E g N ad ce sl (zM g ad f o a kp hs hl so sv pd pn sp od wb nb) pc lo (.int x :: .int j :: .ref (ad (o + 5)) :: st) := V_iast hC hd (by omega) zM_a5 hx (V_f zM_u5 kk)
theorem V_zM_len5 (hC : CX E g cc Ts own rm) (hN : o + 7 ≤ N) (v : Int32) (hd : decode cc pc = .ok (.arraylength, 1)) (hv : Int32.ofNat 2 = v) (kk : V E g N ad ce sl (zM g ad f o a kp hs hl so sv pd pn sp od wb nb) (pc + 1) lo (.int v :: st)) : V E g N ad ce sl (zM g ad f o a kp hs hl so sv pd pn sp od wb nb) pc lo (.ref (ad (o + 5)) :: st) := V_alen (t0 := 0) (ty := .int) hC v hd (by omega) zM_a5 rfl hv kk
theorem zM_u6 {z : Nat → Int32} : va_up (zM g ad f o a kp hs hl so sv pd pn sp od wb nb) (o + 6) (.inl (g.2.1 0, 60, .inl z)) = zM g ad f o a kp hs hl so sv z pn sp od wb nb := by
  funext q
  unfold va_up zM
  by_cases h : q = o + 6
  · subst h; simp
  · simp [h]
theorem V_zM_ld6 (hC : CX E g cc Ts own rm) (hN : o + 7 ≤ N) {j : Int32} {k : Nat} (hd : decode cc pc = .ok (.iaload, 1)) (hx : ix j k 60) (kk : V E g N ad ce sl (zM g ad f o a kp hs hl so sv pd pn sp od wb nb) (pc + 1) lo (.int (pd k) :: st)) : V E g N ad ce sl (zM g ad f o a kp hs hl so sv pd pn sp od wb nb) pc lo (.int j :: .ref (ad (o + 6)) :: st) := V_iald hC hd (by omega) zM_a6 hx kk
theorem V_zM_st6 (hC : CX E g cc Ts own rm) (hN : o + 7 ≤ N) {j x : Int32} {k : Nat} (hd : decode cc pc = .ok (.iastore, 1)) (hx : ix j k 60) (kk : V E g N ad ce sl (zM g ad f o a kp hs hl so sv (upd pd k x) pn sp od wb nb) (pc + 1) lo st) : V E g N ad ce sl (zM g ad f o a kp hs hl so sv pd pn sp od wb nb) pc lo (.int x :: .int j :: .ref (ad (o + 6)) :: st) := V_iast hC hd (by omega) zM_a6 hx (V_f zM_u6 kk)
theorem V_zM_len6 (hC : CX E g cc Ts own rm) (hN : o + 7 ≤ N) (v : Int32) (hd : decode cc pc = .ok (.arraylength, 1)) (hv : Int32.ofNat 60 = v) (kk : V E g N ad ce sl (zM g ad f o a kp hs hl so sv pd pn sp od wb nb) (pc + 1) lo (.int v :: st)) : V E g N ad ce sl (zM g ad f o a kp hs hl so sv pd pn sp od wb nb) pc lo (.ref (ad (o + 6)) :: st) := V_alen (t0 := 0) (ty := .int) hC v hd (by omega) zM_a6 rfl hv kk
end
def zD (g : GE) (ad : Nat → Nat) (f : Nat → va_E) (o : Nat) (sg : Nat → Int32) (ln : Int32) : Nat → va_E := fun q => if q = o then .inr (3, [.ref (ad (o + 1)), .int ln]) else if q = o + 1 then .inl (g.2.1 1, 60, .inl sg) else f q
section
variable {E : EV} {g : GE} {N : Nat} {ad : Nat → Nat} {ce sl : Nat} {f : Nat → va_E} {pc : Nat} {lo : List (Option Value)} {st : List Value} {cc : ByteArray} {Ts : List Cond} {own : String} {rm : Room}
variable {o : Nat} {sg : Nat → Int32} {ln : Int32}
theorem zD_0 : (zD g ad f o sg ln) o = .inr (3, [.ref (ad (o + 1)), .int ln]) := by simp [zD]
theorem zD_a1 : (zD g ad f o sg ln) (o + 1) = .inl (g.2.1 1, 60, .inl sg) := by simp [zD]
theorem zD_out {q : Nat} (h : q < o ∨ o + 2 ≤ q) : (zD g ad f o sg ln) q = f q := by
  unfold zD
  rw [if_neg (by omega), if_neg (by omega)]
theorem V_zD_signs (hC : CX E g cc Ts own rm) (hN : o + 2 ≤ N) {index : Nat} (hd : decode cc pc = .ok (.getfield index, 3)) (hin : ∀ w ∈ wsX30, w ∈ Ts) (hlk : Cond.fieldLink own index "BeltMarks$Pad" "signs" "[C" ∈ Ts) (kk : V E g N ad ce sl (zD g ad f o sg ln) (pc + 3) lo (.ref (ad (o + 1)) :: st)) : V E g N ad ce sl (zD g ad f o sg ln) pc lo (.ref (ad o) :: st) := V_get hC 0 hd (by omega) zD_0 rfl (by decide) hin hlk rfl kk
theorem V_zD_length (hC : CX E g cc Ts own rm) (hN : o + 2 ≤ N) {index : Nat} (hd : decode cc pc = .ok (.getfield index, 3)) (hin : ∀ w ∈ wsX30, w ∈ Ts) (hlk : Cond.fieldLink own index "BeltMarks$Pad" "length" "I" ∈ Ts) (kk : V E g N ad ce sl (zD g ad f o sg ln) (pc + 3) lo (.int ln :: st)) : V E g N ad ce sl (zD g ad f o sg ln) pc lo (.ref (ad o) :: st) := V_get hC 1 hd (by omega) zD_0 rfl (by decide) hin hlk rfl kk
theorem zD_u_length {z : Int32} : va_up (zD g ad f o sg ln) o (.inr (3, [.ref (ad (o + 1)), .int z])) = zD g ad f o sg z := by
  funext q
  unfold va_up zD
  by_cases h : q = o
  · subst h; simp
  · simp [h]
theorem V_zD_put_length (hC : CX E g cc Ts own rm) (hN : o + 2 ≤ N) {index : Nat} {z : Int32} (hd : decode cc pc = .ok (.putfield index, 3)) (hin : ∀ w ∈ wsX30, w ∈ Ts) (hlk : Cond.fieldLink own index "BeltMarks$Pad" "length" "I" ∈ Ts) (kk : V E g N ad ce sl (zD g ad f o sg z) (pc + 3) lo st) : V E g N ad ce sl (zD g ad f o sg ln) pc lo (.int z :: .ref (ad o) :: st) := V_put hC (ty := .int) 1 hd (by omega) zD_0 rfl (by decide) hin hlk tyX3_ok nmX3 rfl rfl rfl rfl (by simp) (V_f zD_u_length kk)
theorem zD_u1 {z : Nat → Int32} : va_up (zD g ad f o sg ln) (o + 1) (.inl (g.2.1 1, 60, .inl z)) = zD g ad f o z ln := by
  funext q
  unfold va_up zD
  by_cases h : q = o + 1
  · subst h; simp
  · simp [h]
theorem V_zD_ld1 (hC : CX E g cc Ts own rm) (hN : o + 2 ≤ N) {j : Int32} {k : Nat} (hd : decode cc pc = .ok (.caload, 1)) (hx : ix j k 60) (kk : V E g N ad ce sl (zD g ad f o sg ln) (pc + 1) lo (.int (sg k) :: st)) : V E g N ad ce sl (zD g ad f o sg ln) pc lo (.int j :: .ref (ad (o + 1)) :: st) := V_cald hC hd (by omega) zD_a1 hx kk
theorem V_zD_st1 (hC : CX E g cc Ts own rm) (hN : o + 2 ≤ N) {j x : Int32} {k : Nat} (hd : decode cc pc = .ok (.castore, 1)) (hx : ix j k 60) (kk : V E g N ad ce sl (zD g ad f o (upd sg k (vp_nar .char x)) ln) (pc + 1) lo st) : V E g N ad ce sl (zD g ad f o sg ln) pc lo (.int x :: .int j :: .ref (ad (o + 1)) :: st) := V_cast hC hd (by omega) zD_a1 hx (V_f zD_u1 kk)
theorem V_zD_len1 (hC : CX E g cc Ts own rm) (hN : o + 2 ≤ N) (v : Int32) (hd : decode cc pc = .ok (.arraylength, 1)) (hv : Int32.ofNat 60 = v) (kk : V E g N ad ce sl (zD g ad f o sg ln) (pc + 1) lo (.int v :: st)) : V E g N ad ce sl (zD g ad f o sg ln) pc lo (.ref (ad (o + 1)) :: st) := V_alen (t0 := 1) (ty := .char) hC v hd (by omega) zD_a1 rfl hv kk
end
def zY (g : GE) (ad : Nat → Nat) (f : Nat → va_E) (o : Nat) (ss : Nat → Option Nat) (ol : Int32) (sz : Int32) : Nat → va_E := fun q => if q = o then .inr (2, [.ref (ad (o + 1)), .int ol, .int sz]) else if q = o + 1 then .inl (g.2.1 3, 7, .inr (.inr (.inr (.inr ss)))) else f q
section
variable {E : EV} {g : GE} {N : Nat} {ad : Nat → Nat} {ce sl : Nat} {f : Nat → va_E} {pc : Nat} {lo : List (Option Value)} {st : List Value} {cc : ByteArray} {Ts : List Cond} {own : String} {rm : Room}
variable {o : Nat} {ss : Nat → Option Nat} {ol : Int32} {sz : Int32}
theorem zY_0 : (zY g ad f o ss ol sz) o = .inr (2, [.ref (ad (o + 1)), .int ol, .int sz]) := by simp [zY]
theorem zY_a1 : (zY g ad f o ss ol sz) (o + 1) = .inl (g.2.1 3, 7, .inr (.inr (.inr (.inr ss)))) := by simp [zY]
theorem zY_out {q : Nat} (h : q < o ∨ o + 2 ≤ q) : (zY g ad f o ss ol sz) q = f q := by
  unfold zY
  rw [if_neg (by omega), if_neg (by omega)]
theorem V_zY_states (hC : CX E g cc Ts own rm) (hN : o + 2 ≤ N) {index : Nat} (hd : decode cc pc = .ok (.getfield index, 3)) (hin : ∀ w ∈ wsX20, w ∈ Ts) (hlk : Cond.fieldLink own index "BeltMarks$History" "states" "[LBeltMarks$Belt;" ∈ Ts) (kk : V E g N ad ce sl (zY g ad f o ss ol sz) (pc + 3) lo (.ref (ad (o + 1)) :: st)) : V E g N ad ce sl (zY g ad f o ss ol sz) pc lo (.ref (ad o) :: st) := V_get hC 0 hd (by omega) zY_0 rfl (by decide) hin hlk rfl kk
theorem V_zY_oldest (hC : CX E g cc Ts own rm) (hN : o + 2 ≤ N) {index : Nat} (hd : decode cc pc = .ok (.getfield index, 3)) (hin : ∀ w ∈ wsX20, w ∈ Ts) (hlk : Cond.fieldLink own index "BeltMarks$History" "oldest" "I" ∈ Ts) (kk : V E g N ad ce sl (zY g ad f o ss ol sz) (pc + 3) lo (.int ol :: st)) : V E g N ad ce sl (zY g ad f o ss ol sz) pc lo (.ref (ad o) :: st) := V_get hC 1 hd (by omega) zY_0 rfl (by decide) hin hlk rfl kk
theorem zY_u_oldest {z : Int32} : va_up (zY g ad f o ss ol sz) o (.inr (2, [.ref (ad (o + 1)), .int z, .int sz])) = zY g ad f o ss z sz := by
  funext q
  unfold va_up zY
  by_cases h : q = o
  · subst h; simp
  · simp [h]
theorem V_zY_put_oldest (hC : CX E g cc Ts own rm) (hN : o + 2 ≤ N) {index : Nat} {z : Int32} (hd : decode cc pc = .ok (.putfield index, 3)) (hin : ∀ w ∈ wsX20, w ∈ Ts) (hlk : Cond.fieldLink own index "BeltMarks$History" "oldest" "I" ∈ Ts) (kk : V E g N ad ce sl (zY g ad f o ss z sz) (pc + 3) lo st) : V E g N ad ce sl (zY g ad f o ss ol sz) pc lo (.int z :: .ref (ad o) :: st) := V_put hC (ty := .int) 1 hd (by omega) zY_0 rfl (by decide) hin hlk tyX2_ok nmX2 rfl rfl rfl rfl (by simp) (V_f zY_u_oldest kk)
theorem V_zY_size (hC : CX E g cc Ts own rm) (hN : o + 2 ≤ N) {index : Nat} (hd : decode cc pc = .ok (.getfield index, 3)) (hin : ∀ w ∈ wsX20, w ∈ Ts) (hlk : Cond.fieldLink own index "BeltMarks$History" "size" "I" ∈ Ts) (kk : V E g N ad ce sl (zY g ad f o ss ol sz) (pc + 3) lo (.int sz :: st)) : V E g N ad ce sl (zY g ad f o ss ol sz) pc lo (.ref (ad o) :: st) := V_get hC 2 hd (by omega) zY_0 rfl (by decide) hin hlk rfl kk
theorem zY_u_size {z : Int32} : va_up (zY g ad f o ss ol sz) o (.inr (2, [.ref (ad (o + 1)), .int ol, .int z])) = zY g ad f o ss ol z := by
  funext q
  unfold va_up zY
  by_cases h : q = o
  · subst h; simp
  · simp [h]
theorem V_zY_put_size (hC : CX E g cc Ts own rm) (hN : o + 2 ≤ N) {index : Nat} {z : Int32} (hd : decode cc pc = .ok (.putfield index, 3)) (hin : ∀ w ∈ wsX20, w ∈ Ts) (hlk : Cond.fieldLink own index "BeltMarks$History" "size" "I" ∈ Ts) (kk : V E g N ad ce sl (zY g ad f o ss ol z) (pc + 3) lo st) : V E g N ad ce sl (zY g ad f o ss ol sz) pc lo (.int z :: .ref (ad o) :: st) := V_put hC (ty := .int) 2 hd (by omega) zY_0 rfl (by decide) hin hlk tyX2_ok nmX2 rfl rfl rfl rfl (by simp) (V_f zY_u_size kk)
end
def zB0 (g : GE) (ad : Nat → Nat) (f : Nat → va_E) (c : Nat) (s : Nat → Int32) (t : Nat → Int32) (bs : Nat → Option Nat) (bc : Int32) (co : Nat → Int32) (ex : Nat → Int32) (rc : Int32) (pl : Nat → Int32) (pn : Int32) (wy : Nat → Int32) : Nat → va_E := fun q => if q = c then .inr (0, [.ref (ad (c + 1)), .ref (ad (c + 2)), .ref (ad (c + 3)), .int bc, .ref (ad (c + 4)), .ref (ad (c + 5)), .int rc, .ref (ad (c + 6)), .int pn, .ref (ad (c + 7))]) else if q = c + 1 then .inl (g.2.1 0, 8, .inl s) else if q = c + 2 then .inl (g.2.1 0, 14, .inl t) else if q = c + 3 then .inl (g.2.1 4, 8, .inr (.inr (.inr (.inr bs)))) else if q = c + 4 then .inl (g.2.1 0, 32, .inl co) else if q = c + 5 then .inl (g.2.1 0, 32, .inl ex) else if q = c + 6 then .inl (g.2.1 0, 32, .inl pl) else if q = c + 7 then .inl (g.2.1 0, 5, .inl wy) else f q
section
variable {E : EV} {g : GE} {N : Nat} {ad : Nat → Nat} {ce sl : Nat} {f : Nat → va_E} {pc : Nat} {lo : List (Option Value)} {st : List Value} {cc : ByteArray} {Ts : List Cond} {own : String} {rm : Room}
variable {c : Nat} {s : Nat → Int32} {t : Nat → Int32} {bs : Nat → Option Nat} {bc : Int32} {co : Nat → Int32} {ex : Nat → Int32} {rc : Int32} {pl : Nat → Int32} {pn : Int32} {wy : Nat → Int32}
theorem zB0_0 : (zB0 g ad f c s t bs bc co ex rc pl pn wy) c = .inr (0, [.ref (ad (c + 1)), .ref (ad (c + 2)), .ref (ad (c + 3)), .int bc, .ref (ad (c + 4)), .ref (ad (c + 5)), .int rc, .ref (ad (c + 6)), .int pn, .ref (ad (c + 7))]) := by simp [zB0]
theorem zB0_a1 : (zB0 g ad f c s t bs bc co ex rc pl pn wy) (c + 1) = .inl (g.2.1 0, 8, .inl s) := by simp [zB0]
theorem zB0_a2 : (zB0 g ad f c s t bs bc co ex rc pl pn wy) (c + 2) = .inl (g.2.1 0, 14, .inl t) := by simp [zB0]
theorem zB0_a3 : (zB0 g ad f c s t bs bc co ex rc pl pn wy) (c + 3) = .inl (g.2.1 4, 8, .inr (.inr (.inr (.inr bs)))) := by simp [zB0]
theorem zB0_a4 : (zB0 g ad f c s t bs bc co ex rc pl pn wy) (c + 4) = .inl (g.2.1 0, 32, .inl co) := by simp [zB0]
theorem zB0_a5 : (zB0 g ad f c s t bs bc co ex rc pl pn wy) (c + 5) = .inl (g.2.1 0, 32, .inl ex) := by simp [zB0]
theorem zB0_a6 : (zB0 g ad f c s t bs bc co ex rc pl pn wy) (c + 6) = .inl (g.2.1 0, 32, .inl pl) := by simp [zB0]
theorem zB0_a7 : (zB0 g ad f c s t bs bc co ex rc pl pn wy) (c + 7) = .inl (g.2.1 0, 5, .inl wy) := by simp [zB0]
theorem zB0_out {q : Nat} (h : q < c ∨ c + 8 ≤ q) : (zB0 g ad f c s t bs bc co ex rc pl pn wy) q = f q := by
  unfold zB0
  rw [if_neg (by omega), if_neg (by omega), if_neg (by omega), if_neg (by omega), if_neg (by omega), if_neg (by omega), if_neg (by omega), if_neg (by omega)]
theorem V_zB0_settings (hC : CX E g cc Ts own rm) (hN : c + 8 ≤ N) {index : Nat} (hd : decode cc pc = .ok (.getfield index, 3)) (hin : ∀ w ∈ wsX00, w ∈ Ts) (hlk : Cond.fieldLink own index "BeltMarks$Belt" "settings" "[I" ∈ Ts) (kk : V E g N ad ce sl (zB0 g ad f c s t bs bc co ex rc pl pn wy) (pc + 3) lo (.ref (ad (c + 1)) :: st)) : V E g N ad ce sl (zB0 g ad f c s t bs bc co ex rc pl pn wy) pc lo (.ref (ad c) :: st) := V_get hC 0 hd (by omega) zB0_0 rfl (by decide) hin hlk rfl kk
theorem V_zB0_tallies (hC : CX E g cc Ts own rm) (hN : c + 8 ≤ N) {index : Nat} (hd : decode cc pc = .ok (.getfield index, 3)) (hin : ∀ w ∈ wsX00, w ∈ Ts) (hlk : Cond.fieldLink own index "BeltMarks$Belt" "tallies" "[I" ∈ Ts) (kk : V E g N ad ce sl (zB0 g ad f c s t bs bc co ex rc pl pn wy) (pc + 3) lo (.ref (ad (c + 2)) :: st)) : V E g N ad ce sl (zB0 g ad f c s t bs bc co ex rc pl pn wy) pc lo (.ref (ad c) :: st) := V_get hC 1 hd (by omega) zB0_0 rfl (by decide) hin hlk rfl kk
theorem V_zB0_boxes (hC : CX E g cc Ts own rm) (hN : c + 8 ≤ N) {index : Nat} (hd : decode cc pc = .ok (.getfield index, 3)) (hin : ∀ w ∈ wsX00, w ∈ Ts) (hlk : Cond.fieldLink own index "BeltMarks$Belt" "boxes" "[LBeltMarks$Box;" ∈ Ts) (kk : V E g N ad ce sl (zB0 g ad f c s t bs bc co ex rc pl pn wy) (pc + 3) lo (.ref (ad (c + 3)) :: st)) : V E g N ad ce sl (zB0 g ad f c s t bs bc co ex rc pl pn wy) pc lo (.ref (ad c) :: st) := V_get hC 2 hd (by omega) zB0_0 rfl (by decide) hin hlk rfl kk
theorem V_zB0_boxCount (hC : CX E g cc Ts own rm) (hN : c + 8 ≤ N) {index : Nat} (hd : decode cc pc = .ok (.getfield index, 3)) (hin : ∀ w ∈ wsX00, w ∈ Ts) (hlk : Cond.fieldLink own index "BeltMarks$Belt" "boxCount" "I" ∈ Ts) (kk : V E g N ad ce sl (zB0 g ad f c s t bs bc co ex rc pl pn wy) (pc + 3) lo (.int bc :: st)) : V E g N ad ce sl (zB0 g ad f c s t bs bc co ex rc pl pn wy) pc lo (.ref (ad c) :: st) := V_get hC 3 hd (by omega) zB0_0 rfl (by decide) hin hlk rfl kk
theorem zB0_u_boxCount {z : Int32} : va_up (zB0 g ad f c s t bs bc co ex rc pl pn wy) c (.inr (0, [.ref (ad (c + 1)), .ref (ad (c + 2)), .ref (ad (c + 3)), .int z, .ref (ad (c + 4)), .ref (ad (c + 5)), .int rc, .ref (ad (c + 6)), .int pn, .ref (ad (c + 7))])) = zB0 g ad f c s t bs z co ex rc pl pn wy := by
  funext q
  unfold va_up zB0
  by_cases h : q = c
  · subst h; simp
  · simp [h]
theorem V_zB0_put_boxCount (hC : CX E g cc Ts own rm) (hN : c + 8 ≤ N) {index : Nat} {z : Int32} (hd : decode cc pc = .ok (.putfield index, 3)) (hin : ∀ w ∈ wsX00, w ∈ Ts) (hlk : Cond.fieldLink own index "BeltMarks$Belt" "boxCount" "I" ∈ Ts) (kk : V E g N ad ce sl (zB0 g ad f c s t bs z co ex rc pl pn wy) (pc + 3) lo st) : V E g N ad ce sl (zB0 g ad f c s t bs bc co ex rc pl pn wy) pc lo (.int z :: .ref (ad c) :: st) := V_put hC (ty := .int) 3 hd (by omega) zB0_0 rfl (by decide) hin hlk tyX0_ok nmX0 rfl rfl rfl rfl (by simp) (V_f zB0_u_boxCount kk)
theorem V_zB0_comes (hC : CX E g cc Ts own rm) (hN : c + 8 ≤ N) {index : Nat} (hd : decode cc pc = .ok (.getfield index, 3)) (hin : ∀ w ∈ wsX00, w ∈ Ts) (hlk : Cond.fieldLink own index "BeltMarks$Belt" "comes" "[I" ∈ Ts) (kk : V E g N ad ce sl (zB0 g ad f c s t bs bc co ex rc pl pn wy) (pc + 3) lo (.ref (ad (c + 4)) :: st)) : V E g N ad ce sl (zB0 g ad f c s t bs bc co ex rc pl pn wy) pc lo (.ref (ad c) :: st) := V_get hC 4 hd (by omega) zB0_0 rfl (by decide) hin hlk rfl kk
theorem V_zB0_excesses (hC : CX E g cc Ts own rm) (hN : c + 8 ≤ N) {index : Nat} (hd : decode cc pc = .ok (.getfield index, 3)) (hin : ∀ w ∈ wsX00, w ∈ Ts) (hlk : Cond.fieldLink own index "BeltMarks$Belt" "excesses" "[I" ∈ Ts) (kk : V E g N ad ce sl (zB0 g ad f c s t bs bc co ex rc pl pn wy) (pc + 3) lo (.ref (ad (c + 5)) :: st)) : V E g N ad ce sl (zB0 g ad f c s t bs bc co ex rc pl pn wy) pc lo (.ref (ad c) :: st) := V_get hC 5 hd (by omega) zB0_0 rfl (by decide) hin hlk rfl kk
theorem V_zB0_reportCount (hC : CX E g cc Ts own rm) (hN : c + 8 ≤ N) {index : Nat} (hd : decode cc pc = .ok (.getfield index, 3)) (hin : ∀ w ∈ wsX00, w ∈ Ts) (hlk : Cond.fieldLink own index "BeltMarks$Belt" "reportCount" "I" ∈ Ts) (kk : V E g N ad ce sl (zB0 g ad f c s t bs bc co ex rc pl pn wy) (pc + 3) lo (.int rc :: st)) : V E g N ad ce sl (zB0 g ad f c s t bs bc co ex rc pl pn wy) pc lo (.ref (ad c) :: st) := V_get hC 6 hd (by omega) zB0_0 rfl (by decide) hin hlk rfl kk
theorem zB0_u_reportCount {z : Int32} : va_up (zB0 g ad f c s t bs bc co ex rc pl pn wy) c (.inr (0, [.ref (ad (c + 1)), .ref (ad (c + 2)), .ref (ad (c + 3)), .int bc, .ref (ad (c + 4)), .ref (ad (c + 5)), .int z, .ref (ad (c + 6)), .int pn, .ref (ad (c + 7))])) = zB0 g ad f c s t bs bc co ex z pl pn wy := by
  funext q
  unfold va_up zB0
  by_cases h : q = c
  · subst h; simp
  · simp [h]
theorem V_zB0_put_reportCount (hC : CX E g cc Ts own rm) (hN : c + 8 ≤ N) {index : Nat} {z : Int32} (hd : decode cc pc = .ok (.putfield index, 3)) (hin : ∀ w ∈ wsX00, w ∈ Ts) (hlk : Cond.fieldLink own index "BeltMarks$Belt" "reportCount" "I" ∈ Ts) (kk : V E g N ad ce sl (zB0 g ad f c s t bs bc co ex z pl pn wy) (pc + 3) lo st) : V E g N ad ce sl (zB0 g ad f c s t bs bc co ex rc pl pn wy) pc lo (.int z :: .ref (ad c) :: st) := V_put hC (ty := .int) 6 hd (by omega) zB0_0 rfl (by decide) hin hlk tyX0_ok nmX0 rfl rfl rfl rfl (by simp) (V_f zB0_u_reportCount kk)
theorem V_zB0_plans (hC : CX E g cc Ts own rm) (hN : c + 8 ≤ N) {index : Nat} (hd : decode cc pc = .ok (.getfield index, 3)) (hin : ∀ w ∈ wsX00, w ∈ Ts) (hlk : Cond.fieldLink own index "BeltMarks$Belt" "plans" "[I" ∈ Ts) (kk : V E g N ad ce sl (zB0 g ad f c s t bs bc co ex rc pl pn wy) (pc + 3) lo (.ref (ad (c + 6)) :: st)) : V E g N ad ce sl (zB0 g ad f c s t bs bc co ex rc pl pn wy) pc lo (.ref (ad c) :: st) := V_get hC 7 hd (by omega) zB0_0 rfl (by decide) hin hlk rfl kk
theorem V_zB0_planCount (hC : CX E g cc Ts own rm) (hN : c + 8 ≤ N) {index : Nat} (hd : decode cc pc = .ok (.getfield index, 3)) (hin : ∀ w ∈ wsX00, w ∈ Ts) (hlk : Cond.fieldLink own index "BeltMarks$Belt" "planCount" "I" ∈ Ts) (kk : V E g N ad ce sl (zB0 g ad f c s t bs bc co ex rc pl pn wy) (pc + 3) lo (.int pn :: st)) : V E g N ad ce sl (zB0 g ad f c s t bs bc co ex rc pl pn wy) pc lo (.ref (ad c) :: st) := V_get hC 8 hd (by omega) zB0_0 rfl (by decide) hin hlk rfl kk
theorem zB0_u_planCount {z : Int32} : va_up (zB0 g ad f c s t bs bc co ex rc pl pn wy) c (.inr (0, [.ref (ad (c + 1)), .ref (ad (c + 2)), .ref (ad (c + 3)), .int bc, .ref (ad (c + 4)), .ref (ad (c + 5)), .int rc, .ref (ad (c + 6)), .int z, .ref (ad (c + 7))])) = zB0 g ad f c s t bs bc co ex rc pl z wy := by
  funext q
  unfold va_up zB0
  by_cases h : q = c
  · subst h; simp
  · simp [h]
theorem V_zB0_put_planCount (hC : CX E g cc Ts own rm) (hN : c + 8 ≤ N) {index : Nat} {z : Int32} (hd : decode cc pc = .ok (.putfield index, 3)) (hin : ∀ w ∈ wsX00, w ∈ Ts) (hlk : Cond.fieldLink own index "BeltMarks$Belt" "planCount" "I" ∈ Ts) (kk : V E g N ad ce sl (zB0 g ad f c s t bs bc co ex rc pl z wy) (pc + 3) lo st) : V E g N ad ce sl (zB0 g ad f c s t bs bc co ex rc pl pn wy) pc lo (.int z :: .ref (ad c) :: st) := V_put hC (ty := .int) 8 hd (by omega) zB0_0 rfl (by decide) hin hlk tyX0_ok nmX0 rfl rfl rfl rfl (by simp) (V_f zB0_u_planCount kk)
theorem V_zB0_ways (hC : CX E g cc Ts own rm) (hN : c + 8 ≤ N) {index : Nat} (hd : decode cc pc = .ok (.getfield index, 3)) (hin : ∀ w ∈ wsX00, w ∈ Ts) (hlk : Cond.fieldLink own index "BeltMarks$Belt" "ways" "[I" ∈ Ts) (kk : V E g N ad ce sl (zB0 g ad f c s t bs bc co ex rc pl pn wy) (pc + 3) lo (.ref (ad (c + 7)) :: st)) : V E g N ad ce sl (zB0 g ad f c s t bs bc co ex rc pl pn wy) pc lo (.ref (ad c) :: st) := V_get hC 9 hd (by omega) zB0_0 rfl (by decide) hin hlk rfl kk
theorem zB0_u1 {z : Nat → Int32} : va_up (zB0 g ad f c s t bs bc co ex rc pl pn wy) (c + 1) (.inl (g.2.1 0, 8, .inl z)) = zB0 g ad f c z t bs bc co ex rc pl pn wy := by
  funext q
  unfold va_up zB0
  by_cases h : q = c + 1
  · subst h; simp
  · simp [h]
theorem V_zB0_ld1 (hC : CX E g cc Ts own rm) (hN : c + 8 ≤ N) {j : Int32} {k : Nat} (hd : decode cc pc = .ok (.iaload, 1)) (hx : ix j k 8) (kk : V E g N ad ce sl (zB0 g ad f c s t bs bc co ex rc pl pn wy) (pc + 1) lo (.int (s k) :: st)) : V E g N ad ce sl (zB0 g ad f c s t bs bc co ex rc pl pn wy) pc lo (.int j :: .ref (ad (c + 1)) :: st) := V_iald hC hd (by omega) zB0_a1 hx kk
theorem V_zB0_st1 (hC : CX E g cc Ts own rm) (hN : c + 8 ≤ N) {j x : Int32} {k : Nat} (hd : decode cc pc = .ok (.iastore, 1)) (hx : ix j k 8) (kk : V E g N ad ce sl (zB0 g ad f c (upd s k x) t bs bc co ex rc pl pn wy) (pc + 1) lo st) : V E g N ad ce sl (zB0 g ad f c s t bs bc co ex rc pl pn wy) pc lo (.int x :: .int j :: .ref (ad (c + 1)) :: st) := V_iast hC hd (by omega) zB0_a1 hx (V_f zB0_u1 kk)
theorem V_zB0_len1 (hC : CX E g cc Ts own rm) (hN : c + 8 ≤ N) (v : Int32) (hd : decode cc pc = .ok (.arraylength, 1)) (hv : Int32.ofNat 8 = v) (kk : V E g N ad ce sl (zB0 g ad f c s t bs bc co ex rc pl pn wy) (pc + 1) lo (.int v :: st)) : V E g N ad ce sl (zB0 g ad f c s t bs bc co ex rc pl pn wy) pc lo (.ref (ad (c + 1)) :: st) := V_alen (t0 := 0) (ty := .int) hC v hd (by omega) zB0_a1 rfl hv kk
theorem zB0_u2 {z : Nat → Int32} : va_up (zB0 g ad f c s t bs bc co ex rc pl pn wy) (c + 2) (.inl (g.2.1 0, 14, .inl z)) = zB0 g ad f c s z bs bc co ex rc pl pn wy := by
  funext q
  unfold va_up zB0
  by_cases h : q = c + 2
  · subst h; simp
  · simp [h]
theorem V_zB0_ld2 (hC : CX E g cc Ts own rm) (hN : c + 8 ≤ N) {j : Int32} {k : Nat} (hd : decode cc pc = .ok (.iaload, 1)) (hx : ix j k 14) (kk : V E g N ad ce sl (zB0 g ad f c s t bs bc co ex rc pl pn wy) (pc + 1) lo (.int (t k) :: st)) : V E g N ad ce sl (zB0 g ad f c s t bs bc co ex rc pl pn wy) pc lo (.int j :: .ref (ad (c + 2)) :: st) := V_iald hC hd (by omega) zB0_a2 hx kk
theorem V_zB0_st2 (hC : CX E g cc Ts own rm) (hN : c + 8 ≤ N) {j x : Int32} {k : Nat} (hd : decode cc pc = .ok (.iastore, 1)) (hx : ix j k 14) (kk : V E g N ad ce sl (zB0 g ad f c s (upd t k x) bs bc co ex rc pl pn wy) (pc + 1) lo st) : V E g N ad ce sl (zB0 g ad f c s t bs bc co ex rc pl pn wy) pc lo (.int x :: .int j :: .ref (ad (c + 2)) :: st) := V_iast hC hd (by omega) zB0_a2 hx (V_f zB0_u2 kk)
theorem V_zB0_len2 (hC : CX E g cc Ts own rm) (hN : c + 8 ≤ N) (v : Int32) (hd : decode cc pc = .ok (.arraylength, 1)) (hv : Int32.ofNat 14 = v) (kk : V E g N ad ce sl (zB0 g ad f c s t bs bc co ex rc pl pn wy) (pc + 1) lo (.int v :: st)) : V E g N ad ce sl (zB0 g ad f c s t bs bc co ex rc pl pn wy) pc lo (.ref (ad (c + 2)) :: st) := V_alen (t0 := 0) (ty := .int) hC v hd (by omega) zB0_a2 rfl hv kk
theorem zB0_u4 {z : Nat → Int32} : va_up (zB0 g ad f c s t bs bc co ex rc pl pn wy) (c + 4) (.inl (g.2.1 0, 32, .inl z)) = zB0 g ad f c s t bs bc z ex rc pl pn wy := by
  funext q
  unfold va_up zB0
  by_cases h : q = c + 4
  · subst h; simp
  · simp [h]
theorem V_zB0_ld4 (hC : CX E g cc Ts own rm) (hN : c + 8 ≤ N) {j : Int32} {k : Nat} (hd : decode cc pc = .ok (.iaload, 1)) (hx : ix j k 32) (kk : V E g N ad ce sl (zB0 g ad f c s t bs bc co ex rc pl pn wy) (pc + 1) lo (.int (co k) :: st)) : V E g N ad ce sl (zB0 g ad f c s t bs bc co ex rc pl pn wy) pc lo (.int j :: .ref (ad (c + 4)) :: st) := V_iald hC hd (by omega) zB0_a4 hx kk
theorem V_zB0_st4 (hC : CX E g cc Ts own rm) (hN : c + 8 ≤ N) {j x : Int32} {k : Nat} (hd : decode cc pc = .ok (.iastore, 1)) (hx : ix j k 32) (kk : V E g N ad ce sl (zB0 g ad f c s t bs bc (upd co k x) ex rc pl pn wy) (pc + 1) lo st) : V E g N ad ce sl (zB0 g ad f c s t bs bc co ex rc pl pn wy) pc lo (.int x :: .int j :: .ref (ad (c + 4)) :: st) := V_iast hC hd (by omega) zB0_a4 hx (V_f zB0_u4 kk)
theorem V_zB0_len4 (hC : CX E g cc Ts own rm) (hN : c + 8 ≤ N) (v : Int32) (hd : decode cc pc = .ok (.arraylength, 1)) (hv : Int32.ofNat 32 = v) (kk : V E g N ad ce sl (zB0 g ad f c s t bs bc co ex rc pl pn wy) (pc + 1) lo (.int v :: st)) : V E g N ad ce sl (zB0 g ad f c s t bs bc co ex rc pl pn wy) pc lo (.ref (ad (c + 4)) :: st) := V_alen (t0 := 0) (ty := .int) hC v hd (by omega) zB0_a4 rfl hv kk
theorem zB0_u5 {z : Nat → Int32} : va_up (zB0 g ad f c s t bs bc co ex rc pl pn wy) (c + 5) (.inl (g.2.1 0, 32, .inl z)) = zB0 g ad f c s t bs bc co z rc pl pn wy := by
  funext q
  unfold va_up zB0
  by_cases h : q = c + 5
  · subst h; simp
  · simp [h]
theorem V_zB0_ld5 (hC : CX E g cc Ts own rm) (hN : c + 8 ≤ N) {j : Int32} {k : Nat} (hd : decode cc pc = .ok (.iaload, 1)) (hx : ix j k 32) (kk : V E g N ad ce sl (zB0 g ad f c s t bs bc co ex rc pl pn wy) (pc + 1) lo (.int (ex k) :: st)) : V E g N ad ce sl (zB0 g ad f c s t bs bc co ex rc pl pn wy) pc lo (.int j :: .ref (ad (c + 5)) :: st) := V_iald hC hd (by omega) zB0_a5 hx kk
theorem V_zB0_st5 (hC : CX E g cc Ts own rm) (hN : c + 8 ≤ N) {j x : Int32} {k : Nat} (hd : decode cc pc = .ok (.iastore, 1)) (hx : ix j k 32) (kk : V E g N ad ce sl (zB0 g ad f c s t bs bc co (upd ex k x) rc pl pn wy) (pc + 1) lo st) : V E g N ad ce sl (zB0 g ad f c s t bs bc co ex rc pl pn wy) pc lo (.int x :: .int j :: .ref (ad (c + 5)) :: st) := V_iast hC hd (by omega) zB0_a5 hx (V_f zB0_u5 kk)
theorem V_zB0_len5 (hC : CX E g cc Ts own rm) (hN : c + 8 ≤ N) (v : Int32) (hd : decode cc pc = .ok (.arraylength, 1)) (hv : Int32.ofNat 32 = v) (kk : V E g N ad ce sl (zB0 g ad f c s t bs bc co ex rc pl pn wy) (pc + 1) lo (.int v :: st)) : V E g N ad ce sl (zB0 g ad f c s t bs bc co ex rc pl pn wy) pc lo (.ref (ad (c + 5)) :: st) := V_alen (t0 := 0) (ty := .int) hC v hd (by omega) zB0_a5 rfl hv kk
theorem zB0_u6 {z : Nat → Int32} : va_up (zB0 g ad f c s t bs bc co ex rc pl pn wy) (c + 6) (.inl (g.2.1 0, 32, .inl z)) = zB0 g ad f c s t bs bc co ex rc z pn wy := by
  funext q
  unfold va_up zB0
  by_cases h : q = c + 6
  · subst h; simp
  · simp [h]
theorem V_zB0_ld6 (hC : CX E g cc Ts own rm) (hN : c + 8 ≤ N) {j : Int32} {k : Nat} (hd : decode cc pc = .ok (.iaload, 1)) (hx : ix j k 32) (kk : V E g N ad ce sl (zB0 g ad f c s t bs bc co ex rc pl pn wy) (pc + 1) lo (.int (pl k) :: st)) : V E g N ad ce sl (zB0 g ad f c s t bs bc co ex rc pl pn wy) pc lo (.int j :: .ref (ad (c + 6)) :: st) := V_iald hC hd (by omega) zB0_a6 hx kk
theorem V_zB0_st6 (hC : CX E g cc Ts own rm) (hN : c + 8 ≤ N) {j x : Int32} {k : Nat} (hd : decode cc pc = .ok (.iastore, 1)) (hx : ix j k 32) (kk : V E g N ad ce sl (zB0 g ad f c s t bs bc co ex rc (upd pl k x) pn wy) (pc + 1) lo st) : V E g N ad ce sl (zB0 g ad f c s t bs bc co ex rc pl pn wy) pc lo (.int x :: .int j :: .ref (ad (c + 6)) :: st) := V_iast hC hd (by omega) zB0_a6 hx (V_f zB0_u6 kk)
theorem V_zB0_len6 (hC : CX E g cc Ts own rm) (hN : c + 8 ≤ N) (v : Int32) (hd : decode cc pc = .ok (.arraylength, 1)) (hv : Int32.ofNat 32 = v) (kk : V E g N ad ce sl (zB0 g ad f c s t bs bc co ex rc pl pn wy) (pc + 1) lo (.int v :: st)) : V E g N ad ce sl (zB0 g ad f c s t bs bc co ex rc pl pn wy) pc lo (.ref (ad (c + 6)) :: st) := V_alen (t0 := 0) (ty := .int) hC v hd (by omega) zB0_a6 rfl hv kk
theorem zB0_u7 {z : Nat → Int32} : va_up (zB0 g ad f c s t bs bc co ex rc pl pn wy) (c + 7) (.inl (g.2.1 0, 5, .inl z)) = zB0 g ad f c s t bs bc co ex rc pl pn z := by
  funext q
  unfold va_up zB0
  by_cases h : q = c + 7
  · subst h; simp
  · simp [h]
theorem V_zB0_ld7 (hC : CX E g cc Ts own rm) (hN : c + 8 ≤ N) {j : Int32} {k : Nat} (hd : decode cc pc = .ok (.iaload, 1)) (hx : ix j k 5) (kk : V E g N ad ce sl (zB0 g ad f c s t bs bc co ex rc pl pn wy) (pc + 1) lo (.int (wy k) :: st)) : V E g N ad ce sl (zB0 g ad f c s t bs bc co ex rc pl pn wy) pc lo (.int j :: .ref (ad (c + 7)) :: st) := V_iald hC hd (by omega) zB0_a7 hx kk
theorem V_zB0_st7 (hC : CX E g cc Ts own rm) (hN : c + 8 ≤ N) {j x : Int32} {k : Nat} (hd : decode cc pc = .ok (.iastore, 1)) (hx : ix j k 5) (kk : V E g N ad ce sl (zB0 g ad f c s t bs bc co ex rc pl pn (upd wy k x)) (pc + 1) lo st) : V E g N ad ce sl (zB0 g ad f c s t bs bc co ex rc pl pn wy) pc lo (.int x :: .int j :: .ref (ad (c + 7)) :: st) := V_iast hC hd (by omega) zB0_a7 hx (V_f zB0_u7 kk)
theorem V_zB0_len7 (hC : CX E g cc Ts own rm) (hN : c + 8 ≤ N) (v : Int32) (hd : decode cc pc = .ok (.arraylength, 1)) (hv : Int32.ofNat 5 = v) (kk : V E g N ad ce sl (zB0 g ad f c s t bs bc co ex rc pl pn wy) (pc + 1) lo (.int v :: st)) : V E g N ad ce sl (zB0 g ad f c s t bs bc co ex rc pl pn wy) pc lo (.ref (ad (c + 7)) :: st) := V_alen (t0 := 0) (ty := .int) hC v hd (by omega) zB0_a7 rfl hv kk
end
/-! boxes -/
def boxE (y : Nat → Int32) : va_E := .inr (1, [.int (y 0), .int (y 1), .int (y 2), .int (y 3), .int (y 4), .int (y 5), .int (y 6)])
def zX (f : Nat → va_E) (c : Nat) (gx : Nat → Nat → Int32) : Nat → va_E := fun q => if c + 8 ≤ q ∧ q < c + 16 then boxE (gx (q - (c + 8))) else f q
theorem zX_at {f : Nat → va_E} {c j : Nat} {gx : Nat → Nat → Int32} (h : j < 8) : zX f c gx (c + 8 + j) = boxE (gx j) := by
  unfold zX
  rw [if_pos (by omega), Nat.add_sub_cancel_left]
theorem zX_out {f : Nat → va_E} {c q : Nat} {gx : Nat → Nat → Int32} (h : q < c + 8 ∨ c + 16 ≤ q) : zX f c gx q = f q := by
  unfold zX
  rw [if_neg (by omega)]
theorem zX_u {f : Nat → va_E} {c j : Nat} {gx : Nat → Nat → Int32} {y : Nat → Int32} (h : j < 8) : va_up (zX f c gx) (c + 8 + j) (boxE y) = zX f c (va_up gx j y) := by
  funext q
  unfold va_up zX
  by_cases hq : q = c + 8 + j
  · subst hq
    rw [if_pos rfl, if_pos (by omega), Nat.add_sub_cancel_left]
    simp
  · rw [if_neg hq]
    by_cases h2 : c + 8 ≤ q ∧ q < c + 16
    · have h3 : q - (c + 8) ≠ j := by omega
      rw [if_pos h2, if_pos h2]
      simp [h3]
    · rw [if_neg h2, if_neg h2]
/-- a belt: its object and arrays, and its boxes -/
def zB (g : GE) (ad : Nat → Nat) (f : Nat → va_E) (c : Nat) (s t : Nat → Int32) (p : Nat → Nat) (bc : Int32) (co ex : Nat → Int32) (rc : Int32) (pl : Nat → Int32) (pn : Int32) (wy : Nat → Int32) (gx : Nat → Nat → Int32) : Nat → va_E := zB0 g ad (zX f c gx) c s t (fun i => some (ad (c + 8 + p i))) bc co ex rc pl pn wy
theorem zB0_u {g : GE} {ad : Nat → Nat} {f : Nat → va_E} {c q : Nat} {s t : Nat → Int32} {bs : Nat → Option Nat} {bc : Int32} {co ex : Nat → Int32} {rc : Int32} {pl : Nat → Int32} {pn : Int32} {wy : Nat → Int32} {e : va_E} (h : c + 8 ≤ q) : va_up (zB0 g ad f c s t bs bc co ex rc pl pn wy) q e = zB0 g ad (va_up f q e) c s t bs bc co ex rc pl pn wy := by
  funext x
  by_cases hx : x = q
  · subst hx
    rw [zB0_out (by omega)]
    simp [va_up]
  · by_cases h2 : x < c ∨ c + 8 ≤ x
    · rw [zB0_out (by omega)]
      simp only [va_up, hx, if_false]
      rw [zB0_out (by omega)]
    · simp only [va_up, hx, if_false]
      unfold zB0
      simp only [va_up]
      repeat' (first | rfl | (split; rfl) | (split; exfalso; omega))
section
variable {E : EV} {g : GE} {N : Nat} {ad : Nat → Nat} {ce sl : Nat} {f : Nat → va_E} {pc : Nat} {lo : List (Option Value)} {st : List Value} {cc : ByteArray} {Ts : List Cond} {own : String} {rm : Room}
variable {c : Nat} {s t : Nat → Int32} {p : Nat → Nat} {bc : Int32} {co ex : Nat → Int32} {rc : Int32} {pl : Nat → Int32} {pn : Int32} {wy : Nat → Int32} {gx : Nat → Nat → Int32}
theorem zB_box {j : Nat} (h : j < 8) : zB g ad f c s t p bc co ex rc pl pn wy gx (c + 8 + j) = boxE (gx j) := by
  unfold zB
  rw [zB0_out (by omega), zX_at h]
theorem zB_out {q : Nat} (h : q < c ∨ c + 16 ≤ q) : zB g ad f c s t p bc co ex rc pl pn wy gx q = f q := by
  unfold zB
  rw [zB0_out (by omega), zX_out (by omega)]
theorem zB_ubox {j : Nat} {y : Nat → Int32} (h : j < 8) : va_up (zB g ad f c s t p bc co ex rc pl pn wy gx) (c + 8 + j) (boxE y) = zB g ad f c s t p bc co ex rc pl pn wy (va_up gx j y) := by
  unfold zB
  rw [zB0_u (by omega), zX_u h]
/-! a belt's rows -/
theorem V_B_settings (hC : CX E g cc Ts own rm) (hN : c + 16 ≤ N) {index : Nat} (hd : decode cc pc = .ok (.getfield index, 3)) (hin : ∀ w ∈ wsX00, w ∈ Ts) (hlk : Cond.fieldLink own index "BeltMarks$Belt" "settings" "[I" ∈ Ts) (kk : V E g N ad ce sl (zB g ad f c s t p bc co ex rc pl pn wy gx) (pc + 3) lo (.ref (ad (c + 1)) :: st)) : V E g N ad ce sl (zB g ad f c s t p bc co ex rc pl pn wy gx) pc lo (.ref (ad c) :: st) := V_zB0_settings hC (by omega) hd hin hlk kk
theorem V_B_tallies (hC : CX E g cc Ts own rm) (hN : c + 16 ≤ N) {index : Nat} (hd : decode cc pc = .ok (.getfield index, 3)) (hin : ∀ w ∈ wsX00, w ∈ Ts) (hlk : Cond.fieldLink own index "BeltMarks$Belt" "tallies" "[I" ∈ Ts) (kk : V E g N ad ce sl (zB g ad f c s t p bc co ex rc pl pn wy gx) (pc + 3) lo (.ref (ad (c + 2)) :: st)) : V E g N ad ce sl (zB g ad f c s t p bc co ex rc pl pn wy gx) pc lo (.ref (ad c) :: st) := V_zB0_tallies hC (by omega) hd hin hlk kk
theorem V_B_boxes (hC : CX E g cc Ts own rm) (hN : c + 16 ≤ N) {index : Nat} (hd : decode cc pc = .ok (.getfield index, 3)) (hin : ∀ w ∈ wsX00, w ∈ Ts) (hlk : Cond.fieldLink own index "BeltMarks$Belt" "boxes" "[LBeltMarks$Box;" ∈ Ts) (kk : V E g N ad ce sl (zB g ad f c s t p bc co ex rc pl pn wy gx) (pc + 3) lo (.ref (ad (c + 3)) :: st)) : V E g N ad ce sl (zB g ad f c s t p bc co ex rc pl pn wy gx) pc lo (.ref (ad c) :: st) := V_zB0_boxes hC (by omega) hd hin hlk kk
theorem V_B_boxCount (hC : CX E g cc Ts own rm) (hN : c + 16 ≤ N) {index : Nat} (hd : decode cc pc = .ok (.getfield index, 3)) (hin : ∀ w ∈ wsX00, w ∈ Ts) (hlk : Cond.fieldLink own index "BeltMarks$Belt" "boxCount" "I" ∈ Ts) (kk : V E g N ad ce sl (zB g ad f c s t p bc co ex rc pl pn wy gx) (pc + 3) lo (.int bc :: st)) : V E g N ad ce sl (zB g ad f c s t p bc co ex rc pl pn wy gx) pc lo (.ref (ad c) :: st) := V_zB0_boxCount hC (by omega) hd hin hlk kk
theorem V_B_put_boxCount (hC : CX E g cc Ts own rm) (hN : c + 16 ≤ N) {index : Nat} {z : Int32} (hd : decode cc pc = .ok (.putfield index, 3)) (hin : ∀ w ∈ wsX00, w ∈ Ts) (hlk : Cond.fieldLink own index "BeltMarks$Belt" "boxCount" "I" ∈ Ts) (kk : V E g N ad ce sl (zB g ad f c s t p z co ex rc pl pn wy gx) (pc + 3) lo st) : V E g N ad ce sl (zB g ad f c s t p bc co ex rc pl pn wy gx) pc lo (.int z :: .ref (ad c) :: st) := V_zB0_put_boxCount hC (by omega) hd hin hlk kk
theorem V_B_comes (hC : CX E g cc Ts own rm) (hN : c + 16 ≤ N) {index : Nat} (hd : decode cc pc = .ok (.getfield index, 3)) (hin : ∀ w ∈ wsX00, w ∈ Ts) (hlk : Cond.fieldLink own index "BeltMarks$Belt" "comes" "[I" ∈ Ts) (kk : V E g N ad ce sl (zB g ad f c s t p bc co ex rc pl pn wy gx) (pc + 3) lo (.ref (ad (c + 4)) :: st)) : V E g N ad ce sl (zB g ad f c s t p bc co ex rc pl pn wy gx) pc lo (.ref (ad c) :: st) := V_zB0_comes hC (by omega) hd hin hlk kk
theorem V_B_excesses (hC : CX E g cc Ts own rm) (hN : c + 16 ≤ N) {index : Nat} (hd : decode cc pc = .ok (.getfield index, 3)) (hin : ∀ w ∈ wsX00, w ∈ Ts) (hlk : Cond.fieldLink own index "BeltMarks$Belt" "excesses" "[I" ∈ Ts) (kk : V E g N ad ce sl (zB g ad f c s t p bc co ex rc pl pn wy gx) (pc + 3) lo (.ref (ad (c + 5)) :: st)) : V E g N ad ce sl (zB g ad f c s t p bc co ex rc pl pn wy gx) pc lo (.ref (ad c) :: st) := V_zB0_excesses hC (by omega) hd hin hlk kk
theorem V_B_reportCount (hC : CX E g cc Ts own rm) (hN : c + 16 ≤ N) {index : Nat} (hd : decode cc pc = .ok (.getfield index, 3)) (hin : ∀ w ∈ wsX00, w ∈ Ts) (hlk : Cond.fieldLink own index "BeltMarks$Belt" "reportCount" "I" ∈ Ts) (kk : V E g N ad ce sl (zB g ad f c s t p bc co ex rc pl pn wy gx) (pc + 3) lo (.int rc :: st)) : V E g N ad ce sl (zB g ad f c s t p bc co ex rc pl pn wy gx) pc lo (.ref (ad c) :: st) := V_zB0_reportCount hC (by omega) hd hin hlk kk
theorem V_B_put_reportCount (hC : CX E g cc Ts own rm) (hN : c + 16 ≤ N) {index : Nat} {z : Int32} (hd : decode cc pc = .ok (.putfield index, 3)) (hin : ∀ w ∈ wsX00, w ∈ Ts) (hlk : Cond.fieldLink own index "BeltMarks$Belt" "reportCount" "I" ∈ Ts) (kk : V E g N ad ce sl (zB g ad f c s t p bc co ex z pl pn wy gx) (pc + 3) lo st) : V E g N ad ce sl (zB g ad f c s t p bc co ex rc pl pn wy gx) pc lo (.int z :: .ref (ad c) :: st) := V_zB0_put_reportCount hC (by omega) hd hin hlk kk
theorem V_B_plans (hC : CX E g cc Ts own rm) (hN : c + 16 ≤ N) {index : Nat} (hd : decode cc pc = .ok (.getfield index, 3)) (hin : ∀ w ∈ wsX00, w ∈ Ts) (hlk : Cond.fieldLink own index "BeltMarks$Belt" "plans" "[I" ∈ Ts) (kk : V E g N ad ce sl (zB g ad f c s t p bc co ex rc pl pn wy gx) (pc + 3) lo (.ref (ad (c + 6)) :: st)) : V E g N ad ce sl (zB g ad f c s t p bc co ex rc pl pn wy gx) pc lo (.ref (ad c) :: st) := V_zB0_plans hC (by omega) hd hin hlk kk
theorem V_B_planCount (hC : CX E g cc Ts own rm) (hN : c + 16 ≤ N) {index : Nat} (hd : decode cc pc = .ok (.getfield index, 3)) (hin : ∀ w ∈ wsX00, w ∈ Ts) (hlk : Cond.fieldLink own index "BeltMarks$Belt" "planCount" "I" ∈ Ts) (kk : V E g N ad ce sl (zB g ad f c s t p bc co ex rc pl pn wy gx) (pc + 3) lo (.int pn :: st)) : V E g N ad ce sl (zB g ad f c s t p bc co ex rc pl pn wy gx) pc lo (.ref (ad c) :: st) := V_zB0_planCount hC (by omega) hd hin hlk kk
theorem V_B_put_planCount (hC : CX E g cc Ts own rm) (hN : c + 16 ≤ N) {index : Nat} {z : Int32} (hd : decode cc pc = .ok (.putfield index, 3)) (hin : ∀ w ∈ wsX00, w ∈ Ts) (hlk : Cond.fieldLink own index "BeltMarks$Belt" "planCount" "I" ∈ Ts) (kk : V E g N ad ce sl (zB g ad f c s t p bc co ex rc pl z wy gx) (pc + 3) lo st) : V E g N ad ce sl (zB g ad f c s t p bc co ex rc pl pn wy gx) pc lo (.int z :: .ref (ad c) :: st) := V_zB0_put_planCount hC (by omega) hd hin hlk kk
theorem V_B_ways (hC : CX E g cc Ts own rm) (hN : c + 16 ≤ N) {index : Nat} (hd : decode cc pc = .ok (.getfield index, 3)) (hin : ∀ w ∈ wsX00, w ∈ Ts) (hlk : Cond.fieldLink own index "BeltMarks$Belt" "ways" "[I" ∈ Ts) (kk : V E g N ad ce sl (zB g ad f c s t p bc co ex rc pl pn wy gx) (pc + 3) lo (.ref (ad (c + 7)) :: st)) : V E g N ad ce sl (zB g ad f c s t p bc co ex rc pl pn wy gx) pc lo (.ref (ad c) :: st) := V_zB0_ways hC (by omega) hd hin hlk kk
theorem V_B_ld1 (hC : CX E g cc Ts own rm) (hN : c + 16 ≤ N) {j : Int32} {k : Nat} (hd : decode cc pc = .ok (.iaload, 1)) (hx : ix j k 8) (kk : V E g N ad ce sl (zB g ad f c s t p bc co ex rc pl pn wy gx) (pc + 1) lo (.int (s k) :: st)) : V E g N ad ce sl (zB g ad f c s t p bc co ex rc pl pn wy gx) pc lo (.int j :: .ref (ad (c + 1)) :: st) := V_zB0_ld1 hC (by omega) hd hx kk
theorem V_B_st1 (hC : CX E g cc Ts own rm) (hN : c + 16 ≤ N) {j x : Int32} {k : Nat} (hd : decode cc pc = .ok (.iastore, 1)) (hx : ix j k 8) (kk : V E g N ad ce sl (zB g ad f c (upd s k x) t p bc co ex rc pl pn wy gx) (pc + 1) lo st) : V E g N ad ce sl (zB g ad f c s t p bc co ex rc pl pn wy gx) pc lo (.int x :: .int j :: .ref (ad (c + 1)) :: st) := V_zB0_st1 hC (by omega) hd hx kk
theorem V_B_len1 (hC : CX E g cc Ts own rm) (hN : c + 16 ≤ N) (v : Int32) (hd : decode cc pc = .ok (.arraylength, 1)) (hv : Int32.ofNat 8 = v) (kk : V E g N ad ce sl (zB g ad f c s t p bc co ex rc pl pn wy gx) (pc + 1) lo (.int v :: st)) : V E g N ad ce sl (zB g ad f c s t p bc co ex rc pl pn wy gx) pc lo (.ref (ad (c + 1)) :: st) := V_zB0_len1 hC (by omega) v hd hv kk
theorem V_B_ld2 (hC : CX E g cc Ts own rm) (hN : c + 16 ≤ N) {j : Int32} {k : Nat} (hd : decode cc pc = .ok (.iaload, 1)) (hx : ix j k 14) (kk : V E g N ad ce sl (zB g ad f c s t p bc co ex rc pl pn wy gx) (pc + 1) lo (.int (t k) :: st)) : V E g N ad ce sl (zB g ad f c s t p bc co ex rc pl pn wy gx) pc lo (.int j :: .ref (ad (c + 2)) :: st) := V_zB0_ld2 hC (by omega) hd hx kk
theorem V_B_st2 (hC : CX E g cc Ts own rm) (hN : c + 16 ≤ N) {j x : Int32} {k : Nat} (hd : decode cc pc = .ok (.iastore, 1)) (hx : ix j k 14) (kk : V E g N ad ce sl (zB g ad f c s (upd t k x) p bc co ex rc pl pn wy gx) (pc + 1) lo st) : V E g N ad ce sl (zB g ad f c s t p bc co ex rc pl pn wy gx) pc lo (.int x :: .int j :: .ref (ad (c + 2)) :: st) := V_zB0_st2 hC (by omega) hd hx kk
theorem V_B_len2 (hC : CX E g cc Ts own rm) (hN : c + 16 ≤ N) (v : Int32) (hd : decode cc pc = .ok (.arraylength, 1)) (hv : Int32.ofNat 14 = v) (kk : V E g N ad ce sl (zB g ad f c s t p bc co ex rc pl pn wy gx) (pc + 1) lo (.int v :: st)) : V E g N ad ce sl (zB g ad f c s t p bc co ex rc pl pn wy gx) pc lo (.ref (ad (c + 2)) :: st) := V_zB0_len2 hC (by omega) v hd hv kk
theorem V_B_ld4 (hC : CX E g cc Ts own rm) (hN : c + 16 ≤ N) {j : Int32} {k : Nat} (hd : decode cc pc = .ok (.iaload, 1)) (hx : ix j k 32) (kk : V E g N ad ce sl (zB g ad f c s t p bc co ex rc pl pn wy gx) (pc + 1) lo (.int (co k) :: st)) : V E g N ad ce sl (zB g ad f c s t p bc co ex rc pl pn wy gx) pc lo (.int j :: .ref (ad (c + 4)) :: st) := V_zB0_ld4 hC (by omega) hd hx kk
theorem V_B_st4 (hC : CX E g cc Ts own rm) (hN : c + 16 ≤ N) {j x : Int32} {k : Nat} (hd : decode cc pc = .ok (.iastore, 1)) (hx : ix j k 32) (kk : V E g N ad ce sl (zB g ad f c s t p bc (upd co k x) ex rc pl pn wy gx) (pc + 1) lo st) : V E g N ad ce sl (zB g ad f c s t p bc co ex rc pl pn wy gx) pc lo (.int x :: .int j :: .ref (ad (c + 4)) :: st) := V_zB0_st4 hC (by omega) hd hx kk
theorem V_B_len4 (hC : CX E g cc Ts own rm) (hN : c + 16 ≤ N) (v : Int32) (hd : decode cc pc = .ok (.arraylength, 1)) (hv : Int32.ofNat 32 = v) (kk : V E g N ad ce sl (zB g ad f c s t p bc co ex rc pl pn wy gx) (pc + 1) lo (.int v :: st)) : V E g N ad ce sl (zB g ad f c s t p bc co ex rc pl pn wy gx) pc lo (.ref (ad (c + 4)) :: st) := V_zB0_len4 hC (by omega) v hd hv kk
theorem V_B_ld5 (hC : CX E g cc Ts own rm) (hN : c + 16 ≤ N) {j : Int32} {k : Nat} (hd : decode cc pc = .ok (.iaload, 1)) (hx : ix j k 32) (kk : V E g N ad ce sl (zB g ad f c s t p bc co ex rc pl pn wy gx) (pc + 1) lo (.int (ex k) :: st)) : V E g N ad ce sl (zB g ad f c s t p bc co ex rc pl pn wy gx) pc lo (.int j :: .ref (ad (c + 5)) :: st) := V_zB0_ld5 hC (by omega) hd hx kk
theorem V_B_st5 (hC : CX E g cc Ts own rm) (hN : c + 16 ≤ N) {j x : Int32} {k : Nat} (hd : decode cc pc = .ok (.iastore, 1)) (hx : ix j k 32) (kk : V E g N ad ce sl (zB g ad f c s t p bc co (upd ex k x) rc pl pn wy gx) (pc + 1) lo st) : V E g N ad ce sl (zB g ad f c s t p bc co ex rc pl pn wy gx) pc lo (.int x :: .int j :: .ref (ad (c + 5)) :: st) := V_zB0_st5 hC (by omega) hd hx kk
theorem V_B_len5 (hC : CX E g cc Ts own rm) (hN : c + 16 ≤ N) (v : Int32) (hd : decode cc pc = .ok (.arraylength, 1)) (hv : Int32.ofNat 32 = v) (kk : V E g N ad ce sl (zB g ad f c s t p bc co ex rc pl pn wy gx) (pc + 1) lo (.int v :: st)) : V E g N ad ce sl (zB g ad f c s t p bc co ex rc pl pn wy gx) pc lo (.ref (ad (c + 5)) :: st) := V_zB0_len5 hC (by omega) v hd hv kk
theorem V_B_ld6 (hC : CX E g cc Ts own rm) (hN : c + 16 ≤ N) {j : Int32} {k : Nat} (hd : decode cc pc = .ok (.iaload, 1)) (hx : ix j k 32) (kk : V E g N ad ce sl (zB g ad f c s t p bc co ex rc pl pn wy gx) (pc + 1) lo (.int (pl k) :: st)) : V E g N ad ce sl (zB g ad f c s t p bc co ex rc pl pn wy gx) pc lo (.int j :: .ref (ad (c + 6)) :: st) := V_zB0_ld6 hC (by omega) hd hx kk
theorem V_B_st6 (hC : CX E g cc Ts own rm) (hN : c + 16 ≤ N) {j x : Int32} {k : Nat} (hd : decode cc pc = .ok (.iastore, 1)) (hx : ix j k 32) (kk : V E g N ad ce sl (zB g ad f c s t p bc co ex rc (upd pl k x) pn wy gx) (pc + 1) lo st) : V E g N ad ce sl (zB g ad f c s t p bc co ex rc pl pn wy gx) pc lo (.int x :: .int j :: .ref (ad (c + 6)) :: st) := V_zB0_st6 hC (by omega) hd hx kk
theorem V_B_len6 (hC : CX E g cc Ts own rm) (hN : c + 16 ≤ N) (v : Int32) (hd : decode cc pc = .ok (.arraylength, 1)) (hv : Int32.ofNat 32 = v) (kk : V E g N ad ce sl (zB g ad f c s t p bc co ex rc pl pn wy gx) (pc + 1) lo (.int v :: st)) : V E g N ad ce sl (zB g ad f c s t p bc co ex rc pl pn wy gx) pc lo (.ref (ad (c + 6)) :: st) := V_zB0_len6 hC (by omega) v hd hv kk
theorem V_B_ld7 (hC : CX E g cc Ts own rm) (hN : c + 16 ≤ N) {j : Int32} {k : Nat} (hd : decode cc pc = .ok (.iaload, 1)) (hx : ix j k 5) (kk : V E g N ad ce sl (zB g ad f c s t p bc co ex rc pl pn wy gx) (pc + 1) lo (.int (wy k) :: st)) : V E g N ad ce sl (zB g ad f c s t p bc co ex rc pl pn wy gx) pc lo (.int j :: .ref (ad (c + 7)) :: st) := V_zB0_ld7 hC (by omega) hd hx kk
theorem V_B_st7 (hC : CX E g cc Ts own rm) (hN : c + 16 ≤ N) {j x : Int32} {k : Nat} (hd : decode cc pc = .ok (.iastore, 1)) (hx : ix j k 5) (kk : V E g N ad ce sl (zB g ad f c s t p bc co ex rc pl pn (upd wy k x) gx) (pc + 1) lo st) : V E g N ad ce sl (zB g ad f c s t p bc co ex rc pl pn wy gx) pc lo (.int x :: .int j :: .ref (ad (c + 7)) :: st) := V_zB0_st7 hC (by omega) hd hx kk
theorem V_B_len7 (hC : CX E g cc Ts own rm) (hN : c + 16 ≤ N) (v : Int32) (hd : decode cc pc = .ok (.arraylength, 1)) (hv : Int32.ofNat 5 = v) (kk : V E g N ad ce sl (zB g ad f c s t p bc co ex rc pl pn wy gx) (pc + 1) lo (.int v :: st)) : V E g N ad ce sl (zB g ad f c s t p bc co ex rc pl pn wy gx) pc lo (.ref (ad (c + 7)) :: st) := V_zB0_len7 hC (by omega) v hd hv kk
theorem V_B_ld3 (hC : CX E g cc Ts own rm) (hN : c + 16 ≤ N) {j : Int32} {k : Nat} (hd : decode cc pc = .ok (.aaload, 1)) (hx : ix j k 8) (kk : V E g N ad ce sl (zB g ad f c s t p bc co ex rc pl pn wy gx) (pc + 1) lo (.ref (ad (c + 8 + p k)) :: st)) : V E g N ad ce sl (zB g ad f c s t p bc co ex rc pl pn wy gx) pc lo (.int j :: .ref (ad (c + 3)) :: st) := V_aald (t0 := 4) hC hd (by omega) zB0_a3 rfl hx rfl kk
theorem V_B_st3 (hC : CX E g cc Ts own rm) (hN : c + 16 ≤ N) {j : Int32} {k q : Nat} (hd : decode cc pc = .ok (.aastore, 1)) (hx : ix j k 8) (hq : q < 8) (kk : V E g N ad ce sl (zB g ad f c s t (va_up p k q) bc co ex rc pl pn wy gx) (pc + 1) lo st) : V E g N ad ce sl (zB g ad f c s t p bc co ex rc pl pn wy gx) pc lo (.ref (ad (c + 8 + q)) :: .int j :: .ref (ad (c + 3)) :: st) := by
  refine V_aast (t0 := 4) (r := (RX1, TX1, 7)) hC hd (by omega) zB0_a3 rfl (by omega) (zB_box hq) rfl hx (V_f ?_ kk)
  have e : (va_up (fun i => some (ad (c + 8 + p i))) k (some (ad (c + 8 + q)))) = (fun i => some (ad (c + 8 + (va_up p k q) i))) := by
    funext i
    simp only [va_up]
    split <;> rfl
  unfold zB
  rw [← e]
  funext x
  simp only [va_up, zB0]
  by_cases h3 : x = c + 3
  · subst h3
    simp
  · simp [h3]
theorem V_X_front (hC : CX E g cc Ts own rm) {i : Nat} {y : Nat → Int32} (hi : i < N) (hf : f i = boxE y) {index : Nat} (hd : decode cc pc = .ok (.getfield index, 3)) (hin : ∀ w ∈ wsX10, w ∈ Ts) (hlk : Cond.fieldLink own index "BeltMarks$Box" "front" "I" ∈ Ts) (kk : V E g N ad ce sl f (pc + 3) lo (.int (y 0) :: st)) : V E g N ad ce sl f pc lo (.ref (ad i) :: st) := V_get hC 0 hd hi hf rfl (by decide) hin hlk rfl kk
theorem V_X_put_front (hC : CX E g cc Ts own rm) {i : Nat} {y : Nat → Int32} {z : Int32} (hi : i < N) (hf : f i = boxE y) {index : Nat} (hd : decode cc pc = .ok (.putfield index, 3)) (hin : ∀ w ∈ wsX10, w ∈ Ts) (hlk : Cond.fieldLink own index "BeltMarks$Box" "front" "I" ∈ Ts) (kk : V E g N ad ce sl (va_up f i (boxE (upd y 0 z))) (pc + 3) lo st) : V E g N ad ce sl f pc lo (.int z :: .ref (ad i) :: st) := V_put hC (ty := .int) 0 hd hi hf rfl (by decide) hin hlk tyX1_ok nmX1 rfl rfl rfl rfl (by simp) (V_f rfl kk)
theorem V_X_length (hC : CX E g cc Ts own rm) {i : Nat} {y : Nat → Int32} (hi : i < N) (hf : f i = boxE y) {index : Nat} (hd : decode cc pc = .ok (.getfield index, 3)) (hin : ∀ w ∈ wsX10, w ∈ Ts) (hlk : Cond.fieldLink own index "BeltMarks$Box" "length" "I" ∈ Ts) (kk : V E g N ad ce sl f (pc + 3) lo (.int (y 1) :: st)) : V E g N ad ce sl f pc lo (.ref (ad i) :: st) := V_get hC 1 hd hi hf rfl (by decide) hin hlk rfl kk
theorem V_X_put_length (hC : CX E g cc Ts own rm) {i : Nat} {y : Nat → Int32} {z : Int32} (hi : i < N) (hf : f i = boxE y) {index : Nat} (hd : decode cc pc = .ok (.putfield index, 3)) (hin : ∀ w ∈ wsX10, w ∈ Ts) (hlk : Cond.fieldLink own index "BeltMarks$Box" "length" "I" ∈ Ts) (kk : V E g N ad ce sl (va_up f i (boxE (upd y 1 z))) (pc + 3) lo st) : V E g N ad ce sl f pc lo (.int z :: .ref (ad i) :: st) := V_put hC (ty := .int) 1 hd hi hf rfl (by decide) hin hlk tyX1_ok nmX1 rfl rfl rfl rfl (by simp) (V_f rfl kk)
theorem V_X_seen (hC : CX E g cc Ts own rm) {i : Nat} {y : Nat → Int32} (hi : i < N) (hf : f i = boxE y) {index : Nat} (hd : decode cc pc = .ok (.getfield index, 3)) (hin : ∀ w ∈ wsX10, w ∈ Ts) (hlk : Cond.fieldLink own index "BeltMarks$Box" "seen" "Z" ∈ Ts) (kk : V E g N ad ce sl f (pc + 3) lo (.int (y 2) :: st)) : V E g N ad ce sl f pc lo (.ref (ad i) :: st) := V_get hC 2 hd hi hf rfl (by decide) hin hlk rfl kk
theorem V_X_put_seen (hC : CX E g cc Ts own rm) {i : Nat} {y : Nat → Int32} {z : Int32} (hi : i < N) (hf : f i = boxE y) (hz : z = 0 ∨ z = 1) {index : Nat} (hd : decode cc pc = .ok (.putfield index, 3)) (hin : ∀ w ∈ wsX10, w ∈ Ts) (hlk : Cond.fieldLink own index "BeltMarks$Box" "seen" "Z" ∈ Ts) (kk : V E g N ad ce sl (va_up f i (boxE (upd y 2 z))) (pc + 3) lo st) : V E g N ad ce sl f pc lo (.int z :: .ref (ad i) :: st) := V_put hC (ty := .boolean) 2 hd hi hf rfl (by decide) hin hlk tyX1_ok nmX1 rfl rfl (by rcases hz with h | h <;> subst h <;> rfl) (by rcases hz with h | h <;> subst h <;> rfl) (by simp) (V_f rfl kk)
theorem V_X_marked (hC : CX E g cc Ts own rm) {i : Nat} {y : Nat → Int32} (hi : i < N) (hf : f i = boxE y) {index : Nat} (hd : decode cc pc = .ok (.getfield index, 3)) (hin : ∀ w ∈ wsX10, w ∈ Ts) (hlk : Cond.fieldLink own index "BeltMarks$Box" "marked" "Z" ∈ Ts) (kk : V E g N ad ce sl f (pc + 3) lo (.int (y 3) :: st)) : V E g N ad ce sl f pc lo (.ref (ad i) :: st) := V_get hC 3 hd hi hf rfl (by decide) hin hlk rfl kk
theorem V_X_put_marked (hC : CX E g cc Ts own rm) {i : Nat} {y : Nat → Int32} {z : Int32} (hi : i < N) (hf : f i = boxE y) (hz : z = 0 ∨ z = 1) {index : Nat} (hd : decode cc pc = .ok (.putfield index, 3)) (hin : ∀ w ∈ wsX10, w ∈ Ts) (hlk : Cond.fieldLink own index "BeltMarks$Box" "marked" "Z" ∈ Ts) (kk : V E g N ad ce sl (va_up f i (boxE (upd y 3 z))) (pc + 3) lo st) : V E g N ad ce sl f pc lo (.int z :: .ref (ad i) :: st) := V_put hC (ty := .boolean) 3 hd hi hf rfl (by decide) hin hlk tyX1_ok nmX1 rfl rfl (by rcases hz with h | h <;> subst h <;> rfl) (by rcases hz with h | h <;> subst h <;> rfl) (by simp) (V_f rfl kk)
theorem V_X_mark (hC : CX E g cc Ts own rm) {i : Nat} {y : Nat → Int32} (hi : i < N) (hf : f i = boxE y) {index : Nat} (hd : decode cc pc = .ok (.getfield index, 3)) (hin : ∀ w ∈ wsX10, w ∈ Ts) (hlk : Cond.fieldLink own index "BeltMarks$Box" "mark" "I" ∈ Ts) (kk : V E g N ad ce sl f (pc + 3) lo (.int (y 4) :: st)) : V E g N ad ce sl f pc lo (.ref (ad i) :: st) := V_get hC 4 hd hi hf rfl (by decide) hin hlk rfl kk
theorem V_X_put_mark (hC : CX E g cc Ts own rm) {i : Nat} {y : Nat → Int32} {z : Int32} (hi : i < N) (hf : f i = boxE y) {index : Nat} (hd : decode cc pc = .ok (.putfield index, 3)) (hin : ∀ w ∈ wsX10, w ∈ Ts) (hlk : Cond.fieldLink own index "BeltMarks$Box" "mark" "I" ∈ Ts) (kk : V E g N ad ce sl (va_up f i (boxE (upd y 4 z))) (pc + 3) lo st) : V E g N ad ce sl f pc lo (.int z :: .ref (ad i) :: st) := V_put hC (ty := .int) 4 hd hi hf rfl (by decide) hin hlk tyX1_ok nmX1 rfl rfl rfl rfl (by simp) (V_f rfl kk)
theorem V_X_twice (hC : CX E g cc Ts own rm) {i : Nat} {y : Nat → Int32} (hi : i < N) (hf : f i = boxE y) {index : Nat} (hd : decode cc pc = .ok (.getfield index, 3)) (hin : ∀ w ∈ wsX10, w ∈ Ts) (hlk : Cond.fieldLink own index "BeltMarks$Box" "twice" "Z" ∈ Ts) (kk : V E g N ad ce sl f (pc + 3) lo (.int (y 5) :: st)) : V E g N ad ce sl f pc lo (.ref (ad i) :: st) := V_get hC 5 hd hi hf rfl (by decide) hin hlk rfl kk
theorem V_X_put_twice (hC : CX E g cc Ts own rm) {i : Nat} {y : Nat → Int32} {z : Int32} (hi : i < N) (hf : f i = boxE y) (hz : z = 0 ∨ z = 1) {index : Nat} (hd : decode cc pc = .ok (.putfield index, 3)) (hin : ∀ w ∈ wsX10, w ∈ Ts) (hlk : Cond.fieldLink own index "BeltMarks$Box" "twice" "Z" ∈ Ts) (kk : V E g N ad ce sl (va_up f i (boxE (upd y 5 z))) (pc + 3) lo st) : V E g N ad ce sl f pc lo (.int z :: .ref (ad i) :: st) := V_put hC (ty := .boolean) 5 hd hi hf rfl (by decide) hin hlk tyX1_ok nmX1 rfl rfl (by rcases hz with h | h <;> subst h <;> rfl) (by rcases hz with h | h <;> subst h <;> rfl) (by simp) (V_f rfl kk)
theorem V_X_number (hC : CX E g cc Ts own rm) {i : Nat} {y : Nat → Int32} (hi : i < N) (hf : f i = boxE y) {index : Nat} (hd : decode cc pc = .ok (.getfield index, 3)) (hin : ∀ w ∈ wsX10, w ∈ Ts) (hlk : Cond.fieldLink own index "BeltMarks$Box" "number" "I" ∈ Ts) (kk : V E g N ad ce sl f (pc + 3) lo (.int (y 6) :: st)) : V E g N ad ce sl f pc lo (.ref (ad i) :: st) := V_get hC 6 hd hi hf rfl (by decide) hin hlk rfl kk
theorem V_X_put_number (hC : CX E g cc Ts own rm) {i : Nat} {y : Nat → Int32} {z : Int32} (hi : i < N) (hf : f i = boxE y) {index : Nat} (hd : decode cc pc = .ok (.putfield index, 3)) (hin : ∀ w ∈ wsX10, w ∈ Ts) (hlk : Cond.fieldLink own index "BeltMarks$Box" "number" "I" ∈ Ts) (kk : V E g N ad ce sl (va_up f i (boxE (upd y 6 z))) (pc + 3) lo st) : V E g N ad ce sl f pc lo (.int z :: .ref (ad i) :: st) := V_put hC (ty := .int) 6 hd hi hf rfl (by decide) hin hlk tyX1_ok nmX1 rfl rfl rfl rfl (by simp) (V_f rfl kk)
end
end
section
/-! the belt as a mathematical value: h the numbers (by the reference's places 0 to 26; 9, 19, 20 aren't used), the boxes (front, length, seen, mark or -6, twice, number), the reports (when, excess), the plans -/
abbrev MT : Type := (Nat → Int32) × List (Nat → Int32) × List (Int32 × Int32) × List Int32
def hMove (h : Nat → Int32) : Nat → Int32 := fun i => if i = 22 then h 0 else if 23 ≤ i ∧ i ≤ 26 then h (i - 1) else if i = 21 then h 21 + h 0 else h i
def xMove (v : Int32) (x : Nat → Int32) : Nat → Int32 := upd x 0 (x 0 + v)
def mMove (m : MT) : MT := (hMove m.1, m.2.1.map (xMove (m.1 0)), m.2.2.1, m.2.2.2)
def unseen (x : Nat → Int32) : Bool := decide (x 2 = 0) && decide (20 ≤ x 0)
def xSee (x : Nat → Int32) : Nat → Int32 := if unseen x then upd x 2 1 else x
def mkRep (h : Nat → Int32) (x : Nat → Int32) : Int32 × Int32 := (h 8 + h 1, x 0 - 20)
def mSee (m : MT) : MT := (m.1, m.2.1.map xSee, m.2.2.1 ++ (m.2.1.filter unseen).map (mkRep m.1), m.2.2.2)
def mCount (m : MT) : MT := (m.1, m.2.1, m.2.2.1, m.2.2.2.map (fun p => p - m.1 0))
def gwN (h : Nat → Int32) : Nat → Int32
  | 0 => 0
  | n + 1 => gwN h n + h (22 + n)
def gw (h : Nat → Int32) : Int32 := gwN h (h 2).toNatClampNeg
def isDue (h : Nat → Int32) (r : Int32 × Int32) : Bool := decide (r.1 ≤ h 8)
def mkPlan (h : Nat → Int32) (r : Int32 × Int32) : Int32 := 40 + h 3 - r.2 - gw h
def mTake (m : MT) : MT := (m.1, m.2.1, m.2.2.1.filter (fun r => !isDue m.1 r), m.2.2.2 ++ (m.2.2.1.filter (isDue m.1)).map (mkPlan m.1))
def isUnder (x : Nat → Int32) : Bool := decide (60 ≤ x 0) && decide (x 0 - x 1 < 60)
def xMark (x : Nat → Int32) : Nat → Int32 := if x 3 = -6 then upd x 3 (x 0 - 60) else upd (upd x 4 1) 3 (x 0 - 60)
def bMark : List (Nat → Int32) → List (Nat → Int32)
  | [] => []
  | x :: t => if isUnder x then xMark x :: t else x :: bMark t
def hTaken (h : Nat → Int32) : Nat → Int32 := upd h 18 (h 18 - h 4)
def hMarked (h : Nat → Int32) (x : Nat → Int32) : Nat → Int32 := if x 3 = -6 then upd h 14 (h 14 + 1) else upd (upd h 14 (h 14 + 1)) 16 (h 16 + 1)
def mMark (q : (Nat → Int32) × List (Nat → Int32)) : (Nat → Int32) × List (Nat → Int32) :=
  if q.1 18 < q.1 4 then (upd q.1 17 (q.1 17 + 1), q.2)
  else match q.2.find? isUnder with
    | none => (upd (hTaken q.1) 15 (q.1 15 + 1), q.2)
    | some x => (hMarked (hTaken q.1) x, bMark q.2)
def doOne (q : (Nat → Int32) × List (Nat → Int32)) (p : Int32) : (Nat → Int32) × List (Nat → Int32) := if p ≤ 0 then mMark q else q
def mDo (m : MT) : MT := ((m.2.2.2.foldl doOne (m.1, m.2.1)).1, (m.2.2.2.foldl doOne (m.1, m.2.1)).2, m.2.2.1, m.2.2.2.filter (fun p => !decide (p ≤ 0)))
def hFeed (h : Nat → Int32) : Nat → Int32 := upd h 18 (if h 5 < h 18 + h 6 then h 5 else h 18 + h 6)
def mFeed (m : MT) : MT := (hFeed m.1, m.2)
def fate (h : Nat → Int32) (x : Nat → Int32) : Nat := if x 3 = -6 then 13 else if x 4 = 0 ∧ -(h 7) ≤ x 3 - h 3 ∧ x 3 - h 3 ≤ h 7 then 11 else 12
def isOut (x : Nat → Int32) : Bool := decide (100 ≤ x 0 - x 1)
def outOne (h : Nat → Int32) (x : Nat → Int32) : Nat → Int32 := if isOut x then upd h (fate h x) (h (fate h x) + 1) else h
def mLeave (m : MT) : MT := (m.2.1.foldl outOne m.1, m.2.1.filter (fun x => !isOut x), m.2.2)
def mClock (m : MT) : MT := (upd m.1 8 (m.1 8 + 1), m.2)
def mTick (m : MT) : MT := mClock (mLeave (mFeed (mDo (mTake (mCount (mSee (mMove m)))))))
def mTicks : Nat → MT → MT
  | 0, m => m
  | n + 1, m => mTicks n (mTick m)
def sLeft (h : Nat → Int32) : Int32 := h 11 + h 12 + h 13
/-! the changes: the answer, and the value behind it -/
def lowS (k : Nat) : Int32 := lstA [0, 0, 0, 0, 1, 1, 0, 0] k
def highS (k : Nat) : Int32 := lstA [9, 5, 5, 20, 20, 60, 9, 9] k
def mSet (k v : Int32) (m : MT) : Int32 × MT := if k < 0 ∨ 8 ≤ k then (-2, m) else if v < lowS k.toNatClampNeg ∨ highS k.toNatClampNeg < v then (-2, m) else (m.1 k.toNatClampNeg, (upd m.1 k.toNatClampNeg v, m.2))
def newX (len num : Int32) : Nat → Int32 := fun w => if w = 1 then len else if w = 3 then -6 else if w = 5 then num else 0
def backX (x : Nat → Int32) : Int32 := x 0 - x 1
def badLen (v : Int32) : Prop := v < 4 ∨ 30 < v
def oneU (bs : List (Nat → Int32)) : Prop := (bs.map isUnder).Pairwise (fun p q => p = true → q = false)
def TickOK (m : MT) : Prop := m.2.2.1.length + ((mMove m).2.1.filter unseen).length + m.2.2.2.length ≤ 28 ∧ (∃ G : Nat, G ≤ 5 ∧ m.1 2 = nI G) ∧ oneU (mMove m).2.1
def TicksOK (n : Nat) (m : MT) : Prop := ∀ k, k < n → TickOK (mTicks k m)
end
section
abbrev rmX5_in : Room := { frames := 0, cells := 0, slots := 0, locals := 0 }
def inJ (v a b : Int64) : Prop := a.toInt ≤ v.toInt ∧ v.toInt ≤ b.toInt
set_option maxHeartbeats 4000000 in
set_option maxRecDepth 100000 in
theorem c_X5_in (g : GE) (l : Launch) {N : Nat} {ad : Nat → Nat} {f : Nat → va_E} (v a b : Int64) : Ct g l yX5_in wsX5_in rmX5_in N ad [.long v, .long a, .long b] f (pI N ad (fun x u => (x = 1 ∧ inJ v a b ∧ u = f) ∨ (x = 0 ∧ ¬ inJ v a b ∧ u = f))) 0 0 := by
  refine Ct.of (maxL := 6) rfl (by decide +kernel) [some (.long v), none, some (.long a), none, some (.long b), none] (Nat.le_of_ble_eq_true rfl) (by simp [lvo, lv_args, Value.category]) (fun E hnl _ hC hR => ?_)
  refine V_lload_n hC dX5_in_0 rfl rfl ?_
  refine V_lload_n hC dX5_in_1 rfl rfl ?_
  refine V_lcmp hC dX5_in_2 ?_
  refine V_if_lt hC 17 dX5_in_3 (by decide) (fun c3 => ?_) (fun c3 => ?_)
  · refine V_iconst hC 0 dX5_in_17 (by decide) ?_
    refine V_zret hC hR rfl dX5_in_18 ⟨rfl, rfl, _, rfl, Or.inr ⟨rfl, ?_, rfl⟩⟩
    rw [lg_cmp_lt, Int64.lt_iff_toInt_lt] at c3
    exact fun h => by have := h.1; omega
  · rw [lg_cmp_lt, Int64.lt_iff_toInt_lt] at c3
    refine V_lload_n hC dX5_in_6 rfl rfl ?_
    refine V_lload hC dX5_in_7 rfl ?_
    refine V_lcmp hC dX5_in_9 ?_
    refine V_if_gt hC 17 dX5_in_10 (by decide) (fun c10 => ?_) (fun c10 => ?_)
    · rw [lg_cmp_gt, Int64.lt_iff_toInt_lt] at c10
      refine V_iconst hC 0 dX5_in_17 (by decide) ?_
      refine V_zret hC hR rfl dX5_in_18 ⟨rfl, rfl, _, rfl, Or.inr ⟨rfl, ?_, rfl⟩⟩
      exact fun h => by have := h.2; omega
    · rw [lg_cmp_gt, Int64.lt_iff_toInt_lt] at c10
      refine V_iconst hC 1 dX5_in_13 (by decide) ?_
      refine V_goto hC 18 dX5_in_14 (by decide) ?_
      exact V_zret hC hR rfl dX5_in_18 ⟨rfl, rfl, _, rfl, Or.inl ⟨rfl, ⟨by omega, by omega⟩, rfl⟩⟩
theorem inX5_X5_get : ∀ w ∈ wsX50, w ∈ wsX5_get := by decide +kernel
abbrev rmX5_get : Room := { frames := 0, cells := 0, slots := 0, locals := 0 }
set_option maxHeartbeats 4000000 in
set_option maxRecDepth 100000 in
theorem c_X5_get (g : GE) (l : Launch) {N : Nat} {ad : Nat → Nat} {f : Nat → va_E} {o : Nat} {a kp hs : Nat → Int32} {hl : Int32} {so sv pd : Nat → Int32} {pn sp od wb nb : Int32} (hN : o + 7 ≤ N) {b w : Nat} (hb : b < 8) (hw : w < 6) : Ct g l yX5_get wsX5_get rmX5_get N ad [.ref (ad o), .int (nI b), .int (nI w)] (zM g ad f o a kp hs hl so sv pd pn sp od wb nb) (pI N ad (fun x u => x = a (27 + 6 * b + w) ∧ u = (zM g ad f o a kp hs hl so sv pd pn sp od wb nb))) 0 0 := by
  refine Ct.of (maxL := 3) rfl (by decide +kernel) [some (.ref (ad o)), some (.int (nI b)), some (.int (nI w))] (Nat.le_of_ble_eq_true rfl) (by simp [lvo, lv_args, Value.category]) (fun E hnl _ hC hR => ?_)
  refine V_aload_n hC dX5_get_0 rfl rfl ?_
  refine V_zM_all hC hN dX5_get_1 inX5_X5_get (by decide +kernel) ?_
  refine V_bipush hC 27 dX5_get_4 (by decide) ?_
  refine V_bipush hC 6 dX5_get_6 (by decide) ?_
  refine V_iload_n hC dX5_get_8 rfl rfl ?_
  refine V_imul hC dX5_get_9 ?_
  refine V_iadd hC dX5_get_10 ?_
  refine V_iload_n hC dX5_get_11 rfl rfl ?_
  refine V_iadd hC dX5_get_12 ?_
  refine V_zM_ld1 hC hN dX5_get_13 (ix_of (j := 27 + 6 * b + w) (by rw [show (27 : Int32) = nI 27 from rfl, show (6 : Int32) = nI 6 from rfl, pk_mul, nI_add, nI_add]) (by omega) (by decide)) ?_
  refine V_iret hC hR dX5_get_14 ⟨rfl, rfl, _, rfl, ?_⟩
  exact ⟨rfl, rfl⟩
theorem inX5_X5_put : ∀ w ∈ wsX50, w ∈ wsX5_put := by decide +kernel
abbrev rmX5_put : Room := { frames := 0, cells := 0, slots := 0, locals := 0 }
set_option maxHeartbeats 4000000 in
set_option maxRecDepth 100000 in
theorem c_X5_put (g : GE) (l : Launch) {N : Nat} {ad : Nat → Nat} {f : Nat → va_E} {o : Nat} {a kp hs : Nat → Int32} {hl : Int32} {so sv pd : Nat → Int32} {pn sp od wb nb : Int32} (hN : o + 7 ≤ N) {b w : Nat} {z : Int32} (hb : b < 8) (hw : w < 6) : Ct g l yX5_put wsX5_put rmX5_put N ad [.ref (ad o), .int (nI b), .int (nI w), .int z] (zM g ad f o a kp hs hl so sv pd pn sp od wb nb) (pV N ad (fun u => u = (zM g ad f o (upd a (27 + 6 * b + w) z) kp hs hl so sv pd pn sp od wb nb))) 0 0 := by
  refine Ct.of (maxL := 4) rfl (by decide +kernel) [some (.ref (ad o)), some (.int (nI b)), some (.int (nI w)), some (.int z)] (Nat.le_of_ble_eq_true rfl) (by simp [lvo, lv_args, Value.category]) (fun E hnl _ hC hR => ?_)
  refine V_aload_n hC dX5_put_0 rfl rfl ?_
  refine V_zM_all hC hN dX5_put_1 inX5_X5_put (by decide +kernel) ?_
  refine V_bipush hC 27 dX5_put_4 (by decide) ?_
  refine V_bipush hC 6 dX5_put_6 (by decide) ?_
  refine V_iload_n hC dX5_put_8 rfl rfl ?_
  refine V_imul hC dX5_put_9 ?_
  refine V_iadd hC dX5_put_10 ?_
  refine V_iload_n hC dX5_put_11 rfl rfl ?_
  refine V_iadd hC dX5_put_12 ?_
  refine V_iload_n hC dX5_put_13 rfl rfl ?_
  refine V_zM_st1 hC hN dX5_put_14 (ix_of (j := 27 + 6 * b + w) (by rw [show (27 : Int32) = nI 27 from rfl, show (6 : Int32) = nI 6 from rfl, pk_mul, nI_add, nI_add]) (by omega) (by decide)) ?_
  refine V_vret hC hR dX5_put_15 ⟨rfl, rfl, rfl, ?_⟩
  exact rfl
theorem inX5_X5_back : ∀ w ∈ wsX50, w ∈ wsX5_back := by decide +kernel
abbrev rmX5_back : Room := { frames := 1, cells := 0, slots := 0, locals := 22 }
set_option maxHeartbeats 4000000 in
set_option maxRecDepth 100000 in
theorem c_X5_back (g : GE) (l : Launch) {N : Nat} {ad : Nat → Nat} {f : Nat → va_E} {o : Nat} {a kp hs : Nat → Int32} {hl : Int32} {so sv pd : Nat → Int32} {pn sp od wb nb : Int32} (hN : o + 7 ≤ N) {b : Nat} (hb : b < 8) : Ct g l yX5_back wsX5_back rmX5_back N ad [.ref (ad o), .int (nI b)] (zM g ad f o a kp hs hl so sv pd pn sp od wb nb) (pI N ad (fun x u => x = a (27 + 6 * b + 0) - a (27 + 6 * b + 1) ∧ u = (zM g ad f o a kp hs hl so sv pd pn sp od wb nb))) 0 0 := by
  refine Ct.of (maxL := 2) rfl (by decide +kernel) [some (.ref (ad o)), some (.int (nI b))] (Nat.le_of_ble_eq_true rfl) (by simp [lvo, lv_args, Value.category]) (fun E hnl _ hC hR => ?_)
  refine V_aload_n hC dX5_back_0 rfl rfl ?_
  refine V_iload_n hC dX5_back_1 rfl rfl ?_
  refine V_iconst hC 0 dX5_back_2 (by decide) ?_
  refine V_cvI (n := 2) hC (c_X5_get g (eL E) hN (b := b) (w := 0) hb (by decide)) dX5_back_3 gX5_back_X5_get rfl rfl rfl ⟨rfl, rfl⟩ (by decide +kernel) (by decide +kernel) (by omega) zM_0 rfl (Nat.le_of_ble_eq_true rfl) (by decide) (fun x3 u3 h3 => ?_)
  obtain ⟨rfl, rfl⟩ := h3
  refine V_aload_n hC dX5_back_6 rfl rfl ?_
  refine V_iload_n hC dX5_back_7 rfl rfl ?_
  refine V_iconst hC 1 dX5_back_8 (by decide) ?_
  refine V_cvI (n := 2) hC (c_X5_get g (eL E) hN (b := b) (w := 1) hb (by decide)) dX5_back_9 gX5_back_X5_get rfl rfl rfl ⟨rfl, rfl⟩ (by decide +kernel) (by decide +kernel) (by omega) zM_0 rfl (Nat.le_of_ble_eq_true rfl) (by decide) (fun x9 u9 h9 => ?_)
  obtain ⟨rfl, rfl⟩ := h9
  refine V_isub hC dX5_back_12 ?_
  refine V_iret hC hR dX5_back_13 ⟨rfl, rfl, _, rfl, ?_⟩
  exact ⟨rfl, rfl⟩
end
section
/-! the reference's row as a belt's value -/
theorem cut_l {α : Type} {d r : List α} {x y : α} {j : Nat} (h : j < d.length) : (d ++ x :: r)[j]? = some y ↔ d[j]? = some y := by rw [List.getElem?_append_left h]
theorem cut_m {α : Type} {d r : List α} {x : α} : (d ++ x :: r)[d.length]? = some x := by simp
theorem cut_r {α : Type} {d r : List α} {x y : α} {j : Nat} (h : d.length < j) : (d ++ x :: r)[j]? = some y ↔ r[j - d.length - 1]? = some y := by
  rw [List.getElem?_append_right (by omega), List.getElem?_cons, if_neg (by omega)]
theorem cut_g {α : Type} {d r : List α} {y : α} {j : Nat} (h : d.length ≤ j) : (d ++ r)[j]? = some y ↔ r[j - d.length]? = some y := by rw [List.getElem?_append_right h]
theorem cut_s {α : Type} {d r : List α} {y : α} {j : Nat} (h : j < d.length) : (d ++ r)[j]? = some y ↔ d[j]? = some y := by rw [List.getElem?_append_left h]
def rH (a : Nat → Int32) (h : Nat → Int32) : Prop := ∀ i, i < 27 → i ≠ 9 → i ≠ 19 → i ≠ 20 → a i = h i
def rB (a : Nat → Int32) (bs : List (Nat → Int32)) : Prop := a 9 = nI bs.length ∧ bs.length ≤ 8 ∧ ∀ j x, bs[j]? = some x → ∀ w, w < 6 → a (27 + 6 * j + w) = x w
def rR (a : Nat → Int32) (rs : List (Int32 × Int32)) : Prop := a 19 = nI rs.length ∧ rs.length ≤ 28 ∧ ∀ j r, rs[j]? = some r → a (75 + 2 * j) = r.1 ∧ a (75 + 2 * j + 1) = r.2
def rP (a : Nat → Int32) (ps : List Int32) : Prop := a 20 = nI ps.length ∧ ps.length ≤ 29 ∧ ∀ j p, ps[j]? = some p → a (131 + j) = p
def RepR (a : Nat → Int32) (m : MT) : Prop := rH a m.1 ∧ rB a m.2.1 ∧ rR a m.2.2.1 ∧ rP a m.2.2.2
theorem rH.eq {a b h : Nat → Int32} (q : rH a h) (e : ∀ i, i < 27 → i ≠ 9 → i ≠ 19 → i ≠ 20 → b i = a i) : rH b h := fun i h1 h2 h3 h4 => (e i h1 h2 h3 h4).trans (q i h1 h2 h3 h4)
theorem rB.eq {a b : Nat → Int32} {bs : List (Nat → Int32)} (q : rB a bs) (e9 : b 9 = a 9) (e : ∀ i, 27 ≤ i → i < 75 → b i = a i) : rB b bs := by
  refine ⟨e9.trans q.1, q.2.1, fun j x h w hw => ?_⟩
  have hj := (List.getElem?_eq_some_iff.mp h).1
  have := q.2.1
  rw [e _ (by omega) (by omega)]
  exact q.2.2 j x h w hw
theorem rR.eq {a b : Nat → Int32} {rs : List (Int32 × Int32)} (q : rR a rs) (e9 : b 19 = a 19) (e : ∀ i, 75 ≤ i → i < 131 → b i = a i) : rR b rs := by
  refine ⟨e9.trans q.1, q.2.1, fun j x h => ?_⟩
  have hj := (List.getElem?_eq_some_iff.mp h).1
  have := q.2.1
  rw [e _ (by omega) (by omega), e _ (by omega) (by omega)]
  exact q.2.2 j x h
theorem rP.eq {a b : Nat → Int32} {ps : List Int32} (q : rP a ps) (e9 : b 20 = a 20) (e : ∀ i, 131 ≤ i → i < 160 → b i = a i) : rP b ps := by
  refine ⟨e9.trans q.1, q.2.1, fun j x h => ?_⟩
  have hj := (List.getElem?_eq_some_iff.mp h).1
  have := q.2.1
  rw [e _ (by omega) (by omega)]
  exact q.2.2 j x h
theorem rH.at {a h : Nat → Int32} {k : Nat} {z : Int32} (q : rH a h) : rH (upd a k z) (upd h k z) := by
  intro i h1 h2 h3 h4
  unfold upd
  split
  · rfl
  · exact q i h1 h2 h3 h4
theorem rH.off {a h : Nat → Int32} {k : Nat} {z : Int32} (q : rH a h) (hk : 27 ≤ k ∨ k = 9 ∨ k = 19 ∨ k = 20) : rH (upd a k z) h := q.eq fun i _ _ _ _ => pk_un (by omega)
theorem rB.off {a : Nat → Int32} {bs : List (Nat → Int32)} {k : Nat} {z : Int32} (q : rB a bs) (h9 : k ≠ 9) (hk : k < 27 ∨ 75 ≤ k) : rB (upd a k z) bs := q.eq (pk_un (by omega)) fun i _ _ => pk_un (by omega)
theorem rR.off {a : Nat → Int32} {rs : List (Int32 × Int32)} {k : Nat} {z : Int32} (q : rR a rs) (h9 : k ≠ 19) (hk : k < 75 ∨ 131 ≤ k) : rR (upd a k z) rs := q.eq (pk_un (by omega)) fun i _ _ => pk_un (by omega)
theorem rP.off {a : Nat → Int32} {ps : List Int32} {k : Nat} {z : Int32} (q : rP a ps) (h9 : k ≠ 20) (hk : k < 131 ∨ 160 ≤ k) : rP (upd a k z) ps := q.eq (pk_un (by omega)) fun i _ _ => pk_un (by omega)
theorem rB.lt {a : Nat → Int32} {d r : List (Nat → Int32)} {x : Nat → Int32} (q : rB a (d ++ x :: r)) : d.length < 8 := by
  have := q.2.1
  simp at this
  omega
theorem rB.get {a : Nat → Int32} {d r : List (Nat → Int32)} {x : Nat → Int32} (q : rB a (d ++ x :: r)) {w : Nat} (hw : w < 6) : a (27 + 6 * d.length + w) = x w := q.2.2 _ _ cut_m w hw
theorem rB.set {a : Nat → Int32} {d r : List (Nat → Int32)} {x : Nat → Int32} (q : rB a (d ++ x :: r)) {w : Nat} {z : Int32} (hw : w < 6) : rB (upd a (27 + 6 * d.length + w) z) (d ++ upd x w z :: r) := by
  refine ⟨?_, by have := q.2.1; simpa using this, fun j y hy w' hw' => ?_⟩
  · rw [pk_un (by omega), q.1]
    simp
  · rcases Nat.lt_trichotomy j d.length with h | h | h
    · rw [pk_un (by omega)]
      exact q.2.2 j y ((cut_l h).mpr ((cut_l h).mp hy)) w' hw'
    · subst h
      rw [cut_m] at hy
      cases hy
      by_cases hww : w' = w
      · subst hww
        simp [upd]
      · rw [pk_un (by omega), pk_un hww]
        exact q.get hw'
    · rw [pk_un (by omega)]
      exact q.2.2 j y ((cut_r h).mpr ((cut_r h).mp hy)) w' hw'
theorem rB.end {a : Nat → Int32} {bs : List (Nat → Int32)} (q : rB a bs) : a 9 = nI bs.length := q.1
/-- a row's places moved down -/
def tko (a : Nat → Int32) (lo hi e : Nat) : Nat → Int32 := fun i => if lo ≤ i ∧ i < hi then a (i + e) else a i
theorem tko_out {a : Nat → Int32} {lo hi e i : Nat} (h : i < lo ∨ hi ≤ i) : tko a lo hi e i = a i := by
  unfold tko
  rw [if_neg (by omega)]
theorem tko_in {a : Nat → Int32} {lo hi e i : Nat} (h : lo ≤ i) (h2 : i < hi) : tko a lo hi e i = a (i + e) := by
  unfold tko
  rw [if_pos (by omega)]
theorem tko_0 (a : Nat → Int32) (lo hi e : Nat) (h : hi ≤ lo) : tko a lo hi e = a := by
  funext i
  exact tko_out (by omega)
theorem tko_s {a : Nat → Int32} {lo hi e : Nat} (h : lo ≤ hi) (he : 0 < e) : upd (tko a lo hi e) hi (tko a lo hi e (hi + e)) = tko a lo (hi + 1) e := by
  funext i
  by_cases hi2 : i = hi
  · subst hi2
    rw [pk_us, tko_out (by omega), tko_in (by omega) (by omega)]
  · rw [pk_un hi2]
    by_cases hx : lo ≤ i ∧ i < hi
    · rw [tko_in hx.1 hx.2, tko_in hx.1 (by omega)]
    · rw [tko_out (by omega), tko_out (by omega)]
theorem rB.cut {a : Nat → Int32} {d r : List (Nat → Int32)} {x : Nat → Int32} (q : rB a (d ++ x :: r)) {z : Int32} (hz : z = nI (d ++ r).length) : rB (upd (tko a (27 + 6 * d.length) (27 + 6 * ((d ++ x :: r).length - 1)) 6) 9 z) (d ++ r) := by
  have hl := q.2.1
  simp only [List.length_append, List.length_cons] at hl
  refine ⟨by rw [pk_us, hz], by simp; omega, fun j y hy w hw => ?_⟩
  have hj : j < d.length + r.length := by simpa using (List.getElem?_eq_some_iff.mp hy).1
  rw [pk_un (by omega)]
  by_cases h : j < d.length
  · rw [tko_out (by omega)]
    exact q.2.2 j y ((cut_l h).mpr ((cut_s h).mp hy)) w hw
  · rw [tko_in (by omega) (by simp only [List.length_append, List.length_cons]; omega)]
    have := q.2.2 (j + 1) y ((cut_r (by omega)).mpr (by rw [show j + 1 - d.length - 1 = j - d.length by omega]; exact (cut_g (by omega)).mp hy)) w hw
    rw [← this]
    congr 1
    omega
theorem rR.lt {a : Nat → Int32} {d r : List (Int32 × Int32)} {x : Int32 × Int32} (q : rR a (d ++ x :: r)) : d.length < 28 := by
  have := q.2.1
  simp at this
  omega
theorem rR.get {a : Nat → Int32} {d r : List (Int32 × Int32)} {x : Int32 × Int32} (q : rR a (d ++ x :: r)) : a (75 + 2 * d.length) = x.1 ∧ a (75 + 2 * d.length + 1) = x.2 := q.2.2 _ _ cut_m
theorem rR.cut {a : Nat → Int32} {d r : List (Int32 × Int32)} {x : Int32 × Int32} (q : rR a (d ++ x :: r)) {z : Int32} (hz : z = nI (d ++ r).length) : rR (upd (tko a (75 + 2 * d.length) (75 + 2 * ((d ++ x :: r).length - 1)) 2) 19 z) (d ++ r) := by
  have hl := q.2.1
  simp only [List.length_append, List.length_cons] at hl
  refine ⟨by rw [pk_us, hz], by simp; omega, fun j y hy => ?_⟩
  have hj : j < d.length + r.length := by simpa using (List.getElem?_eq_some_iff.mp hy).1
  rw [pk_un (by omega), pk_un (by omega)]
  by_cases h : j < d.length
  · rw [tko_out (by omega), tko_out (by omega)]
    exact q.2.2 j y ((cut_l h).mpr ((cut_s h).mp hy))
  · rw [tko_in (by omega) (by simp only [List.length_append, List.length_cons]; omega), tko_in (by omega) (by simp only [List.length_append, List.length_cons]; omega)]
    have := q.2.2 (j + 1) y ((cut_r (by omega)).mpr (by rw [show j + 1 - d.length - 1 = j - d.length by omega]; exact (cut_g (by omega)).mp hy))
    rw [show 75 + 2 * j + 2 = 75 + 2 * (j + 1) by omega, show 75 + 2 * j + 1 + 2 = 75 + 2 * (j + 1) + 1 by omega]
    exact this
theorem rR.push {a : Nat → Int32} {rs : List (Int32 × Int32)} (q : rR a rs) (h : rs.length < 28) {v w z : Int32} (hz : z = nI (rs.length + 1)) : rR (upd (upd (upd a (75 + 2 * rs.length) v) (75 + 2 * rs.length + 1) w) 19 z) (rs ++ [(v, w)]) := by
  refine ⟨by rw [pk_us, hz]; simp, by simp; omega, fun j y hy => ?_⟩
  have hj : j < rs.length + 1 := by simpa using (List.getElem?_eq_some_iff.mp hy).1
  rw [pk_un (by omega), pk_un (by omega)]
  by_cases h2 : j < rs.length
  · rw [pk_un (by omega), pk_un (by omega), pk_un (by omega), pk_un (by omega)]
    exact q.2.2 j y ((cut_s h2).mp hy)
  · have : j = rs.length := by omega
    subst this
    rw [cut_m] at hy
    cases hy
    rw [pk_us, pk_un (by omega), pk_us]
    exact ⟨rfl, rfl⟩
theorem rP.lt {a : Nat → Int32} {d r : List Int32} {x : Int32} (q : rP a (d ++ x :: r)) : d.length < 29 := by
  have := q.2.1
  simp at this
  omega
theorem rP.get {a : Nat → Int32} {d r : List Int32} {x : Int32} (q : rP a (d ++ x :: r)) : a (131 + d.length) = x := q.2.2 _ _ cut_m
theorem rP.set {a : Nat → Int32} {d r : List Int32} {x z : Int32} (q : rP a (d ++ x :: r)) : rP (upd a (131 + d.length) z) (d ++ z :: r) := by
  refine ⟨by rw [pk_un (by omega), q.1]; simp, by have := q.2.1; simpa using this, fun j y hy => ?_⟩
  rcases Nat.lt_trichotomy j d.length with h | h | h
  · rw [pk_un (by omega)]
    exact q.2.2 j y ((cut_l h).mpr ((cut_l h).mp hy))
  · subst h
    rw [cut_m] at hy
    cases hy
    exact pk_us
  · rw [pk_un (by omega)]
    exact q.2.2 j y ((cut_r h).mpr ((cut_r h).mp hy))
theorem rP.cut {a : Nat → Int32} {d r : List Int32} {x : Int32} (q : rP a (d ++ x :: r)) {z : Int32} (hz : z = nI (d ++ r).length) : rP (upd (tko a (131 + d.length) (131 + ((d ++ x :: r).length - 1)) 1) 20 z) (d ++ r) := by
  have hl := q.2.1
  simp only [List.length_append, List.length_cons] at hl
  refine ⟨by rw [pk_us, hz], by simp; omega, fun j y hy => ?_⟩
  have hj : j < d.length + r.length := by simpa using (List.getElem?_eq_some_iff.mp hy).1
  rw [pk_un (by omega)]
  by_cases h : j < d.length
  · rw [tko_out (by omega)]
    exact q.2.2 j y ((cut_l h).mpr ((cut_s h).mp hy))
  · rw [tko_in (by omega) (by simp only [List.length_append, List.length_cons]; omega)]
    exact q.2.2 (j + 1) y ((cut_r (by omega)).mpr (by rw [show j + 1 - d.length - 1 = j - d.length by omega]; exact (cut_g (by omega)).mp hy))
theorem rP.push {a : Nat → Int32} {ps : List Int32} (q : rP a ps) (h : ps.length < 29) {v z : Int32} (hz : z = nI (ps.length + 1)) : rP (upd (upd a (131 + ps.length) v) 20 z) (ps ++ [v]) := by
  refine ⟨by rw [pk_us, hz]; simp, by simp; omega, fun j y hy => ?_⟩
  have hj : j < ps.length + 1 := by simpa using (List.getElem?_eq_some_iff.mp hy).1
  rw [pk_un (by omega)]
  by_cases h2 : j < ps.length
  · rw [pk_un (by omega)]
    exact q.2.2 j y ((cut_s h2).mp hy)
  · have : j = ps.length := by omega
    subst this
    rw [cut_m] at hy
    cases hy
    exact pk_us
/-- a row's first places, copied -/
def cpN (a b : Nat → Int32) (n : Nat) : Nat → Int32 := fun i => if i < n then a i else b i
theorem cpN_0 (a b : Nat → Int32) : cpN a b 0 = b := by
  funext i
  simp [cpN]
theorem cpN_s (a b : Nat → Int32) (n : Nat) : upd (cpN a b n) n (a n) = cpN a b (n + 1) := by
  funext i
  by_cases h : i = n
  · subst h
    simp [cpN, upd]
  · simp only [cpN, upd, h, if_false]
    by_cases h2 : i < n
    · simp [h2, Nat.lt_succ_of_lt h2]
    · have : ¬ i < n + 1 := by omega
      simp [h2, this]
theorem RepR.eq {a b : Nat → Int32} {m : MT} (q : RepR a m) (e : ∀ i, i < 160 → b i = a i) : RepR b m := ⟨q.1.eq fun i h _ _ _ => e i (by omega), q.2.1.eq (e _ (by omega)) fun i _ h => e i (by omega), q.2.2.1.eq (e _ (by omega)) fun i _ h => e i (by omega), q.2.2.2.eq (e _ (by omega)) fun i _ h => e i (by omega)⟩
end
section
theorem lp_end {α : Type} {d : List α} {z : Int32} (h : z = nI (d ++ []).length) (hb : (d ++ []).length ≤ 1000) : z ≤ nI d.length := by
  rw [h]
  simp only [List.append_nil] at hb ⊢
  exact nI_le (Nat.le_refl _) (by omega)
theorem lp_go {α : Type} {d r : List α} {x : α} {z : Int32} (h : z = nI (d ++ x :: r).length) (hb : (d ++ x :: r).length ≤ 1000) : ¬ z ≤ nI d.length := by
  rw [h]
  simp only [List.length_append, List.length_cons] at hb ⊢
  exact nI_ge (by omega) (by omega)
theorem len_s {α : Type} {d : List α} {y : α} : nI d.length + Int32.ofInt 1 = nI (d ++ [y]).length := by
  rw [List.length_append]
  exact nI_1 _
theorem xSee_no {x : Nat → Int32} (h : unseen x = false) : xSee x = x := by simp [xSee, h]
theorem xSee_yes {x : Nat → Int32} (h : unseen x = true) : xSee x = upd x 2 1 := by simp [xSee, h]
theorem inX5_X5_keep : ∀ w ∈ wsX50, w ∈ wsX5_keep := by decide +kernel
abbrev rmX5_keep : Room := { frames := 0, cells := 0, slots := 0, locals := 0 }
set_option maxHeartbeats 4000000 in
set_option maxRecDepth 100000 in
theorem c_X5_keep (g : GE) (l : Launch) {N : Nat} {ad : Nat → Nat} {f : Nat → va_E} {o : Nat} {a kp hs : Nat → Int32} {hl : Int32} {so sv pd : Nat → Int32} {pn sp od wb nb : Int32} (hN : o + 7 ≤ N) : Ct g l yX5_keep wsX5_keep rmX5_keep N ad [.ref (ad o)] (zM g ad f o a kp hs hl so sv pd pn sp od wb nb) (pV N ad (fun u => u = (zM g ad f o a (cpN a kp 160) hs hl so sv pd pn sp od wb nb))) 0 0 := by
  refine Ct.of (maxL := 2) rfl (by decide +kernel) [some (.ref (ad o)), none] (Nat.le_of_ble_eq_true rfl) (by simp [lvo, lv_args, Value.category]) (fun E hnl _ hC hR => ?_)
  have loop : ∀ (n k : Nat), k + n = 160 → V E g N ad 0 0 (zM g ad f o a (cpN a kp k) hs hl so sv pd pn sp od wb nb) 2 [some (.ref (ad o)), some (.int (nI k))] [] := by
    intro n
    induction n with
    | zero =>
      intro k hk
      have hk : k = 160 := by omega
      subst hk
      refine V_iload_n hC dX5_keep_2 rfl rfl ?_
      refine V_sipush hC 160 dX5_keep_3 (by decide) ?_
      refine V_icmp_ge_t hC 27 dX5_keep_6 (by decide) (by decide) ?_
      refine V_vret hC hR dX5_keep_27 ⟨rfl, rfl, rfl, ?_⟩
      exact rfl
    | succ n ih =>
      intro k hk
      refine V_iload_n hC dX5_keep_2 rfl rfl ?_
      refine V_sipush hC 160 dX5_keep_3 (by decide) ?_
      refine V_icmp_ge_f (tgt := 27) hC dX5_keep_6 (by decide) (nI_ge (a := k) (b := 160) (by omega) (by decide)) ?_
      refine V_aload_n hC dX5_keep_9 rfl rfl ?_
      refine V_zM_kept hC hN dX5_keep_10 inX5_X5_keep (by decide +kernel) ?_
      refine V_iload_n hC dX5_keep_13 rfl rfl ?_
      refine V_aload_n hC dX5_keep_14 rfl rfl ?_
      refine V_zM_all hC hN dX5_keep_15 inX5_X5_keep (by decide +kernel) ?_
      refine V_iload_n hC dX5_keep_18 rfl rfl ?_
      refine V_zM_ld1 hC hN dX5_keep_19 (ix_nI (j := k) (by omega) (by decide)) ?_
      refine V_zM_st2 hC hN dX5_keep_20 (ix_nI (j := k) (by omega) (by decide)) ?_
      refine V_iinc1 hC (nI (k + 1)) dX5_keep_21 (nI_1 k) (by rw [hnl]; decide) rfl ?_
      refine V_goto hC 2 dX5_keep_24 (by decide) ?_
      refine V_f ?_ (ih (k + 1) (by omega))
      rw [← cpN_s]
  refine V_iconst hC 0 dX5_keep_0 (by decide) ?_
  refine V_istore_n1 hC dX5_keep_1 rfl (by rw [hnl]; decide) rfl ?_
  have := loop 160 0 rfl
  rw [cpN_0] at this
  exact this
theorem inX5_X5_giveBack : ∀ w ∈ wsX50, w ∈ wsX5_giveBack := by decide +kernel
abbrev rmX5_giveBack : Room := { frames := 0, cells := 0, slots := 0, locals := 0 }
set_option maxHeartbeats 4000000 in
set_option maxRecDepth 100000 in
theorem c_X5_giveBack (g : GE) (l : Launch) {N : Nat} {ad : Nat → Nat} {f : Nat → va_E} {o : Nat} {a kp hs : Nat → Int32} {hl : Int32} {so sv pd : Nat → Int32} {pn sp od wb nb : Int32} (hN : o + 7 ≤ N) : Ct g l yX5_giveBack wsX5_giveBack rmX5_giveBack N ad [.ref (ad o)] (zM g ad f o a kp hs hl so sv pd pn sp od wb nb) (pV N ad (fun u => u = (zM g ad f o (cpN kp a 160) kp hs hl so sv pd pn sp od wb nb))) 0 0 := by
  refine Ct.of (maxL := 2) rfl (by decide +kernel) [some (.ref (ad o)), none] (Nat.le_of_ble_eq_true rfl) (by simp [lvo, lv_args, Value.category]) (fun E hnl _ hC hR => ?_)
  have loop : ∀ (n k : Nat), k + n = 160 → V E g N ad 0 0 (zM g ad f o (cpN kp a k) kp hs hl so sv pd pn sp od wb nb) 2 [some (.ref (ad o)), some (.int (nI k))] [] := by
    intro n
    induction n with
    | zero =>
      intro k hk
      have hk : k = 160 := by omega
      subst hk
      refine V_iload_n hC dX5_giveBack_2 rfl rfl ?_
      refine V_sipush hC 160 dX5_giveBack_3 (by decide) ?_
      refine V_icmp_ge_t hC 27 dX5_giveBack_6 (by decide) (by decide) ?_
      refine V_vret hC hR dX5_giveBack_27 ⟨rfl, rfl, rfl, ?_⟩
      exact rfl
    | succ n ih =>
      intro k hk
      refine V_iload_n hC dX5_giveBack_2 rfl rfl ?_
      refine V_sipush hC 160 dX5_giveBack_3 (by decide) ?_
      refine V_icmp_ge_f (tgt := 27) hC dX5_giveBack_6 (by decide) (nI_ge (a := k) (b := 160) (by omega) (by decide)) ?_
      refine V_aload_n hC dX5_giveBack_9 rfl rfl ?_
      refine V_zM_all hC hN dX5_giveBack_10 inX5_X5_giveBack (by decide +kernel) ?_
      refine V_iload_n hC dX5_giveBack_13 rfl rfl ?_
      refine V_aload_n hC dX5_giveBack_14 rfl rfl ?_
      refine V_zM_kept hC hN dX5_giveBack_15 inX5_X5_giveBack (by decide +kernel) ?_
      refine V_iload_n hC dX5_giveBack_18 rfl rfl ?_
      refine V_zM_ld2 hC hN dX5_giveBack_19 (ix_nI (j := k) (by omega) (by decide)) ?_
      refine V_zM_st1 hC hN dX5_giveBack_20 (ix_nI (j := k) (by omega) (by decide)) ?_
      refine V_iinc1 hC (nI (k + 1)) dX5_giveBack_21 (nI_1 k) (by rw [hnl]; decide) rfl ?_
      refine V_goto hC 2 dX5_giveBack_24 (by decide) ?_
      refine V_f ?_ (ih (k + 1) (by omega))
      rw [← cpN_s]
  refine V_iconst hC 0 dX5_giveBack_0 (by decide) ?_
  refine V_istore_n1 hC dX5_giveBack_1 rfl (by rw [hnl]; decide) rfl ?_
  have := loop 160 0 rfl
  rw [cpN_0] at this
  exact this
theorem inX5_X5_takesOut : ∀ w ∈ wsX50, w ∈ wsX5_takesOut := by decide +kernel
abbrev rmX5_takesOut : Room := { frames := 0, cells := 0, slots := 0, locals := 0 }
set_option maxHeartbeats 4000000 in
set_option maxRecDepth 100000 in
theorem c_X5_takesOut (g : GE) (l : Launch) {N : Nat} {ad : Nat → Nat} {f : Nat → va_E} {o : Nat} {a kp hs : Nat → Int32} {hl : Int32} {so sv pd : Nat → Int32} {pn sp od wb nb : Int32} (hN : o + 7 ≤ N) {fr ea mn pl : Nat} (he : 0 < ea) (hpm : ea * pl ≤ ea * (mn - 1)) (hm : 0 < mn) (hlim : fr + ea * (mn - 1) + ea ≤ 160) : Ct g l yX5_takesOut wsX5_takesOut rmX5_takesOut N ad [.ref (ad o), .int (nI fr), .int (nI ea), .int (nI mn), .int (nI pl)] (zM g ad f o a kp hs hl so sv pd pn sp od wb nb) (pV N ad (fun u => u = (zM g ad f o (tko a (fr + ea * pl) (fr + ea * (mn - 1)) ea) kp hs hl so sv pd pn sp od wb nb))) 0 0 := by
  refine Ct.of (maxL := 6) rfl (by decide +kernel) [some (.ref (ad o)), some (.int (nI fr)), some (.int (nI ea)), some (.int (nI mn)), some (.int (nI pl)), none] (Nat.le_of_ble_eq_true rfl) (by simp [lvo, lv_args, Value.category]) (fun E hnl _ hC hR => ?_)
  have e1 : nI ea * (nI mn - 1) = nI (ea * (mn - 1)) := by rw [show (1 : Int32) = nI 1 from rfl, pk_sub (by omega), pk_mul]
  have loop : ∀ (n k : Nat), k + n = ea * (mn - 1) → ea * pl ≤ k → V E g N ad 0 0 (zM g ad f o (tko a (fr + ea * pl) (fr + k) ea) kp hs hl so sv pd pn sp od wb nb) 6 [some (.ref (ad o)), some (.int (nI fr)), some (.int (nI ea)), some (.int (nI mn)), some (.int (nI pl)), some (.int (nI k))] [] := by
    intro n
    induction n with
    | zero =>
      intro k hk hk2
      have hk : k = ea * (mn - 1) := by omega
      subst hk
      refine V_iload hC dX5_takesOut_6 rfl ?_
      refine V_iload_n hC dX5_takesOut_8 rfl rfl ?_
      refine V_iload_n hC dX5_takesOut_9 rfl rfl ?_
      refine V_iconst hC 1 dX5_takesOut_10 (by decide) ?_
      refine V_isub hC dX5_takesOut_11 ?_
      refine V_imul hC dX5_takesOut_12 ?_
      refine V_icmp_ge_t hC 42 dX5_takesOut_13 (by decide) (by rw [e1]; exact nI_le (Nat.le_refl _) (by omega)) ?_
      refine V_vret hC hR dX5_takesOut_42 ⟨rfl, rfl, rfl, ?_⟩
      exact rfl
    | succ n ih =>
      intro k hk hk2
      refine V_iload hC dX5_takesOut_6 rfl ?_
      refine V_iload_n hC dX5_takesOut_8 rfl rfl ?_
      refine V_iload_n hC dX5_takesOut_9 rfl rfl ?_
      refine V_iconst hC 1 dX5_takesOut_10 (by decide) ?_
      refine V_isub hC dX5_takesOut_11 ?_
      refine V_imul hC dX5_takesOut_12 ?_
      refine V_icmp_ge_f (tgt := 42) hC dX5_takesOut_13 (by decide) (by rw [e1]; exact nI_ge (by omega) (by omega)) ?_
      refine V_aload_n hC dX5_takesOut_16 rfl rfl ?_
      refine V_zM_all hC hN dX5_takesOut_17 inX5_X5_takesOut (by decide +kernel) ?_
      refine V_iload_n hC dX5_takesOut_20 rfl rfl ?_
      refine V_iload hC dX5_takesOut_21 rfl ?_
      refine V_iadd hC dX5_takesOut_23 ?_
      refine V_aload_n hC dX5_takesOut_24 rfl rfl ?_
      refine V_zM_all hC hN dX5_takesOut_25 inX5_X5_takesOut (by decide +kernel) ?_
      refine V_iload_n hC dX5_takesOut_28 rfl rfl ?_
      refine V_iload hC dX5_takesOut_29 rfl ?_
      refine V_iadd hC dX5_takesOut_31 ?_
      refine V_iload_n hC dX5_takesOut_32 rfl rfl ?_
      refine V_iadd hC dX5_takesOut_33 ?_
      refine V_zM_ld1 hC hN dX5_takesOut_34 (ix_of (j := fr + k + ea) (by rw [nI_add, nI_add]) (by omega) (by decide)) ?_
      refine V_zM_st1 hC hN dX5_takesOut_35 (ix_of (j := fr + k) (by rw [nI_add]) (by omega) (by decide)) ?_
      refine V_iinc5 hC (nI (k + 1)) dX5_takesOut_36 (nI_1 k) (by rw [hnl]; decide) rfl ?_
      refine V_goto hC 6 dX5_takesOut_39 (by decide) ?_
      refine V_f ?_ (ih (k + 1) (by omega) (by omega))
      rw [tko_s (by omega) (by omega)]
      rfl
  refine V_iload_n hC dX5_takesOut_0 rfl rfl ?_
  refine V_iload hC dX5_takesOut_1 rfl ?_
  refine V_imul hC dX5_takesOut_3 ?_
  refine V_eqt (nI (ea * pl)) (pk_mul ea pl) ?_
  refine V_istore5 hC dX5_takesOut_4 (by rw [hnl]; decide) rfl ?_
  have := loop (ea * (mn - 1) - ea * pl) (ea * pl) (by omega) (Nat.le_refl _)
  rw [tko_0 _ _ _ _ (Nat.le_refl _)] at this
  exact this
theorem inX5_X5_moves : ∀ w ∈ wsX50, w ∈ wsX5_moves := by decide +kernel
abbrev rmX5_moves : Room := { frames := 1, cells := 0, slots := 0, locals := 23 }
set_option maxHeartbeats 4000000 in
set_option maxRecDepth 100000 in
theorem c_X5_moves (g : GE) (l : Launch) {N : Nat} {ad : Nat → Nat} {f : Nat → va_E} {o : Nat} {a kp hs : Nat → Int32} {hl : Int32} {so sv pd : Nat → Int32} {pn sp od wb nb : Int32} (hN : o + 7 ≤ N) {h : Nat → Int32} {bs : List (Nat → Int32)} {rs : List (Int32 × Int32)} {ps : List Int32} (hh : rH a h) (hb : rB a bs) (hr : rR a rs) (hp : rP a ps) : Ct g l yX5_moves wsX5_moves rmX5_moves N ad [.ref (ad o)] (zM g ad f o a kp hs hl so sv pd pn sp od wb nb) (pV N ad (fun u => ∃ a2, u = (zM g ad f o a2 kp hs hl so sv pd pn sp od wb nb) ∧ RepR a2 (mMove (h, bs, rs, ps)))) 0 0 := by
  refine Ct.of (maxL := 2) rfl (by decide +kernel) [some (.ref (ad o)), none] (Nat.le_of_ble_eq_true rfl) (by simp [lvo, lv_args, Value.category]) (fun E hnl _ hC hR => ?_)
  have loop : ∀ (r d : List (Nat → Int32)) (a : Nat → Int32), d ++ r.map (xMove (h 0)) = bs.map (xMove (h 0)) → rH a h → rB a (d ++ r) → rR a rs → rP a ps → V E g N ad 0 0 (zM g ad f o a kp hs hl so sv pd pn sp od wb nb) 2 [some (.ref (ad o)), some (.int (nI d.length))] [] := by
    intro r
    induction r with
    | nil =>
      intro d a ht hh hb hr hp
      refine V_iload_n hC dX5_moves_2 rfl rfl ?_
      refine V_aload_n hC dX5_moves_3 rfl rfl ?_
      refine V_zM_all hC hN dX5_moves_4 inX5_X5_moves (by decide +kernel) ?_
      refine V_bipush hC 9 dX5_moves_7 (by decide) ?_
      refine V_zM_ld1 hC hN (k := 9) dX5_moves_9 (ix_c (by decide)) ?_
      refine V_icmp_ge_t hC 38 dX5_moves_10 (by decide) (lp_end hb.1 (Nat.le_trans hb.2.1 (by decide))) ?_
      refine V_iconst hC 4 dX5_moves_38 (by decide) ?_
      refine V_istore_n1 hC dX5_moves_39 rfl (by rw [hnl]; decide) rfl ?_
      refine V_iload_n hC dX5_moves_40 rfl rfl ?_
      refine V_if_le_f (tgt := 70) hC dX5_moves_41 (by decide) (by decide) ?_
      refine V_aload_n hC dX5_moves_44 rfl rfl ?_
      refine V_zM_all hC hN dX5_moves_45 inX5_X5_moves (by decide +kernel) ?_
      refine V_bipush hC 22 dX5_moves_48 (by decide) ?_
      refine V_iload_n hC dX5_moves_50 rfl rfl ?_
      refine V_iadd hC dX5_moves_51 ?_
      refine V_aload_n hC dX5_moves_52 rfl rfl ?_
      refine V_zM_all hC hN dX5_moves_53 inX5_X5_moves (by decide +kernel) ?_
      refine V_bipush hC 22 dX5_moves_56 (by decide) ?_
      refine V_iload_n hC dX5_moves_58 rfl rfl ?_
      refine V_iadd hC dX5_moves_59 ?_
      refine V_iconst hC 1 dX5_moves_60 (by decide) ?_
      refine V_isub hC dX5_moves_61 ?_
      refine V_zM_ld1 hC hN dX5_moves_62 (show ix _ 25 160 from ix_c (by decide)) ?_
      refine V_zM_st1 hC hN dX5_moves_63 (show ix _ 26 160 from ix_c (by decide)) ?_
      refine V_iinc1 hC 3 dX5_moves_64 (by decide) (by rw [hnl]; decide) rfl ?_
      refine V_goto hC 40 dX5_moves_67 (by decide) ?_
      refine V_iload_n hC dX5_moves_40 rfl rfl ?_
      refine V_if_le_f (tgt := 70) hC dX5_moves_41 (by decide) (by decide) ?_
      refine V_aload_n hC dX5_moves_44 rfl rfl ?_
      refine V_zM_all hC hN dX5_moves_45 inX5_X5_moves (by decide +kernel) ?_
      refine V_bipush hC 22 dX5_moves_48 (by decide) ?_
      refine V_iload_n hC dX5_moves_50 rfl rfl ?_
      refine V_iadd hC dX5_moves_51 ?_
      refine V_aload_n hC dX5_moves_52 rfl rfl ?_
      refine V_zM_all hC hN dX5_moves_53 inX5_X5_moves (by decide +kernel) ?_
      refine V_bipush hC 22 dX5_moves_56 (by decide) ?_
      refine V_iload_n hC dX5_moves_58 rfl rfl ?_
      refine V_iadd hC dX5_moves_59 ?_
      refine V_iconst hC 1 dX5_moves_60 (by decide) ?_
      refine V_isub hC dX5_moves_61 ?_
      refine V_zM_ld1 hC hN dX5_moves_62 (show ix _ 24 160 from ix_c (by decide)) ?_
      refine V_zM_st1 hC hN dX5_moves_63 (show ix _ 25 160 from ix_c (by decide)) ?_
      refine V_iinc1 hC 2 dX5_moves_64 (by decide) (by rw [hnl]; decide) rfl ?_
      refine V_goto hC 40 dX5_moves_67 (by decide) ?_
      refine V_iload_n hC dX5_moves_40 rfl rfl ?_
      refine V_if_le_f (tgt := 70) hC dX5_moves_41 (by decide) (by decide) ?_
      refine V_aload_n hC dX5_moves_44 rfl rfl ?_
      refine V_zM_all hC hN dX5_moves_45 inX5_X5_moves (by decide +kernel) ?_
      refine V_bipush hC 22 dX5_moves_48 (by decide) ?_
      refine V_iload_n hC dX5_moves_50 rfl rfl ?_
      refine V_iadd hC dX5_moves_51 ?_
      refine V_aload_n hC dX5_moves_52 rfl rfl ?_
      refine V_zM_all hC hN dX5_moves_53 inX5_X5_moves (by decide +kernel) ?_
      refine V_bipush hC 22 dX5_moves_56 (by decide) ?_
      refine V_iload_n hC dX5_moves_58 rfl rfl ?_
      refine V_iadd hC dX5_moves_59 ?_
      refine V_iconst hC 1 dX5_moves_60 (by decide) ?_
      refine V_isub hC dX5_moves_61 ?_
      refine V_zM_ld1 hC hN dX5_moves_62 (show ix _ 23 160 from ix_c (by decide)) ?_
      refine V_zM_st1 hC hN dX5_moves_63 (show ix _ 24 160 from ix_c (by decide)) ?_
      refine V_iinc1 hC 1 dX5_moves_64 (by decide) (by rw [hnl]; decide) rfl ?_
      refine V_goto hC 40 dX5_moves_67 (by decide) ?_
      refine V_iload_n hC dX5_moves_40 rfl rfl ?_
      refine V_if_le_f (tgt := 70) hC dX5_moves_41 (by decide) (by decide) ?_
      refine V_aload_n hC dX5_moves_44 rfl rfl ?_
      refine V_zM_all hC hN dX5_moves_45 inX5_X5_moves (by decide +kernel) ?_
      refine V_bipush hC 22 dX5_moves_48 (by decide) ?_
      refine V_iload_n hC dX5_moves_50 rfl rfl ?_
      refine V_iadd hC dX5_moves_51 ?_
      refine V_aload_n hC dX5_moves_52 rfl rfl ?_
      refine V_zM_all hC hN dX5_moves_53 inX5_X5_moves (by decide +kernel) ?_
      refine V_bipush hC 22 dX5_moves_56 (by decide) ?_
      refine V_iload_n hC dX5_moves_58 rfl rfl ?_
      refine V_iadd hC dX5_moves_59 ?_
      refine V_iconst hC 1 dX5_moves_60 (by decide) ?_
      refine V_isub hC dX5_moves_61 ?_
      refine V_zM_ld1 hC hN dX5_moves_62 (show ix _ 22 160 from ix_c (by decide)) ?_
      refine V_zM_st1 hC hN dX5_moves_63 (show ix _ 23 160 from ix_c (by decide)) ?_
      refine V_iinc1 hC 0 dX5_moves_64 (by decide) (by rw [hnl]; decide) rfl ?_
      refine V_goto hC 40 dX5_moves_67 (by decide) ?_
      refine V_iload_n hC dX5_moves_40 rfl rfl ?_
      refine V_if_le_t hC 70 dX5_moves_41 (by decide) (by decide) ?_
      refine V_aload_n hC dX5_moves_70 rfl rfl ?_
      refine V_zM_all hC hN dX5_moves_71 inX5_X5_moves (by decide +kernel) ?_
      refine V_bipush hC 22 dX5_moves_74 (by decide) ?_
      refine V_aload_n hC dX5_moves_76 rfl rfl ?_
      refine V_zM_all hC hN dX5_moves_77 inX5_X5_moves (by decide +kernel) ?_
      refine V_iconst hC 0 dX5_moves_80 (by decide) ?_
      refine V_zM_ld1 hC hN (k := 0) dX5_moves_81 (ix_c (by decide)) ?_
      refine V_zM_st1 (k := 22) hC hN dX5_moves_82 (ix_c (by decide)) ?_
      refine V_aload_n hC dX5_moves_83 rfl rfl ?_
      refine V_zM_all hC hN dX5_moves_84 inX5_X5_moves (by decide +kernel) ?_
      refine V_bipush hC 21 dX5_moves_87 (by decide) ?_
      refine V_dup2 hC dX5_moves_89 rfl rfl ?_
      refine V_zM_ld1 hC hN (k := 21) dX5_moves_90 (ix_c (by decide)) ?_
      refine V_aload_n hC dX5_moves_91 rfl rfl ?_
      refine V_zM_all hC hN dX5_moves_92 inX5_X5_moves (by decide +kernel) ?_
      refine V_iconst hC 0 dX5_moves_95 (by decide) ?_
      refine V_zM_ld1 hC hN (k := 0) dX5_moves_96 (ix_c (by decide)) ?_
      refine V_iadd hC dX5_moves_97 ?_
      refine V_zM_st1 (k := 21) hC hN dX5_moves_98 (ix_c (by decide)) ?_
      refine V_vret hC hR dX5_moves_99 ⟨rfl, rfl, rfl, ?_⟩
      rw [List.append_nil] at hb
      rw [List.map_nil, List.append_nil] at ht
      subst ht
      refine ⟨_, rfl, ?_, ((((((hb).off (by decide) (by decide)).off (by decide) (by decide)).off (by decide) (by decide)).off (by decide) (by decide)).off (by decide) (by decide)).off (by decide) (by decide), ((((((hr).off (by decide) (by decide)).off (by decide) (by decide)).off (by decide) (by decide)).off (by decide) (by decide)).off (by decide) (by decide)).off (by decide) (by decide), ((((((hp).off (by decide) (by decide)).off (by decide) (by decide)).off (by decide) (by decide)).off (by decide) (by decide)).off (by decide) (by decide)).off (by decide) (by decide)⟩
      intro i h1 h2 h3 h4
      have e0 := hh 0 (by decide) (by decide) (by decide) (by decide)
      have e21 := hh 21 (by decide) (by decide) (by decide) (by decide)
      have e22 := hh 22 (by decide) (by decide) (by decide) (by decide)
      have e23 := hh 23 (by decide) (by decide) (by decide) (by decide)
      have e24 := hh 24 (by decide) (by decide) (by decide) (by decide)
      have e25 := hh 25 (by decide) (by decide) (by decide) (by decide)
      rcases (show i = 21 ∨ i = 22 ∨ i = 23 ∨ i = 24 ∨ i = 25 ∨ i = 26 ∨ i < 21 by omega) with rfl | rfl | rfl | rfl | rfl | rfl | hi
      all_goals try simp [upd, mMove, hMove, e0, e21, e22, e23, e24, e25]; done
      have n1 : i ≠ 21 := by omega
      have n2 : i ≠ 22 := by omega
      have n3 : i ≠ 23 := by omega
      have n4 : i ≠ 24 := by omega
      have n5 : i ≠ 25 := by omega
      have n6 : i ≠ 26 := by omega
      have n7 : ¬ 23 ≤ i := by omega
      simp [upd, mMove, hMove, n1, n2, n3, n4, n5, n6, n7]
      exact hh i h1 h2 h3 h4
    | cons x r ih =>
      intro d a ht hh hb hr hp
      have e0 := hh 0 (by decide) (by decide) (by decide) (by decide)
      refine V_iload_n hC dX5_moves_2 rfl rfl ?_
      refine V_aload_n hC dX5_moves_3 rfl rfl ?_
      refine V_zM_all hC hN dX5_moves_4 inX5_X5_moves (by decide +kernel) ?_
      refine V_bipush hC 9 dX5_moves_7 (by decide) ?_
      refine V_zM_ld1 hC hN (k := 9) dX5_moves_9 (ix_c (by decide)) ?_
      refine V_icmp_ge_f (tgt := 38) hC dX5_moves_10 (by decide) (lp_go hb.1 (Nat.le_trans hb.2.1 (by decide))) ?_
      refine V_aload_n hC dX5_moves_13 rfl rfl ?_
      refine V_iload_n hC dX5_moves_14 rfl rfl ?_
      refine V_iconst hC 0 dX5_moves_15 (by decide) ?_
      refine V_aload_n hC dX5_moves_16 rfl rfl ?_
      refine V_iload_n hC dX5_moves_17 rfl rfl ?_
      refine V_iconst hC 0 dX5_moves_18 (by decide) ?_
      refine V_cvI (n := 2) hC (c_X5_get g (eL E) hN (b := d.length) (w := 0) hb.lt (by decide)) dX5_moves_19 gX5_moves_X5_get rfl rfl rfl ⟨rfl, rfl⟩ (by decide +kernel) (by decide +kernel) (by omega) zM_0 rfl (Nat.le_of_ble_eq_true rfl) (by decide) (fun x19 u19 h19 => ?_)
      obtain ⟨rfl, rfl⟩ := h19
      refine V_aload_n hC dX5_moves_22 rfl rfl ?_
      refine V_zM_all hC hN dX5_moves_23 inX5_X5_moves (by decide +kernel) ?_
      refine V_iconst hC 0 dX5_moves_26 (by decide) ?_
      refine V_zM_ld1 hC hN (k := 0) dX5_moves_27 (ix_c (by decide)) ?_
      refine V_iadd hC dX5_moves_28 ?_
      refine V_cvV (n := 3) hC (c_X5_put g (eL E) hN (b := d.length) (w := 0) (z := _) hb.lt (by decide)) dX5_moves_29 gX5_moves_X5_put rfl rfl rfl ⟨rfl, rfl⟩ (by decide +kernel) (by decide +kernel) (by omega) zM_0 rfl (Nat.le_of_ble_eq_true rfl) (by decide) (fun u29 h29 => ?_)
      obtain rfl := h29
      refine V_iinc1 hC (nI (d ++ [xMove (h 0) x]).length) dX5_moves_32 len_s (by rw [hnl]; decide) rfl ?_
      refine V_goto hC 2 dX5_moves_35 (by decide) ?_
      have hlt := hb.lt
      refine ih (d ++ [xMove (h 0) x]) _ (by rw [List.append_assoc]; exact ht) (hh.off (by omega)) ?_ (hr.off (by omega) (by omega)) (hp.off (by omega) (by omega))
      rw [List.append_assoc]
      show rB _ (d ++ xMove (h 0) x :: r)
      rw [hb.get (w := 0) (by decide), e0]
      exact hb.set (by decide)
  refine V_iconst hC 0 dX5_moves_0 (by decide) ?_
  refine V_istore_n1 hC dX5_moves_1 rfl (by rw [hnl]; decide) rfl ?_
  exact loop bs [] a rfl hh hb hr hp
end
section
theorem rH.tko {a h : Nat → Int32} {lo hi e : Nat} (q : rH a h) (hk : 27 ≤ lo ∨ hi ≤ lo) : rH (tko a lo hi e) h := q.eq fun i _ _ _ _ => tko_out (by omega)
theorem rB.tko {a : Nat → Int32} {bs : List (Nat → Int32)} {lo hi e : Nat} (q : rB a bs) (hk : 75 ≤ lo) : rB (tko a lo hi e) bs := q.eq (tko_out (by omega)) fun i _ _ => tko_out (by omega)
theorem rR.tko {a : Nat → Int32} {rs : List (Int32 × Int32)} {lo hi e : Nat} (q : rR a rs) (hk : 20 ≤ lo ∧ hi ≤ 75 ∨ 131 ≤ lo) : rR (tko a lo hi e) rs := q.eq (tko_out (by omega)) fun i _ _ => tko_out (by omega)
theorem rP.tko {a : Nat → Int32} {ps : List Int32} {lo hi e : Nat} (q : rP a ps) (hk : 21 ≤ lo ∧ hi ≤ 131) : rP (tko a lo hi e) ps := q.eq (tko_out (by omega)) fun i _ _ => tko_out (by omega)
theorem i2n (n : Nat) : (75 : Int32) + 2 * nI n = nI (75 + 2 * n) := by rw [show (75 : Int32) = nI 75 from rfl, show (2 : Int32) = nI 2 from rfl, pk_mul, nI_add]
theorem i2n1 (n : Nat) : (75 : Int32) + 2 * nI n + 1 = nI (75 + 2 * n + 1) := by rw [i2n, nI_1]
theorem i131 (n : Nat) : (131 : Int32) + nI n = nI (131 + n) := by rw [show (131 : Int32) = nI 131 from rfl, nI_add]
theorem i22 (n : Nat) : (22 : Int32) + nI n = nI (22 + n) := by rw [show (22 : Int32) = nI 22 from rfl, nI_add]
theorem len_p {α : Type} {d r : List α} {x : α} : nI (d ++ x :: r).length - 1 = nI (d ++ r).length := by
  rw [show (d ++ x :: r).length = (d ++ r).length + 1 by simp; omega]
  exact nI_pred _
theorem inX5_X5_sees : ∀ w ∈ wsX50, w ∈ wsX5_sees := by decide +kernel
abbrev rmX5_sees : Room := { frames := 1, cells := 0, slots := 0, locals := 23 }
set_option maxHeartbeats 4000000 in
set_option maxRecDepth 100000 in
theorem c_X5_sees (g : GE) (l : Launch) {N : Nat} {ad : Nat → Nat} {f : Nat → va_E} {o : Nat} {a kp hs : Nat → Int32} {hl : Int32} {so sv pd : Nat → Int32} {pn sp od wb nb : Int32} (hN : o + 7 ≤ N) {h : Nat → Int32} {bs : List (Nat → Int32)} {rs : List (Int32 × Int32)} {ps : List Int32} (hh : rH a h) (hb : rB a bs) (hr : rR a rs) (hp : rP a ps) (hn : rs.length + (bs.filter unseen).length ≤ 28) : Ct g l yX5_sees wsX5_sees rmX5_sees N ad [.ref (ad o)] (zM g ad f o a kp hs hl so sv pd pn sp od wb nb) (pV N ad (fun u => ∃ a2, u = (zM g ad f o a2 kp hs hl so sv pd pn sp od wb nb) ∧ RepR a2 (mSee (h, bs, rs, ps)))) 0 0 := by
  refine Ct.of (maxL := 2) rfl (by decide +kernel) [some (.ref (ad o)), none] (Nat.le_of_ble_eq_true rfl) (by simp [lvo, lv_args, Value.category]) (fun E hnl _ hC hR => ?_)
  obtain ⟨rs0, hrs0⟩ : ∃ z, z = rs := ⟨_, rfl⟩
  have loop : ∀ (r d : List (Nat → Int32)) (a : Nat → Int32) (rs : List (Int32 × Int32)), d ++ r.map xSee = bs.map xSee → rs ++ (r.filter unseen).map (mkRep h) = rs0 ++ (bs.filter unseen).map (mkRep h) → rs.length + (r.filter unseen).length ≤ 28 → rH a h → rB a (d ++ r) → rR a rs → rP a ps → V E g N ad 0 0 (zM g ad f o a kp hs hl so sv pd pn sp od wb nb) 2 [some (.ref (ad o)), some (.int (nI d.length))] [] := by
    intro r
    induction r with
    | nil =>
      intro d a rs ht hq hn hh hb hr hp
      refine V_iload_n hC dX5_sees_2 rfl rfl ?_
      refine V_aload_n hC dX5_sees_3 rfl rfl ?_
      refine V_zM_all hC hN dX5_sees_4 inX5_X5_sees (by decide +kernel) ?_
      refine V_bipush hC 9 dX5_sees_7 (by decide) ?_
      refine V_zM_ld1 hC hN (k := 9) dX5_sees_9 (ix_c (by decide)) ?_
      refine V_icmp_ge_t hC 116 dX5_sees_10 (by decide) (lp_end hb.1 (Nat.le_trans hb.2.1 (by decide))) ?_
      refine V_vret hC hR dX5_sees_116 ⟨rfl, rfl, rfl, ?_⟩
      rw [List.append_nil] at hb
      rw [List.map_nil, List.append_nil] at ht
      simp only [List.filter_nil, List.map_nil, List.append_nil] at hq
      subst ht
      rw [hrs0] at hq
      exact ⟨_, rfl, hh, hb, (show rs = (mSee (h, bs, _, ps)).2.2.1 from hq) ▸ hr, hp⟩
    | cons x r ih =>
      intro d a rs ht hq hn hh hb hr hp
      have e2 := hb.get (w := 2) (by decide)
      have ef := hb.get (w := 0) (by decide)
      have hlt := hb.lt
      refine V_iload_n hC dX5_sees_2 rfl rfl ?_
      refine V_aload_n hC dX5_sees_3 rfl rfl ?_
      refine V_zM_all hC hN dX5_sees_4 inX5_X5_sees (by decide +kernel) ?_
      refine V_bipush hC 9 dX5_sees_7 (by decide) ?_
      refine V_zM_ld1 hC hN (k := 9) dX5_sees_9 (ix_c (by decide)) ?_
      refine V_icmp_ge_f (tgt := 116) hC dX5_sees_10 (by decide) (lp_go hb.1 (Nat.le_trans hb.2.1 (by decide))) ?_
      refine V_aload_n hC dX5_sees_13 rfl rfl ?_
      refine V_iload_n hC dX5_sees_14 rfl rfl ?_
      refine V_iconst hC 2 dX5_sees_15 (by decide) ?_
      refine V_cvI (n := 2) hC (c_X5_get g (eL E) hN (b := d.length) (w := 2) hlt (by decide)) dX5_sees_16 gX5_sees_X5_get rfl rfl rfl ⟨rfl, rfl⟩ (by decide +kernel) (by decide +kernel) (by omega) zM_0 rfl (Nat.le_of_ble_eq_true rfl) (by decide) (fun x16 u16 h16 => ?_)
      obtain ⟨rfl, rfl⟩ := h16
      refine V_if_ne hC 110 dX5_sees_19 (by decide) (fun c19 => ?_) (fun c19 => ?_)
      · have hu : unseen x = false := by rw [e2] at c19; simp [unseen, c19]
        refine V_iinc1 hC (nI (d ++ [x]).length) dX5_sees_110 len_s (by rw [hnl]; decide) rfl ?_
        refine V_goto hC 2 dX5_sees_113 (by decide) ?_
        simp only [List.map_cons, List.filter_cons, hu, xSee_no hu, Bool.false_eq_true, if_false] at ht hq hn
        exact ih (d ++ [x]) a rs (by rw [List.append_assoc]; exact ht) hq hn hh (by rw [List.append_assoc]; exact hb) hr hp
      · refine V_aload_n hC dX5_sees_22 rfl rfl ?_
        refine V_iload_n hC dX5_sees_23 rfl rfl ?_
        refine V_iconst hC 0 dX5_sees_24 (by decide) ?_
        refine V_cvI (n := 2) hC (c_X5_get g (eL E) hN (b := d.length) (w := 0) hlt (by decide)) dX5_sees_25 gX5_sees_X5_get rfl rfl rfl ⟨rfl, rfl⟩ (by decide +kernel) (by decide +kernel) (by omega) zM_0 rfl (Nat.le_of_ble_eq_true rfl) (by decide) (fun x25 u25 h25 => ?_)
        obtain ⟨rfl, rfl⟩ := h25
        refine V_bipush hC 20 dX5_sees_28 (by decide) ?_
        refine V_icmp_lt hC 110 dX5_sees_30 (by decide) (fun c30 => ?_) (fun c30 => ?_)
        · have hu : unseen x = false := by rw [ef] at c30; simp [unseen]; intro _; exact c30
          refine V_iinc1 hC (nI (d ++ [x]).length) dX5_sees_110 len_s (by rw [hnl]; decide) rfl ?_
          refine V_goto hC 2 dX5_sees_113 (by decide) ?_
          simp only [List.map_cons, List.filter_cons, hu, xSee_no hu, Bool.false_eq_true, if_false] at ht hq hn
          exact ih (d ++ [x]) a rs (by rw [List.append_assoc]; exact ht) hq hn hh (by rw [List.append_assoc]; exact hb) hr hp
        · have hu : unseen x = true := by rw [ef] at c30; rw [e2] at c19; simp [unseen, c19]; exact Int32.not_lt.mp c30
          have hl28 : rs.length < 28 := by simp only [List.filter_cons, hu, if_true, List.length_cons] at hn; omega
          have hn2 : rs.length + 1 + (r.filter unseen).length ≤ 28 := by simp only [List.filter_cons, hu, if_true, List.length_cons] at hn; omega
          refine V_aload_n hC dX5_sees_33 rfl rfl ?_
          refine V_iload_n hC dX5_sees_34 rfl rfl ?_
          refine V_iconst hC 2 dX5_sees_35 (by decide) ?_
          refine V_iconst hC 1 dX5_sees_36 (by decide) ?_
          refine V_cvV (n := 3) hC (c_X5_put g (eL E) hN (b := d.length) (w := 2) (z := 1) hlt (by decide)) dX5_sees_37 gX5_sees_X5_put rfl rfl rfl ⟨rfl, rfl⟩ (by decide +kernel) (by decide +kernel) (by omega) zM_0 rfl (Nat.le_of_ble_eq_true rfl) (by decide) (fun u37 h37 => ?_)
          obtain rfl := h37
          refine V_aload_n hC dX5_sees_40 rfl rfl ?_
          refine V_zM_all hC hN dX5_sees_41 inX5_X5_sees (by decide +kernel) ?_
          refine V_bipush hC 75 dX5_sees_44 (by decide) ?_
          refine V_iconst hC 2 dX5_sees_46 (by decide) ?_
          refine V_aload_n hC dX5_sees_47 rfl rfl ?_
          refine V_zM_all hC hN dX5_sees_48 inX5_X5_sees (by decide +kernel) ?_
          refine V_bipush hC 19 dX5_sees_51 (by decide) ?_
          refine V_zM_ld1 hC hN (k := 19) dX5_sees_53 (ix_c (by decide)) ?_
          refine V_imul hC dX5_sees_54 ?_
          refine V_iadd hC dX5_sees_55 ?_
          refine V_aload_n hC dX5_sees_56 rfl rfl ?_
          refine V_zM_all hC hN dX5_sees_57 inX5_X5_sees (by decide +kernel) ?_
          refine V_bipush hC 8 dX5_sees_60 (by decide) ?_
          refine V_zM_ld1 hC hN (k := 8) dX5_sees_62 (ix_c (by decide)) ?_
          refine V_aload_n hC dX5_sees_63 rfl rfl ?_
          refine V_zM_all hC hN dX5_sees_64 inX5_X5_sees (by decide +kernel) ?_
          refine V_iconst hC 1 dX5_sees_67 (by decide) ?_
          refine V_zM_ld1 hC hN (k := 1) dX5_sees_68 (ix_c (by decide)) ?_
          refine V_iadd hC dX5_sees_69 ?_
          refine V_zM_st1 hC hN dX5_sees_70 (ix_of (j := 75 + 2 * rs.length) (by rw [pk_un (by omega), hr.1]; exact i2n _) (by omega) (by decide)) ?_
          refine V_aload_n hC dX5_sees_71 rfl rfl ?_
          refine V_zM_all hC hN dX5_sees_72 inX5_X5_sees (by decide +kernel) ?_
          refine V_bipush hC 75 dX5_sees_75 (by decide) ?_
          refine V_iconst hC 2 dX5_sees_77 (by decide) ?_
          refine V_aload_n hC dX5_sees_78 rfl rfl ?_
          refine V_zM_all hC hN dX5_sees_79 inX5_X5_sees (by decide +kernel) ?_
          refine V_bipush hC 19 dX5_sees_82 (by decide) ?_
          refine V_zM_ld1 hC hN (k := 19) dX5_sees_84 (ix_c (by decide)) ?_
          refine V_imul hC dX5_sees_85 ?_
          refine V_iadd hC dX5_sees_86 ?_
          refine V_iconst hC 1 dX5_sees_87 (by decide) ?_
          refine V_iadd hC dX5_sees_88 ?_
          refine V_aload_n hC dX5_sees_89 rfl rfl ?_
          refine V_iload_n hC dX5_sees_90 rfl rfl ?_
          refine V_iconst hC 0 dX5_sees_91 (by decide) ?_
          refine V_cvI (n := 2) hC (c_X5_get g (eL E) hN (b := d.length) (w := 0) hlt (by decide)) dX5_sees_92 gX5_sees_X5_get rfl rfl rfl ⟨rfl, rfl⟩ (by decide +kernel) (by decide +kernel) (by omega) zM_0 rfl (Nat.le_of_ble_eq_true rfl) (by decide) (fun x92 u92 h92 => ?_)
          obtain ⟨rfl, rfl⟩ := h92
          refine V_bipush hC 20 dX5_sees_95 (by decide) ?_
          refine V_isub hC dX5_sees_97 ?_
          refine V_zM_st1 hC hN dX5_sees_98 (ix_of (j := 75 + 2 * rs.length + 1) (by rw [pk_un (by omega), pk_un (by omega), hr.1]; exact i2n1 _) (by omega) (by decide)) ?_
          refine V_aload_n hC dX5_sees_99 rfl rfl ?_
          refine V_zM_all hC hN dX5_sees_100 inX5_X5_sees (by decide +kernel) ?_
          refine V_bipush hC 19 dX5_sees_103 (by decide) ?_
          refine V_dup2 hC dX5_sees_105 rfl rfl ?_
          refine V_zM_ld1 hC hN (k := 19) dX5_sees_106 (ix_c (by decide)) ?_
          refine V_iconst hC 1 dX5_sees_107 (by decide) ?_
          refine V_iadd hC dX5_sees_108 ?_
          refine V_zM_st1 (k := 19) hC hN dX5_sees_109 (ix_c (by decide)) ?_
          refine V_iinc1 hC (nI (d ++ [upd x 2 1]).length) dX5_sees_110 len_s (by rw [hnl]; decide) rfl ?_
          refine V_goto hC 2 dX5_sees_113 (by decide) ?_
          simp only [List.map_cons, List.filter_cons, hu, xSee_yes hu, if_true] at ht hq
          have er : mkRep h x = (((upd a (27 + 6 * d.length + 2) 1) 8 + (upd a (27 + 6 * d.length + 2) 1) 1), ((upd (upd a (27 + 6 * d.length + 2) 1) (75 + 2 * rs.length) ((upd a (27 + 6 * d.length + 2) 1) 8 + (upd a (27 + 6 * d.length + 2) 1) 1)) (27 + 6 * d.length + 0) - 20)) := by
            rw [pk_un (show 8 ≠ 27 + 6 * d.length + 2 by omega), pk_un (show 1 ≠ 27 + 6 * d.length + 2 by omega), pk_un (show 27 + 6 * d.length + 0 ≠ 75 + 2 * rs.length by omega), pk_un (show 27 + 6 * d.length + 0 ≠ 27 + 6 * d.length + 2 by omega), ef, hh 8 (by decide) (by decide) (by decide) (by decide), hh 1 (by decide) (by decide) (by decide) (by decide)]
            rfl
          refine ih (d ++ [upd x 2 1]) _ (rs ++ [mkRep h x]) (by rw [List.append_assoc]; exact ht) (by rw [List.append_assoc]; exact hq) (by rw [List.length_append]; simp only [List.length_singleton]; omega) ((((hh.off (by omega)).off (by omega)).off (by omega)).off (by omega)) ?_ ?_ ((((hp.off (by omega) (by omega)).off (by omega) (by omega)).off (by omega) (by omega)).off (by decide) (by decide))
          · rw [List.append_assoc]
            exact (((hb.set (by decide)).off (by omega) (by omega)).off (by omega) (by omega)).off (by decide) (by decide)
          · rw [er]
            exact rR.push (hr.off (by omega) (by omega)) hl28 (by rw [pk_un (by omega), pk_un (by omega), pk_un (by omega), hr.1]; exact nI_1 _)
  refine V_iconst hC 0 dX5_sees_0 (by decide) ?_
  refine V_istore_n1 hC dX5_sees_1 rfl (by rw [hnl]; decide) rfl ?_
  exact loop bs [] a rs rfl (by rw [hrs0]) hn hh hb hr hp
theorem inX5_X5_guessedWay : ∀ w ∈ wsX50, w ∈ wsX5_guessedWay := by decide +kernel
abbrev rmX5_guessedWay : Room := { frames := 0, cells := 0, slots := 0, locals := 0 }
set_option maxHeartbeats 4000000 in
set_option maxRecDepth 100000 in
theorem c_X5_guessedWay (g : GE) (l : Launch) {N : Nat} {ad : Nat → Nat} {f : Nat → va_E} {o : Nat} {a kp hs : Nat → Int32} {hl : Int32} {so sv pd : Nat → Int32} {pn sp od wb nb : Int32} (hN : o + 7 ≤ N) {h : Nat → Int32} (hh : rH a h) {G : Nat} (hG : G ≤ 5) (hg : h 2 = nI G) : Ct g l yX5_guessedWay wsX5_guessedWay rmX5_guessedWay N ad [.ref (ad o)] (zM g ad f o a kp hs hl so sv pd pn sp od wb nb) (pI N ad (fun x u => x = gw h ∧ u = (zM g ad f o a kp hs hl so sv pd pn sp od wb nb))) 0 0 := by
  refine Ct.of (maxL := 3) rfl (by decide +kernel) [some (.ref (ad o)), none, none] (Nat.le_of_ble_eq_true rfl) (by simp [lvo, lv_args, Value.category]) (fun E hnl _ hC hR => ?_)
  have e2 := hh 2 (by decide) (by decide) (by decide) (by decide)
  have loop : ∀ (n k : Nat), k + n = G → V E g N ad 0 0 (zM g ad f o a kp hs hl so sv pd pn sp od wb nb) 4 [some (.ref (ad o)), some (.int (gwN h k)), some (.int (nI k))] [] := by
    intro n
    induction n with
    | zero =>
      intro k hk
      have hk : k = G := by omega
      subst hk
      refine V_iload_n hC dX5_guessedWay_4 rfl rfl ?_
      refine V_aload_n hC dX5_guessedWay_5 rfl rfl ?_
      refine V_zM_all hC hN dX5_guessedWay_6 inX5_X5_guessedWay (by decide +kernel) ?_
      refine V_iconst hC 2 dX5_guessedWay_9 (by decide) ?_
      refine V_zM_ld1 hC hN (k := 2) dX5_guessedWay_10 (ix_c (by decide)) ?_
      refine V_icmp_ge_t hC 32 dX5_guessedWay_11 (by decide) (by rw [e2, hg]; exact Int32.le_refl _) ?_
      refine V_iload_n hC dX5_guessedWay_32 rfl rfl ?_
      refine V_iret hC hR dX5_guessedWay_33 ⟨rfl, rfl, _, rfl, ?_⟩
      exact ⟨by rw [gw, hg, nI_clamp (by omega)], rfl⟩
    | succ n ih =>
      intro k hk
      have ek := hh (22 + k) (by omega) (by omega) (by omega) (by omega)
      refine V_iload_n hC dX5_guessedWay_4 rfl rfl ?_
      refine V_aload_n hC dX5_guessedWay_5 rfl rfl ?_
      refine V_zM_all hC hN dX5_guessedWay_6 inX5_X5_guessedWay (by decide +kernel) ?_
      refine V_iconst hC 2 dX5_guessedWay_9 (by decide) ?_
      refine V_zM_ld1 hC hN (k := 2) dX5_guessedWay_10 (ix_c (by decide)) ?_
      refine V_icmp_ge_f (tgt := 32) hC dX5_guessedWay_11 (by decide) (by rw [e2, hg]; exact nI_ge (by omega) (by omega)) ?_
      refine V_iload_n hC dX5_guessedWay_14 rfl rfl ?_
      refine V_aload_n hC dX5_guessedWay_15 rfl rfl ?_
      refine V_zM_all hC hN dX5_guessedWay_16 inX5_X5_guessedWay (by decide +kernel) ?_
      refine V_bipush hC 22 dX5_guessedWay_19 (by decide) ?_
      refine V_iload_n hC dX5_guessedWay_21 rfl rfl ?_
      refine V_iadd hC dX5_guessedWay_22 ?_
      refine V_zM_ld1 hC hN dX5_guessedWay_23 (ix_of (j := 22 + k) (i22 k) (by omega) (by decide)) ?_
      refine V_iadd hC dX5_guessedWay_24 ?_
      refine V_eqt (gwN h (k + 1)) (by rw [ek]; rfl) ?_
      refine V_istore_n1 hC dX5_guessedWay_25 rfl (by rw [hnl]; decide) rfl ?_
      refine V_iinc2 hC (nI (k + 1)) dX5_guessedWay_26 (nI_1 k) (by rw [hnl]; decide) rfl ?_
      refine V_goto hC 4 dX5_guessedWay_29 (by decide) ?_
      exact ih (k + 1) (by omega)
  refine V_iconst hC 0 dX5_guessedWay_0 (by decide) ?_
  refine V_istore_n1 hC dX5_guessedWay_1 rfl (by rw [hnl]; decide) rfl ?_
  refine V_iconst hC 0 dX5_guessedWay_2 (by decide) ?_
  refine V_istore_n2 hC dX5_guessedWay_3 rfl (by rw [hnl]; decide) rfl ?_
  exact loop G 0 (by omega)
theorem inX5_X5_plans : ∀ w ∈ wsX50, w ∈ wsX5_plans := by decide +kernel
abbrev rmX5_plans : Room := { frames := 1, cells := 0, slots := 0, locals := 25 }
set_option maxHeartbeats 4000000 in
set_option maxRecDepth 100000 in
theorem c_X5_plans (g : GE) (l : Launch) {N : Nat} {ad : Nat → Nat} {f : Nat → va_E} {o : Nat} {a kp hs : Nat → Int32} {hl : Int32} {so sv pd : Nat → Int32} {pn sp od wb nb : Int32} (hN : o + 7 ≤ N) {h : Nat → Int32} {bs : List (Nat → Int32)} {rs : List (Int32 × Int32)} {ps0 : List Int32} (hh : rH a h) (hb : rB a bs) (hr : rR a rs) (hp : rP a ps0) {G : Nat} (hG : G ≤ 5) (hg : h 2 = nI G) (hlen : rs.length + ps0.length ≤ 28) : Ct g l yX5_plans wsX5_plans rmX5_plans N ad [.ref (ad o)] (zM g ad f o a kp hs hl so sv pd pn sp od wb nb) (pV N ad (fun u => ∃ a2, u = (zM g ad f o a2 kp hs hl so sv pd pn sp od wb nb) ∧ RepR a2 (mTake (mCount (h, bs, rs, ps0))))) 0 0 := by
  refine Ct.of (maxL := 2) rfl (by decide +kernel) [some (.ref (ad o)), none] (Nat.le_of_ble_eq_true rfl) (by simp [lvo, lv_args, Value.category]) (fun E hnl _ hC hR => ?_)
  obtain ⟨tg, htg⟩ : ∃ z, z = (mTake (mCount (h, bs, rs, ps0))).2.2.2 := ⟨_, rfl⟩
  have e0 := hh 0 (by decide) (by decide) (by decide) (by decide)
  have loop2 : ∀ (r d : List (Int32 × Int32)) (a : Nat → Int32) (ps : List Int32), d ++ r.filter (fun q => !isDue h q) = rs.filter (fun q => !isDue h q) → ps ++ (r.filter (isDue h)).map (mkPlan h) = tg → r.length + ps.length ≤ 28 → rH a h → rB a bs → rR a (d ++ r) → rP a ps → V E g N ad 0 0 (zM g ad f o a kp hs hl so sv pd pn sp od wb nb) 40 [some (.ref (ad o)), some (.int (nI d.length))] [] := by
    intro r
    induction r with
    | nil =>
      intro d a ps ht hq hn hh hb hr hp
      refine V_iload_n hC dX5_plans_40 rfl rfl ?_
      refine V_aload_n hC dX5_plans_41 rfl rfl ?_
      refine V_zM_all hC hN dX5_plans_42 inX5_X5_plans (by decide +kernel) ?_
      refine V_bipush hC 19 dX5_plans_45 (by decide) ?_
      refine V_zM_ld1 hC hN (k := 19) dX5_plans_47 (ix_c (by decide)) ?_
      refine V_icmp_ge_t hC 162 dX5_plans_48 (by decide) (lp_end hr.1 (Nat.le_trans hr.2.1 (by decide))) ?_
      refine V_vret hC hR dX5_plans_162 ⟨rfl, rfl, rfl, ?_⟩
      rw [List.append_nil] at hr
      simp only [List.filter_nil, List.map_nil, List.append_nil] at ht hq
      exact ⟨_, rfl, hh, hb, (show d = (mTake (mCount (h, bs, rs, ps0))).2.2.1 from ht) ▸ hr, (show ps = (mTake (mCount (h, bs, rs, ps0))).2.2.2 from hq.trans htg) ▸ hp⟩
    | cons x r ih =>
      intro d a ps ht hq hn hh hb hr hp
      have hlt := hr.lt
      have ex := hr.get
      have e8 := hh 8 (by decide) (by decide) (by decide) (by decide)
      have e3 := hh 3 (by decide) (by decide) (by decide) (by decide)
      simp only [List.length_cons] at hn
      refine V_iload_n hC dX5_plans_40 rfl rfl ?_
      refine V_aload_n hC dX5_plans_41 rfl rfl ?_
      refine V_zM_all hC hN dX5_plans_42 inX5_X5_plans (by decide +kernel) ?_
      refine V_bipush hC 19 dX5_plans_45 (by decide) ?_
      refine V_zM_ld1 hC hN (k := 19) dX5_plans_47 (ix_c (by decide)) ?_
      refine V_icmp_ge_f (tgt := 162) hC dX5_plans_48 (by decide) (lp_go hr.1 (Nat.le_trans hr.2.1 (by decide))) ?_
      refine V_aload_n hC dX5_plans_51 rfl rfl ?_
      refine V_zM_all hC hN dX5_plans_52 inX5_X5_plans (by decide +kernel) ?_
      refine V_bipush hC 75 dX5_plans_55 (by decide) ?_
      refine V_iconst hC 2 dX5_plans_57 (by decide) ?_
      refine V_iload_n hC dX5_plans_58 rfl rfl ?_
      refine V_imul hC dX5_plans_59 ?_
      refine V_iadd hC dX5_plans_60 ?_
      refine V_zM_ld1 hC hN dX5_plans_61 (ix_of (j := 75 + 2 * d.length) (i2n _) (by omega) (by decide)) ?_
      refine V_aload_n hC dX5_plans_62 rfl rfl ?_
      refine V_zM_all hC hN dX5_plans_63 inX5_X5_plans (by decide +kernel) ?_
      refine V_bipush hC 8 dX5_plans_66 (by decide) ?_
      refine V_zM_ld1 hC hN (k := 8) dX5_plans_68 (ix_c (by decide)) ?_
      refine V_icmp_gt hC 156 dX5_plans_69 (by decide) (fun c69 => ?_) (fun c69 => ?_)
      · have hu : isDue h x = false := by rw [ex.1, e8] at c69; simp [isDue]; exact c69
        refine V_iinc1 hC (nI (d ++ [x]).length) dX5_plans_156 len_s (by rw [hnl]; decide) rfl ?_
        refine V_goto hC 40 dX5_plans_159 (by decide) ?_
        simp only [List.filter_cons, hu, Bool.not_false, if_true, Bool.false_eq_true, if_false] at ht hq
        exact ih (d ++ [x]) a ps (by rw [List.append_assoc]; exact ht) hq (by omega) hh hb (by rw [List.append_assoc]; exact hr) hp
      · have hu : isDue h x = true := by rw [ex.1, e8] at c69; simp [isDue]; exact Int32.not_lt.mp c69
        refine V_aload_n hC dX5_plans_72 rfl rfl ?_
        refine V_zM_all hC hN dX5_plans_73 inX5_X5_plans (by decide +kernel) ?_
        refine V_sipush hC 131 dX5_plans_76 (by decide) ?_
        refine V_aload_n hC dX5_plans_79 rfl rfl ?_
        refine V_zM_all hC hN dX5_plans_80 inX5_X5_plans (by decide +kernel) ?_
        refine V_bipush hC 20 dX5_plans_83 (by decide) ?_
        refine V_zM_ld1 hC hN (k := 20) dX5_plans_85 (ix_c (by decide)) ?_
        refine V_iadd hC dX5_plans_86 ?_
        refine V_bipush hC 40 dX5_plans_87 (by decide) ?_
        refine V_aload_n hC dX5_plans_89 rfl rfl ?_
        refine V_zM_all hC hN dX5_plans_90 inX5_X5_plans (by decide +kernel) ?_
        refine V_iconst hC 3 dX5_plans_93 (by decide) ?_
        refine V_zM_ld1 hC hN (k := 3) dX5_plans_94 (ix_c (by decide)) ?_
        refine V_iadd hC dX5_plans_95 ?_
        refine V_aload_n hC dX5_plans_96 rfl rfl ?_
        refine V_zM_all hC hN dX5_plans_97 inX5_X5_plans (by decide +kernel) ?_
        refine V_bipush hC 75 dX5_plans_100 (by decide) ?_
        refine V_iconst hC 2 dX5_plans_102 (by decide) ?_
        refine V_iload_n hC dX5_plans_103 rfl rfl ?_
        refine V_imul hC dX5_plans_104 ?_
        refine V_iadd hC dX5_plans_105 ?_
        refine V_iconst hC 1 dX5_plans_106 (by decide) ?_
        refine V_iadd hC dX5_plans_107 ?_
        refine V_zM_ld1 hC hN dX5_plans_108 (ix_of (j := 75 + 2 * d.length + 1) (i2n1 _) (by omega) (by decide)) ?_
        refine V_isub hC dX5_plans_109 ?_
        refine V_aload_n hC dX5_plans_110 rfl rfl ?_
        refine V_cvI (n := 0) hC (c_X5_guessedWay g (eL E) hN hh hG hg) dX5_plans_111 gX5_plans_X5_guessedWay rfl rfl rfl ⟨rfl, rfl⟩ (by decide +kernel) (by decide +kernel) (by omega) zM_0 rfl (Nat.le_of_ble_eq_true rfl) (by decide) (fun x111 u111 h111 => ?_)
        obtain ⟨rfl, rfl⟩ := h111
        refine V_isub hC dX5_plans_114 ?_
        refine V_zM_st1 hC hN dX5_plans_115 (ix_of (j := 131 + ps.length) (by rw [hp.1]; exact i131 _) (by omega) (by decide)) ?_
        refine V_aload_n hC dX5_plans_116 rfl rfl ?_
        refine V_zM_all hC hN dX5_plans_117 inX5_X5_plans (by decide +kernel) ?_
        refine V_bipush hC 20 dX5_plans_120 (by decide) ?_
        refine V_dup2 hC dX5_plans_122 rfl rfl ?_
        refine V_zM_ld1 hC hN (k := 20) dX5_plans_123 (ix_c (by decide)) ?_
        refine V_iconst hC 1 dX5_plans_124 (by decide) ?_
        refine V_iadd hC dX5_plans_125 ?_
        refine V_zM_st1 (k := 20) hC hN dX5_plans_126 (ix_c (by decide)) ?_
        refine V_aload_n hC dX5_plans_127 rfl rfl ?_
        refine V_bipush hC 75 dX5_plans_128 (by decide) ?_
        refine V_iconst hC 2 dX5_plans_130 (by decide) ?_
        refine V_aload_n hC dX5_plans_131 rfl rfl ?_
        refine V_zM_all hC hN dX5_plans_132 inX5_X5_plans (by decide +kernel) ?_
        refine V_bipush hC 19 dX5_plans_135 (by decide) ?_
        refine V_zM_ld1 hC hN (k := 19) dX5_plans_137 (ix_c (by decide)) ?_
        refine V_eqt (nI (d ++ x :: r).length) (by rw [pk_un (by omega), pk_un (by omega), hr.1]) ?_
        refine V_iload_n hC dX5_plans_138 rfl rfl ?_
        refine V_cvV (n := 4) hC (c_X5_takesOut g (eL E) hN (fr := 75) (ea := 2) (mn := (d ++ x :: r).length) (pl := d.length) (by decide) (by simp only [List.length_append, List.length_cons]; omega) (by simp only [List.length_append, List.length_cons]; omega) (by have := hr.2.1; omega)) dX5_plans_139 gX5_plans_X5_takesOut rfl rfl rfl ⟨rfl, rfl⟩ (by decide +kernel) (by decide +kernel) (by omega) zM_0 rfl (Nat.le_of_ble_eq_true rfl) (by decide) (fun u139 h139 => ?_)
        obtain rfl := h139
        refine V_aload_n hC dX5_plans_142 rfl rfl ?_
        refine V_zM_all hC hN dX5_plans_143 inX5_X5_plans (by decide +kernel) ?_
        refine V_bipush hC 19 dX5_plans_146 (by decide) ?_
        refine V_dup2 hC dX5_plans_148 rfl rfl ?_
        refine V_zM_ld1 hC hN (k := 19) dX5_plans_149 (ix_c (by decide)) ?_
        refine V_iconst hC 1 dX5_plans_150 (by decide) ?_
        refine V_isub hC dX5_plans_151 ?_
        refine V_zM_st1 (k := 19) hC hN dX5_plans_152 (ix_c (by decide)) ?_
        refine V_goto hC 40 dX5_plans_153 (by decide) ?_
        simp only [List.filter_cons, hu, Bool.not_true, if_true, Bool.false_eq_true, if_false, List.map_cons] at ht hq
        have ev : 40 + a 3 - a (75 + 2 * d.length + 1) - gw h = mkPlan h x := by rw [e3, ex.2]; rfl
        refine ih d _ (ps ++ [mkPlan h x]) ht (by rw [List.append_assoc]; exact hq) (by rw [List.length_append]; simp only [List.length_singleton]; omega) ((((hh.off (by omega)).off (by omega)).tko (by omega)).off (by omega)) ((((hb.off (by omega) (by omega)).off (by omega) (by omega)).tko (by omega)).off (by omega) (by omega)) ?_ ?_
        · exact ((hr.off (by omega) (by omega)).off (by omega) (by omega)).cut (by rw [tko_out (by omega), pk_un (by omega), pk_un (by omega), hr.1]; exact len_p)
        · rw [ev]
          exact ((hp.push (by omega) (by rw [pk_un (by omega), hp.1]; exact nI_1 _)).tko ⟨by omega, by have := hr.2.1; simp only [List.length_append, List.length_cons] at this ⊢; omega⟩).off (by omega) (by omega)
  have loop1 : ∀ (r d : List Int32) (a : Nat → Int32), d ++ r.map (fun p => p - h 0) = ps0.map (fun p => p - h 0) → rH a h → rB a bs → rR a rs → rP a (d ++ r) → V E g N ad 0 0 (zM g ad f o a kp hs hl so sv pd pn sp od wb nb) 2 [some (.ref (ad o)), some (.int (nI d.length))] [] := by
    intro r
    induction r with
    | nil =>
      intro d a ht hh hb hr hp
      refine V_iload_n hC dX5_plans_2 rfl rfl ?_
      refine V_aload_n hC dX5_plans_3 rfl rfl ?_
      refine V_zM_all hC hN dX5_plans_4 inX5_X5_plans (by decide +kernel) ?_
      refine V_bipush hC 20 dX5_plans_7 (by decide) ?_
      refine V_zM_ld1 hC hN (k := 20) dX5_plans_9 (ix_c (by decide)) ?_
      refine V_icmp_ge_t hC 38 dX5_plans_10 (by decide) (lp_end hp.1 (Nat.le_trans hp.2.1 (by decide))) ?_
      refine V_iconst hC 0 dX5_plans_38 (by decide) ?_
      refine V_istore_n1 hC dX5_plans_39 rfl (by rw [hnl]; decide) rfl ?_
      rw [List.append_nil] at hp
      rw [List.map_nil, List.append_nil] at ht
      exact loop2 rs [] a d rfl (by rw [ht]; exact htg.symm) (by rw [ht, List.length_map]; exact hlen) hh hb hr hp
    | cons x r ih =>
      intro d a ht hh hb hr hp
      have hlt := hp.lt
      have ex := hp.get
      have e0 := hh 0 (by decide) (by decide) (by decide) (by decide)
      refine V_iload_n hC dX5_plans_2 rfl rfl ?_
      refine V_aload_n hC dX5_plans_3 rfl rfl ?_
      refine V_zM_all hC hN dX5_plans_4 inX5_X5_plans (by decide +kernel) ?_
      refine V_bipush hC 20 dX5_plans_7 (by decide) ?_
      refine V_zM_ld1 hC hN (k := 20) dX5_plans_9 (ix_c (by decide)) ?_
      refine V_icmp_ge_f (tgt := 38) hC dX5_plans_10 (by decide) (lp_go hp.1 (Nat.le_trans hp.2.1 (by decide))) ?_
      refine V_aload_n hC dX5_plans_13 rfl rfl ?_
      refine V_zM_all hC hN dX5_plans_14 inX5_X5_plans (by decide +kernel) ?_
      refine V_sipush hC 131 dX5_plans_17 (by decide) ?_
      refine V_iload_n hC dX5_plans_20 rfl rfl ?_
      refine V_iadd hC dX5_plans_21 ?_
      refine V_dup2 hC dX5_plans_22 rfl rfl ?_
      refine V_zM_ld1 hC hN dX5_plans_23 (ix_of (j := 131 + d.length) (i131 _) (by omega) (by decide)) ?_
      refine V_aload_n hC dX5_plans_24 rfl rfl ?_
      refine V_zM_all hC hN dX5_plans_25 inX5_X5_plans (by decide +kernel) ?_
      refine V_iconst hC 0 dX5_plans_28 (by decide) ?_
      refine V_zM_ld1 hC hN (k := 0) dX5_plans_29 (ix_c (by decide)) ?_
      refine V_isub hC dX5_plans_30 ?_
      refine V_zM_st1 hC hN dX5_plans_31 (ix_of (j := 131 + d.length) (i131 _) (by omega) (by decide)) ?_
      refine V_iinc1 hC (nI (d ++ [x - h 0]).length) dX5_plans_32 len_s (by rw [hnl]; decide) rfl ?_
      refine V_goto hC 2 dX5_plans_35 (by decide) ?_
      refine ih (d ++ [x - h 0]) _ (by rw [List.append_assoc]; exact ht) (hh.off (by omega)) (hb.off (by omega) (by omega)) (hr.off (by omega) (by omega)) ?_
      rw [List.append_assoc, ex, e0]
      exact hp.set
  refine V_iconst hC 0 dX5_plans_0 (by decide) ?_
  refine V_istore_n1 hC dX5_plans_1 rfl (by rw [hnl]; decide) rfl ?_
  exact loop1 ps0 [] a rfl hh hb hr hp
end
section
theorem bMark_cut {d r : List (Nat → Int32)} {y : Nat → Int32} (h : ∀ z ∈ d, isUnder z = false) (hy : isUnder y = true) : bMark (d ++ y :: r) = d ++ xMark y :: r := by
  induction d with
  | nil => simp [bMark, hy]
  | cons z d ih =>
    have hz := h z List.mem_cons_self
    simp only [List.cons_append, bMark, hz, Bool.false_eq_true, if_false]
    rw [ih fun w hw => h w (List.mem_cons_of_mem _ hw)]
theorem find_cut {d r : List (Nat → Int32)} {y : Nat → Int32} (h : ∀ z ∈ d, isUnder z = false) (hy : isUnder y = true) : (d ++ y :: r).find? isUnder = some y := by
  induction d with
  | nil => simp [hy]
  | cons z d ih =>
    have hz := h z List.mem_cons_self
    simp only [List.cons_append, List.find?_cons, hz]
    exact ih fun w hw => h w (List.mem_cons_of_mem _ hw)
theorem find_non {d : List (Nat → Int32)} (h : ∀ z ∈ d, isUnder z = false) : d.find? isUnder = none := by
  rw [List.find?_eq_none]
  intro x hx
  rw [h x hx]
  decide
theorem under_mark (x : Nat → Int32) : isUnder (xMark x) = isUnder x := by
  unfold xMark isUnder
  split <;> simp [upd]
theorem bMark_under (bs : List (Nat → Int32)) : (bMark bs).map isUnder = bs.map isUnder := by
  induction bs with
  | nil => rfl
  | cons x t ih =>
    unfold bMark
    split
    · simp [under_mark]
    · simp [ih]
theorem mMark_under (h : Nat → Int32) (bs : List (Nat → Int32)) : (mMark (h, bs)).2.map isUnder = bs.map isUnder := by
  unfold mMark
  split
  · rfl
  · split
    · rfl
    · exact bMark_under bs
theorem oneU.cut {d r : List (Nat → Int32)} {y : Nat → Int32} (h : oneU (d ++ y :: r)) (hy : isUnder y = true) : ∀ z ∈ r, isUnder z = false := by
  intro z hz
  unfold oneU at h
  rw [List.map_append, List.map_cons, List.pairwise_append] at h
  exact (List.pairwise_cons.mp h.2.1).1 _ (List.mem_map_of_mem hz) hy
theorem nI_nm6 {n : Nat} (h : n < 2 ^ 31) : ¬ nI n = -6 := by
  intro e
  have := congrArg Int32.toInt e
  rw [nI_toInt h] at this
  have e6 : (-6 : Int32).toInt = -6 := by decide
  rw [e6] at this
  omega
/-- the box under the marker, by its place -/
def isUnd (bs : List (Nat → Int32)) (x : Int32) : Prop := (x = -6 ∧ ∀ z ∈ bs, isUnder z = false) ∨ ∃ (d r : List (Nat → Int32)) (y : Nat → Int32), bs = d ++ y :: r ∧ isUnder y = true ∧ (∀ z ∈ d, isUnder z = false) ∧ (∀ z ∈ r, isUnder z = false) ∧ x = nI d.length
theorem inX5_X5_under : ∀ w ∈ wsX50, w ∈ wsX5_under := by decide +kernel
abbrev rmX5_under : Room := { frames := 2, cells := 0, slots := 0, locals := 43 }
set_option maxHeartbeats 4000000 in
set_option maxRecDepth 100000 in
theorem c_X5_under (g : GE) (l : Launch) {N : Nat} {ad : Nat → Nat} {f : Nat → va_E} {o : Nat} {a kp hs : Nat → Int32} {hl : Int32} {so sv pd : Nat → Int32} {pn sp od wb nb : Int32} (hN : o + 7 ≤ N) {bs : List (Nat → Int32)} (hb : rB a bs) (hU : oneU bs) : Ct g l yX5_under wsX5_under rmX5_under N ad [.ref (ad o)] (zM g ad f o a kp hs hl so sv pd pn sp od wb nb) (pI N ad (fun x u => isUnd bs x ∧ u = (zM g ad f o a kp hs hl so sv pd pn sp od wb nb))) 0 0 := by
  refine Ct.of (maxL := 3) rfl (by decide +kernel) [some (.ref (ad o)), none, none] (Nat.le_of_ble_eq_true rfl) (by simp [lvo, lv_args, Value.category]) (fun E hnl _ hC hR => ?_)
  have loop : ∀ (r d : List (Nat → Int32)) (fd : Int32), d ++ r = bs → isUnd d fd → V E g N ad 0 0 (zM g ad f o a kp hs hl so sv pd pn sp od wb nb) 5 [some (.ref (ad o)), some (.int (fd)), some (.int (nI d.length))] [] := by
    intro r
    induction r with
    | nil =>
      intro d fd ht hf
      rw [List.append_nil] at ht
      subst ht
      refine V_iload_n hC dX5_under_5 rfl rfl ?_
      refine V_aload_n hC dX5_under_6 rfl rfl ?_
      refine V_zM_all hC hN dX5_under_7 inX5_X5_under (by decide +kernel) ?_
      refine V_bipush hC 9 dX5_under_10 (by decide) ?_
      refine V_zM_ld1 hC hN (k := 9) dX5_under_12 (ix_c (by decide)) ?_
      refine V_icmp_ge_t hC 49 dX5_under_13 (by decide) (by rw [hb.1]; exact Int32.le_refl _) ?_
      refine V_iload_n hC dX5_under_49 rfl rfl ?_
      refine V_iret hC hR dX5_under_50 ⟨rfl, rfl, _, rfl, ?_⟩
      exact ⟨hf, rfl⟩
    | cons x r ih =>
      intro d fd ht hf
      subst ht
      have hlt := hb.lt
      have ef := hb.get (w := 0) (by decide)
      have el := hb.get (w := 1) (by decide)
      refine V_iload_n hC dX5_under_5 rfl rfl ?_
      refine V_aload_n hC dX5_under_6 rfl rfl ?_
      refine V_zM_all hC hN dX5_under_7 inX5_X5_under (by decide +kernel) ?_
      refine V_bipush hC 9 dX5_under_10 (by decide) ?_
      refine V_zM_ld1 hC hN (k := 9) dX5_under_12 (ix_c (by decide)) ?_
      refine V_icmp_ge_f (tgt := 49) hC dX5_under_13 (by decide) (lp_go hb.1 (Nat.le_trans hb.2.1 (by decide))) ?_
      refine V_aload_n hC dX5_under_16 rfl rfl ?_
      refine V_iload_n hC dX5_under_17 rfl rfl ?_
      refine V_iconst hC 0 dX5_under_18 (by decide) ?_
      refine V_cvI (n := 2) hC (c_X5_get g (eL E) hN (b := d.length) (w := 0) hlt (by decide)) dX5_under_19 gX5_under_X5_get rfl rfl rfl ⟨rfl, rfl⟩ (by decide +kernel) (by decide +kernel) (by omega) zM_0 rfl (Nat.le_of_ble_eq_true rfl) (by decide) (fun x19 u19 h19 => ?_)
      obtain ⟨rfl, rfl⟩ := h19
      refine V_bipush hC 60 dX5_under_22 (by decide) ?_
      refine V_icmp_lt hC 41 dX5_under_24 (by decide) (fun c24 => ?_) (fun c24 => ?_)
      · have hu : isUnder x = false := by rw [ef] at c24; simp [isUnder]; intro q; exact absurd c24 (Int32.not_lt.mpr q)
        refine V_iload_n hC dX5_under_41 rfl rfl ?_
        refine V_istore_n1 hC dX5_under_42 rfl (by rw [hnl]; decide) rfl ?_
        refine V_iinc2 hC (nI (d ++ [x]).length) dX5_under_43 len_s (by rw [hnl]; decide) rfl ?_
        refine V_goto hC 5 dX5_under_46 (by decide) ?_
        refine ih (d ++ [x]) fd (by simp) ?_
        rcases hf with ⟨h1, h2⟩ | ⟨d1, d2, y, h1, h2, h3, h4, h5⟩
        · exact Or.inl ⟨h1, fun z hz => by rcases List.mem_append.mp hz with q | q; exact h2 z q; rw [List.mem_singleton.mp q]; exact hu⟩
        · exact Or.inr ⟨d1, d2 ++ [x], y, by rw [h1]; simp, h2, h3, fun z hz => by rcases List.mem_append.mp hz with q | q; exact h4 z q; rw [List.mem_singleton.mp q]; exact hu, h5⟩
      · refine V_aload_n hC dX5_under_27 rfl rfl ?_
        refine V_iload_n hC dX5_under_28 rfl rfl ?_
        refine V_cvI (n := 1) hC (c_X5_back g (eL E) hN (b := d.length) hlt) dX5_under_29 gX5_under_X5_back rfl rfl rfl ⟨rfl, rfl⟩ (by decide +kernel) (by decide +kernel) (by omega) zM_0 rfl (Nat.le_of_ble_eq_true rfl) (by decide) (fun x29 u29 h29 => ?_)
        obtain ⟨rfl, rfl⟩ := h29
        refine V_bipush hC 60 dX5_under_32 (by decide) ?_
        refine V_icmp_ge hC 41 dX5_under_34 (by decide) (fun c34 => ?_) (fun c34 => ?_)
        · have hu : isUnder x = false := by rw [ef, el] at c34; simp [isUnder]; intro _; exact c34
          refine V_iload_n hC dX5_under_41 rfl rfl ?_
          refine V_istore_n1 hC dX5_under_42 rfl (by rw [hnl]; decide) rfl ?_
          refine V_iinc2 hC (nI (d ++ [x]).length) dX5_under_43 len_s (by rw [hnl]; decide) rfl ?_
          refine V_goto hC 5 dX5_under_46 (by decide) ?_
          refine ih (d ++ [x]) fd (by simp) ?_
          rcases hf with ⟨h1, h2⟩ | ⟨d1, d2, y, h1, h2, h3, h4, h5⟩
          · exact Or.inl ⟨h1, fun z hz => by rcases List.mem_append.mp hz with q | q; exact h2 z q; rw [List.mem_singleton.mp q]; exact hu⟩
          · exact Or.inr ⟨d1, d2 ++ [x], y, by rw [h1]; simp, h2, h3, fun z hz => by rcases List.mem_append.mp hz with q | q; exact h4 z q; rw [List.mem_singleton.mp q]; exact hu, h5⟩
        · have hu : isUnder x = true := by rw [ef] at c24; rw [ef, el] at c34; simp [isUnder]; exact ⟨Int32.not_lt.mp c24, Int32.not_le.mp c34⟩
          refine V_iload_n hC dX5_under_37 rfl rfl ?_
          refine V_goto hC 42 dX5_under_38 (by decide) ?_
          refine V_istore_n1 hC dX5_under_42 rfl (by rw [hnl]; decide) rfl ?_
          refine V_iinc2 hC (nI (d ++ [x]).length) dX5_under_43 len_s (by rw [hnl]; decide) rfl ?_
          refine V_goto hC 5 dX5_under_46 (by decide) ?_
          refine ih (d ++ [x]) (nI d.length) (by simp) ?_
          rcases hf with ⟨h1, h2⟩ | ⟨d1, d2, y, h1, h2, h3, h4, h5⟩
          · exact Or.inr ⟨d, [], x, rfl, hu, h2, fun z hz => absurd hz List.not_mem_nil, rfl⟩
          · exfalso
            have hz := oneU.cut (d := d1) (y := y) (r := d2 ++ x :: r) (by rw [h1] at hU; simpa using hU) h2 x (by simp)
            rw [hu] at hz
            cases hz
  refine V_bipush hC (-6) dX5_under_0 (by decide) ?_
  refine V_istore_n1 hC dX5_under_2 rfl (by rw [hnl]; decide) rfl ?_
  refine V_iconst hC 0 dX5_under_3 (by decide) ?_
  refine V_istore_n2 hC dX5_under_4 rfl (by rw [hnl]; decide) rfl ?_
  exact loop bs [] (-6) rfl (Or.inl ⟨rfl, fun z hz => absurd hz List.not_mem_nil⟩)
theorem inX5_X5_marks : ∀ w ∈ wsX50, w ∈ wsX5_marks := by decide +kernel
abbrev rmX5_marks : Room := { frames := 3, cells := 0, slots := 0, locals := 65 }
set_option maxHeartbeats 4000000 in
set_option maxRecDepth 100000 in
theorem c_X5_marks (g : GE) (l : Launch) {N : Nat} {ad : Nat → Nat} {f : Nat → va_E} {o : Nat} {a kp hs : Nat → Int32} {hl : Int32} {so sv pd : Nat → Int32} {pn sp od wb nb : Int32} (hN : o + 7 ≤ N) {h : Nat → Int32} {bs : List (Nat → Int32)} {rs : List (Int32 × Int32)} {ps : List Int32} (hh : rH a h) (hb : rB a bs) (hr : rR a rs) (hp : rP a ps) (hU : oneU bs) : Ct g l yX5_marks wsX5_marks rmX5_marks N ad [.ref (ad o)] (zM g ad f o a kp hs hl so sv pd pn sp od wb nb) (pV N ad (fun u => ∃ a2, u = (zM g ad f o a2 kp hs hl so sv pd pn sp od wb nb) ∧ rH a2 (mMark (h, bs)).1 ∧ rB a2 (mMark (h, bs)).2 ∧ rR a2 rs ∧ rP a2 ps)) 0 0 := by
  refine Ct.of (maxL := 2) rfl (by decide +kernel) [some (.ref (ad o)), none] (Nat.le_of_ble_eq_true rfl) (by simp [lvo, lv_args, Value.category]) (fun E hnl _ hC hR => ?_)
  have e18 := hh 18 (by decide) (by decide) (by decide) (by decide)
  have e4 := hh 4 (by decide) (by decide) (by decide) (by decide)
  refine V_aload_n hC dX5_marks_0 rfl rfl ?_
  refine V_zM_all hC hN dX5_marks_1 inX5_X5_marks (by decide +kernel) ?_
  refine V_bipush hC 18 dX5_marks_4 (by decide) ?_
  refine V_zM_ld1 hC hN (k := 18) dX5_marks_6 (ix_c (by decide)) ?_
  refine V_aload_n hC dX5_marks_7 rfl rfl ?_
  refine V_zM_all hC hN dX5_marks_8 inX5_X5_marks (by decide +kernel) ?_
  refine V_iconst hC 4 dX5_marks_11 (by decide) ?_
  refine V_zM_ld1 hC hN (k := 4) dX5_marks_12 (ix_c (by decide)) ?_
  refine V_icmp_ge hC 28 dX5_marks_13 (by decide) (fun c13 => ?_) (fun c13 => ?_)
  · refine V_aload_n hC dX5_marks_28 rfl rfl ?_
    refine V_zM_all hC hN dX5_marks_29 inX5_X5_marks (by decide +kernel) ?_
    refine V_bipush hC 18 dX5_marks_32 (by decide) ?_
    refine V_dup2 hC dX5_marks_34 rfl rfl ?_
    refine V_zM_ld1 hC hN (k := 18) dX5_marks_35 (ix_c (by decide)) ?_
    refine V_aload_n hC dX5_marks_36 rfl rfl ?_
    refine V_zM_all hC hN dX5_marks_37 inX5_X5_marks (by decide +kernel) ?_
    refine V_iconst hC 4 dX5_marks_40 (by decide) ?_
    refine V_zM_ld1 hC hN (k := 4) dX5_marks_41 (ix_c (by decide)) ?_
    refine V_isub hC dX5_marks_42 ?_
    refine V_zM_st1 (k := 18) hC hN dX5_marks_43 (ix_c (by decide)) ?_
    refine V_aload_n hC dX5_marks_44 rfl rfl ?_
    refine V_cvI (n := 0) hC (c_X5_under g (eL E) hN (hb.off (by decide) (by decide)) hU) dX5_marks_45 gX5_marks_X5_under rfl rfl rfl ⟨rfl, rfl⟩ (by decide +kernel) (by decide +kernel) (by omega) zM_0 rfl (Nat.le_of_ble_eq_true rfl) (by decide) (fun x45 u45 h45 => ?_)
    rcases h45 with ⟨⟨rfl, hno⟩ | ⟨d, r, y, he, hy, hd, hr2, rfl⟩, rfl⟩
    · have hs : ¬ h 18 < h 4 := by rw [e18, e4] at c13; exact Int32.not_lt.mpr c13
      refine V_istore_n1 hC dX5_marks_48 rfl (by rw [hnl]; decide) rfl ?_
      refine V_iload_n hC dX5_marks_49 rfl rfl ?_
      refine V_bipush hC (-6) dX5_marks_50 (by decide) ?_
      refine V_icmp_ne_f (tgt := 67) hC dX5_marks_52 (by decide) rfl ?_
      refine V_aload_n hC dX5_marks_55 rfl rfl ?_
      refine V_zM_all hC hN dX5_marks_56 inX5_X5_marks (by decide +kernel) ?_
      refine V_bipush hC 15 dX5_marks_59 (by decide) ?_
      refine V_dup2 hC dX5_marks_61 rfl rfl ?_
      refine V_zM_ld1 hC hN (k := 15) dX5_marks_62 (ix_c (by decide)) ?_
      refine V_iconst hC 1 dX5_marks_63 (by decide) ?_
      refine V_iadd hC dX5_marks_64 ?_
      refine V_zM_st1 (k := 15) hC hN dX5_marks_65 (ix_c (by decide)) ?_
      refine V_vret hC hR dX5_marks_66 ⟨rfl, rfl, rfl, ?_⟩
      have e15 := hh 15 (by decide) (by decide) (by decide) (by decide)
      refine ⟨_, rfl, ?_, ?_, (hr.off (by decide) (by decide)).off (by decide) (by decide), (hp.off (by decide) (by decide)).off (by decide) (by decide)⟩
      · simp only [mMark, hs, if_false, find_non hno, hTaken]
        rw [pk_un (show 15 ≠ 18 by decide), e15, e18, e4]
        exact hh.at.at
      · simp only [mMark, hs, if_false, find_non hno]
        exact (hb.off (by decide) (by decide)).off (by decide) (by decide)
    · subst he
      have hs : ¬ h 18 < h 4 := by rw [e18, e4] at c13; exact Int32.not_lt.mpr c13
      have hlt := hb.lt
      have ey := hb.get (w := 3) (by decide)
      have e0 := hb.get (w := 0) (by decide)
      refine V_istore_n1 hC dX5_marks_48 rfl (by rw [hnl]; decide) rfl ?_
      refine V_iload_n hC dX5_marks_49 rfl rfl ?_
      refine V_bipush hC (-6) dX5_marks_50 (by decide) ?_
      refine V_icmp_ne_t hC 67 dX5_marks_52 (by decide) (nI_nm6 (by omega)) ?_
      refine V_aload_n hC dX5_marks_67 rfl rfl ?_
      refine V_zM_all hC hN dX5_marks_68 inX5_X5_marks (by decide +kernel) ?_
      refine V_bipush hC 14 dX5_marks_71 (by decide) ?_
      refine V_dup2 hC dX5_marks_73 rfl rfl ?_
      refine V_zM_ld1 hC hN (k := 14) dX5_marks_74 (ix_c (by decide)) ?_
      refine V_iconst hC 1 dX5_marks_75 (by decide) ?_
      refine V_iadd hC dX5_marks_76 ?_
      refine V_zM_st1 (k := 14) hC hN dX5_marks_77 (ix_c (by decide)) ?_
      refine V_aload_n hC dX5_marks_78 rfl rfl ?_
      refine V_iload_n hC dX5_marks_79 rfl rfl ?_
      refine V_iconst hC 3 dX5_marks_80 (by decide) ?_
      refine V_cvI (n := 2) hC (c_X5_get g (eL E) hN (b := d.length) (w := 3) hlt (by decide)) dX5_marks_81 gX5_marks_X5_get rfl rfl rfl ⟨rfl, rfl⟩ (by decide +kernel) (by decide +kernel) (by omega) zM_0 rfl (Nat.le_of_ble_eq_true rfl) (by decide) (fun x81 u81 h81 => ?_)
      obtain ⟨rfl, rfl⟩ := h81
      refine V_bipush hC (-6) dX5_marks_84 (by decide) ?_
      refine V_icmp_eq hC 107 dX5_marks_86 (by decide) (fun c86 => ?_) (fun c86 => ?_)
      · refine V_aload_n hC dX5_marks_107 rfl rfl ?_
        refine V_iload_n hC dX5_marks_108 rfl rfl ?_
        refine V_iconst hC 3 dX5_marks_109 (by decide) ?_
        refine V_aload_n hC dX5_marks_110 rfl rfl ?_
        refine V_iload_n hC dX5_marks_111 rfl rfl ?_
        refine V_iconst hC 0 dX5_marks_112 (by decide) ?_
        refine V_cvI (n := 2) hC (c_X5_get g (eL E) hN (b := d.length) (w := 0) hlt (by decide)) dX5_marks_113 gX5_marks_X5_get rfl rfl rfl ⟨rfl, rfl⟩ (by decide +kernel) (by decide +kernel) (by omega) zM_0 rfl (Nat.le_of_ble_eq_true rfl) (by decide) (fun x113 u113 h113 => ?_)
        obtain ⟨rfl, rfl⟩ := h113
        refine V_bipush hC 60 dX5_marks_116 (by decide) ?_
        refine V_isub hC dX5_marks_118 ?_
        refine V_cvV (n := 3) hC (c_X5_put g (eL E) hN (b := d.length) (w := 3) (z := _) hlt (by decide)) dX5_marks_119 gX5_marks_X5_put rfl rfl rfl ⟨rfl, rfl⟩ (by decide +kernel) (by decide +kernel) (by omega) zM_0 rfl (Nat.le_of_ble_eq_true rfl) (by decide) (fun u119 h119 => ?_)
        obtain rfl := h119
        refine V_vret hC hR dX5_marks_122 ⟨rfl, rfl, rfl, ?_⟩
        have hx : y 3 = -6 := by rw [pk_un (by omega), pk_un (by omega), ey] at c86; exact c86
        have e14 := hh 14 (by decide) (by decide) (by decide) (by decide)
        refine ⟨_, rfl, ?_, ?_, ((hr.off (by decide) (by decide)).off (by decide) (by decide)).off (by omega) (by omega), ((hp.off (by decide) (by decide)).off (by decide) (by decide)).off (by omega) (by omega)⟩
        · simp only [mMark, hs, if_false, find_cut hd hy, hTaken, hMarked, hx, if_true]
          rw [pk_un (show 14 ≠ 18 by decide), pk_un (show 14 ≠ 18 by decide), e14, e18, e4]
          exact hh.at.at.off (by omega)
        · simp only [mMark, hs, if_false, find_cut hd hy, bMark_cut hd hy, xMark, hx, if_true]
          rw [pk_un (show 27 + 6 * d.length + 0 ≠ 14 by omega), pk_un (show 27 + 6 * d.length + 0 ≠ 18 by omega), e0]
          exact ((hb.off (by decide) (by decide)).off (by decide) (by decide)).set (by decide)
      · refine V_aload_n hC dX5_marks_89 rfl rfl ?_
        refine V_iload_n hC dX5_marks_90 rfl rfl ?_
        refine V_iconst hC 4 dX5_marks_91 (by decide) ?_
        refine V_iconst hC 1 dX5_marks_92 (by decide) ?_
        refine V_cvV (n := 3) hC (c_X5_put g (eL E) hN (b := d.length) (w := 4) (z := 1) hlt (by decide)) dX5_marks_93 gX5_marks_X5_put rfl rfl rfl ⟨rfl, rfl⟩ (by decide +kernel) (by decide +kernel) (by omega) zM_0 rfl (Nat.le_of_ble_eq_true rfl) (by decide) (fun u93 h93 => ?_)
        obtain rfl := h93
        refine V_aload_n hC dX5_marks_96 rfl rfl ?_
        refine V_zM_all hC hN dX5_marks_97 inX5_X5_marks (by decide +kernel) ?_
        refine V_bipush hC 16 dX5_marks_100 (by decide) ?_
        refine V_dup2 hC dX5_marks_102 rfl rfl ?_
        refine V_zM_ld1 hC hN (k := 16) dX5_marks_103 (ix_c (by decide)) ?_
        refine V_iconst hC 1 dX5_marks_104 (by decide) ?_
        refine V_iadd hC dX5_marks_105 ?_
        refine V_zM_st1 (k := 16) hC hN dX5_marks_106 (ix_c (by decide)) ?_
        refine V_aload_n hC dX5_marks_107 rfl rfl ?_
        refine V_iload_n hC dX5_marks_108 rfl rfl ?_
        refine V_iconst hC 3 dX5_marks_109 (by decide) ?_
        refine V_aload_n hC dX5_marks_110 rfl rfl ?_
        refine V_iload_n hC dX5_marks_111 rfl rfl ?_
        refine V_iconst hC 0 dX5_marks_112 (by decide) ?_
        refine V_cvI (n := 2) hC (c_X5_get g (eL E) hN (b := d.length) (w := 0) hlt (by decide)) dX5_marks_113 gX5_marks_X5_get rfl rfl rfl ⟨rfl, rfl⟩ (by decide +kernel) (by decide +kernel) (by omega) zM_0 rfl (Nat.le_of_ble_eq_true rfl) (by decide) (fun x113 u113 h113 => ?_)
        obtain ⟨rfl, rfl⟩ := h113
        refine V_bipush hC 60 dX5_marks_116 (by decide) ?_
        refine V_isub hC dX5_marks_118 ?_
        refine V_cvV (n := 3) hC (c_X5_put g (eL E) hN (b := d.length) (w := 3) (z := _) hlt (by decide)) dX5_marks_119 gX5_marks_X5_put rfl rfl rfl ⟨rfl, rfl⟩ (by decide +kernel) (by decide +kernel) (by omega) zM_0 rfl (Nat.le_of_ble_eq_true rfl) (by decide) (fun u119 h119 => ?_)
        obtain rfl := h119
        refine V_vret hC hR dX5_marks_122 ⟨rfl, rfl, rfl, ?_⟩
        have hx : ¬ y 3 = -6 := by rw [pk_un (by omega), pk_un (by omega), ey] at c86; exact c86
        have e14 := hh 14 (by decide) (by decide) (by decide) (by decide)
        have e16 := hh 16 (by decide) (by decide) (by decide) (by decide)
        refine ⟨_, rfl, ?_, ?_, ((((hr.off (by decide) (by decide)).off (by decide) (by decide)).off (by omega) (by omega)).off (by decide) (by decide)).off (by omega) (by omega), ((((hp.off (by decide) (by decide)).off (by decide) (by decide)).off (by omega) (by omega)).off (by decide) (by decide)).off (by omega) (by omega)⟩
        · simp only [mMark, hs, if_false, find_cut hd hy, hTaken, hMarked, hx]
          rw [pk_un (show 14 ≠ 18 by decide), pk_un (show 16 ≠ 27 + 6 * d.length + 4 by omega), pk_un (show 16 ≠ 14 by decide), pk_un (show 16 ≠ 18 by decide), pk_un (show 14 ≠ 18 by decide), pk_un (show 16 ≠ 18 by decide), e14, e16, e18, e4]
          exact ((hh.at.at.off (by omega)).at).off (by omega)
        · simp only [mMark, hs, if_false, find_cut hd hy, bMark_cut hd hy, xMark, hx]
          rw [pk_un (show 27 + 6 * d.length + 0 ≠ 16 by omega), pk_un (show 27 + 6 * d.length + 0 ≠ 27 + 6 * d.length + 4 by omega), pk_un (show 27 + 6 * d.length + 0 ≠ 14 by omega), pk_un (show 27 + 6 * d.length + 0 ≠ 18 by omega), e0]
          exact ((((hb.off (by decide) (by decide)).off (by decide) (by decide)).set (by decide)).off (by decide) (by decide)).set (by decide)
  · refine V_aload_n hC dX5_marks_16 rfl rfl ?_
    refine V_zM_all hC hN dX5_marks_17 inX5_X5_marks (by decide +kernel) ?_
    refine V_bipush hC 17 dX5_marks_20 (by decide) ?_
    refine V_dup2 hC dX5_marks_22 rfl rfl ?_
    refine V_zM_ld1 hC hN (k := 17) dX5_marks_23 (ix_c (by decide)) ?_
    refine V_iconst hC 1 dX5_marks_24 (by decide) ?_
    refine V_iadd hC dX5_marks_25 ?_
    refine V_zM_st1 (k := 17) hC hN dX5_marks_26 (ix_c (by decide)) ?_
    refine V_vret hC hR dX5_marks_27 ⟨rfl, rfl, rfl, ?_⟩
    have hs : h 18 < h 4 := by rw [e18, e4] at c13; exact Int32.not_le.mp c13
    have e17 := hh 17 (by decide) (by decide) (by decide) (by decide)
    refine ⟨_, rfl, ?_, ?_, hr.off (by decide) (by decide), hp.off (by decide) (by decide)⟩
    · simp only [mMark, hs, if_true]
      rw [e17]
      exact hh.at
    · simp only [mMark, hs, if_true]
      exact hb.off (by decide) (by decide)
theorem inX5_X5_doesPlans : ∀ w ∈ wsX50, w ∈ wsX5_doesPlans := by decide +kernel
abbrev rmX5_doesPlans : Room := { frames := 4, cells := 0, slots := 0, locals := 86 }
set_option maxHeartbeats 4000000 in
set_option maxRecDepth 100000 in
theorem c_X5_doesPlans (g : GE) (l : Launch) {N : Nat} {ad : Nat → Nat} {f : Nat → va_E} {o : Nat} {a kp hs : Nat → Int32} {hl : Int32} {so sv pd : Nat → Int32} {pn sp od wb nb : Int32} (hN : o + 7 ≤ N) {h0 : Nat → Int32} {bs0 : List (Nat → Int32)} {rs : List (Int32 × Int32)} {ps : List Int32} (hh : rH a h0) (hb : rB a bs0) (hr : rR a rs) (hp : rP a ps) (hU : oneU bs0) : Ct g l yX5_doesPlans wsX5_doesPlans rmX5_doesPlans N ad [.ref (ad o)] (zM g ad f o a kp hs hl so sv pd pn sp od wb nb) (pV N ad (fun u => ∃ a2, u = (zM g ad f o a2 kp hs hl so sv pd pn sp od wb nb) ∧ RepR a2 (mDo (h0, bs0, rs, ps)))) 0 0 := by
  refine Ct.of (maxL := 2) rfl (by decide +kernel) [some (.ref (ad o)), none] (Nat.le_of_ble_eq_true rfl) (by simp [lvo, lv_args, Value.category]) (fun E hnl _ hC hR => ?_)
  obtain ⟨tg, htg⟩ : ∃ z, z = ps.foldl doOne (h0, bs0) := ⟨_, rfl⟩
  have loop : ∀ (r d : List Int32) (a h : Nat → Int32) (bs : List (Nat → Int32)), d ++ r.filter (fun q => !decide (q ≤ 0)) = ps.filter (fun q => !decide (q ≤ 0)) → r.foldl doOne (h, bs) = tg → oneU bs → rH a h → rB a bs → rR a rs → rP a (d ++ r) → V E g N ad 0 0 (zM g ad f o a kp hs hl so sv pd pn sp od wb nb) 2 [some (.ref (ad o)), some (.int (nI d.length))] [] := by
    intro r
    induction r with
    | nil =>
      intro d a h bs ht hq hU hh hb hr hp
      refine V_iload_n hC dX5_doesPlans_2 rfl rfl ?_
      refine V_aload_n hC dX5_doesPlans_3 rfl rfl ?_
      refine V_zM_all hC hN dX5_doesPlans_4 inX5_X5_doesPlans (by decide +kernel) ?_
      refine V_bipush hC 20 dX5_doesPlans_7 (by decide) ?_
      refine V_zM_ld1 hC hN (k := 20) dX5_doesPlans_9 (ix_c (by decide)) ?_
      refine V_icmp_ge_t hC 66 dX5_doesPlans_10 (by decide) (lp_end hp.1 (Nat.le_trans hp.2.1 (by decide))) ?_
      refine V_vret hC hR dX5_doesPlans_66 ⟨rfl, rfl, rfl, ?_⟩
      rw [List.append_nil] at hp
      simp only [List.filter_nil, List.append_nil] at ht
      have hq : (h, bs) = tg := hq
      have q1 : (mDo (h0, bs0, rs, ps)).1 = h := by show (ps.foldl doOne (h0, bs0)).1 = h; rw [← htg, ← hq]
      have q2 : (mDo (h0, bs0, rs, ps)).2.1 = bs := by show (ps.foldl doOne (h0, bs0)).2 = bs; rw [← htg, ← hq]
      exact ⟨_, rfl, by rw [q1]; exact hh, by rw [q2]; exact hb, hr, (show d = (mDo (h0, bs0, rs, ps)).2.2.2 from ht) ▸ hp⟩
    | cons x r ih =>
      intro d a h bs ht hq hU hh hb hr hp
      have hlt := hp.lt
      have ex := hp.get
      rw [List.foldl_cons] at hq
      refine V_iload_n hC dX5_doesPlans_2 rfl rfl ?_
      refine V_aload_n hC dX5_doesPlans_3 rfl rfl ?_
      refine V_zM_all hC hN dX5_doesPlans_4 inX5_X5_doesPlans (by decide +kernel) ?_
      refine V_bipush hC 20 dX5_doesPlans_7 (by decide) ?_
      refine V_zM_ld1 hC hN (k := 20) dX5_doesPlans_9 (ix_c (by decide)) ?_
      refine V_icmp_ge_f (tgt := 66) hC dX5_doesPlans_10 (by decide) (lp_go hp.1 (Nat.le_trans hp.2.1 (by decide))) ?_
      refine V_aload_n hC dX5_doesPlans_13 rfl rfl ?_
      refine V_zM_all hC hN dX5_doesPlans_14 inX5_X5_doesPlans (by decide +kernel) ?_
      refine V_sipush hC 131 dX5_doesPlans_17 (by decide) ?_
      refine V_iload_n hC dX5_doesPlans_20 rfl rfl ?_
      refine V_iadd hC dX5_doesPlans_21 ?_
      refine V_zM_ld1 hC hN dX5_doesPlans_22 (ix_of (j := 131 + d.length) (i131 _) (by omega) (by decide)) ?_
      refine V_if_gt hC 60 dX5_doesPlans_23 (by decide) (fun c23 => ?_) (fun c23 => ?_)
      · have hu : ¬ x ≤ 0 := by rw [ex] at c23; exact Int32.not_le.mpr c23
        refine V_iinc1 hC (nI (d ++ [x]).length) dX5_doesPlans_60 len_s (by rw [hnl]; decide) rfl ?_
        refine V_goto hC 2 dX5_doesPlans_63 (by decide) ?_
        simp only [List.filter_cons, hu, decide_false, Bool.not_false, if_true] at ht
        simp only [doOne, hu, if_false] at hq
        exact ih (d ++ [x]) a h bs (by rw [List.append_assoc]; exact ht) hq hU hh hb hr (by rw [List.append_assoc]; exact hp)
      · have hu : x ≤ 0 := by rw [ex] at c23; exact Int32.not_lt.mp c23
        refine V_aload_n hC dX5_doesPlans_26 rfl rfl ?_
        refine V_sipush hC 131 dX5_doesPlans_27 (by decide) ?_
        refine V_iconst hC 1 dX5_doesPlans_30 (by decide) ?_
        refine V_aload_n hC dX5_doesPlans_31 rfl rfl ?_
        refine V_zM_all hC hN dX5_doesPlans_32 inX5_X5_doesPlans (by decide +kernel) ?_
        refine V_bipush hC 20 dX5_doesPlans_35 (by decide) ?_
        refine V_zM_ld1 hC hN (k := 20) dX5_doesPlans_37 (ix_c (by decide)) ?_
        refine V_eqt (nI (d ++ x :: r).length) hp.1 ?_
        refine V_iload_n hC dX5_doesPlans_38 rfl rfl ?_
        refine V_cvV (n := 4) hC (c_X5_takesOut g (eL E) hN (fr := 131) (ea := 1) (mn := (d ++ x :: r).length) (pl := d.length) (by decide) (by simp only [List.length_append, List.length_cons]; omega) (by simp only [List.length_append, List.length_cons]; omega) (by have := hp.2.1; simp only [List.length_append, List.length_cons] at this ⊢; omega)) dX5_doesPlans_39 gX5_doesPlans_X5_takesOut rfl rfl rfl ⟨rfl, rfl⟩ (by decide +kernel) (by decide +kernel) (by omega) zM_0 rfl (Nat.le_of_ble_eq_true rfl) (by decide) (fun u39 h39 => ?_)
        obtain rfl := h39
        refine V_aload_n hC dX5_doesPlans_42 rfl rfl ?_
        refine V_zM_all hC hN dX5_doesPlans_43 inX5_X5_doesPlans (by decide +kernel) ?_
        refine V_bipush hC 20 dX5_doesPlans_46 (by decide) ?_
        refine V_dup2 hC dX5_doesPlans_48 rfl rfl ?_
        refine V_zM_ld1 hC hN (k := 20) dX5_doesPlans_49 (ix_c (by decide)) ?_
        refine V_iconst hC 1 dX5_doesPlans_50 (by decide) ?_
        refine V_isub hC dX5_doesPlans_51 ?_
        refine V_zM_st1 (k := 20) hC hN dX5_doesPlans_52 (ix_c (by decide)) ?_
        refine V_aload_n hC dX5_doesPlans_53 rfl rfl ?_
        refine V_cvV (n := 0) hC (c_X5_marks g (eL E) hN ((hh.tko (by omega)).off (by omega)) ((hb.tko (by omega)).off (by decide) (by decide)) ((hr.tko (by omega)).off (by decide) (by decide)) (by simpa only [Nat.one_mul] using hp.cut (z := (tko a (131 + 1 * d.length) (131 + 1 * ((d ++ x :: r).length - 1)) 1) 20 - 1) (by rw [tko_out (by omega), hp.1]; exact len_p)) hU) dX5_doesPlans_54 gX5_doesPlans_X5_marks rfl rfl rfl ⟨rfl, rfl⟩ (by decide +kernel) (by decide +kernel) (by omega) zM_0 rfl (Nat.le_of_ble_eq_true rfl) (by decide) (fun u54 h54 => ?_)
        obtain ⟨a2, rfl, k1, k2, k3, k4⟩ := h54
        refine V_goto hC 2 dX5_doesPlans_57 (by decide) ?_
        simp only [List.filter_cons, hu, decide_true, Bool.not_true, Bool.false_eq_true, if_false] at ht
        simp only [doOne, hu, if_true] at hq
        exact ih d a2 (mMark (h, bs)).1 (mMark (h, bs)).2 ht hq (by unfold oneU; rw [mMark_under]; exact hU) k1 k2 k3 k4
  refine V_iconst hC 0 dX5_doesPlans_0 (by decide) ?_
  refine V_istore_n1 hC dX5_doesPlans_1 rfl (by rw [hnl]; decide) rfl ?_
  exact loop ps [] a h0 bs0 rfl htg.symm hU hh hb hr hp
end
section
theorem inJ_i {x a b : Int32} : inJ x.toInt64 a.toInt64 b.toInt64 ↔ a ≤ x ∧ x ≤ b := by
  unfold inJ
  rw [Int32.toInt_toInt64, Int32.toInt_toInt64, Int32.toInt_toInt64, Int32.le_iff_toInt_le, Int32.le_iff_toInt_le]
theorem fate_lt (h x : Nat → Int32) : fate h x = 11 ∨ fate h x = 12 ∨ fate h x = 13 := by
  unfold fate
  split
  · simp
  · split <;> simp
theorem inX5_X5_judges : ∀ w ∈ wsX50, w ∈ wsX5_judges := by decide +kernel
abbrev rmX5_judges : Room := { frames := 1, cells := 0, slots := 0, locals := 25 }
set_option maxHeartbeats 4000000 in
set_option maxRecDepth 100000 in
theorem c_X5_judges (g : GE) (l : Launch) {N : Nat} {ad : Nat → Nat} {f : Nat → va_E} {o : Nat} {a kp hs : Nat → Int32} {hl : Int32} {so sv pd : Nat → Int32} {pn sp od wb nb : Int32} (hN : o + 7 ≤ N) {h : Nat → Int32} {d r : List (Nat → Int32)} {x : Nat → Int32} {rs : List (Int32 × Int32)} {ps : List Int32} (hh : rH a h) (hb : rB a (d ++ x :: r)) (hr : rR a rs) (hp : rP a ps) : Ct g l yX5_judges wsX5_judges rmX5_judges N ad [.ref (ad o), .int (nI d.length)] (zM g ad f o a kp hs hl so sv pd pn sp od wb nb) (pV N ad (fun u => ∃ a2, u = (zM g ad f o a2 kp hs hl so sv pd pn sp od wb nb) ∧ rH a2 (upd h (fate h x) (h (fate h x) + 1)) ∧ rB a2 (d ++ x :: r) ∧ rR a2 rs ∧ rP a2 ps)) 0 0 := by
  refine Ct.of (maxL := 4) rfl (by decide +kernel) [some (.ref (ad o)), some (.int (nI d.length)), none, none] (Nat.le_of_ble_eq_true rfl) (by simp [lvo, lv_args, Value.category]) (fun E hnl _ hC hR => ?_)
  have e3 := hh 3 (by decide) (by decide) (by decide) (by decide)
  have e7 := hh 7 (by decide) (by decide) (by decide) (by decide)
  have hlt := hb.lt
  have k3 := hb.get (w := 3) (by decide)
  have k4 := hb.get (w := 4) (by decide)
  refine V_aload_n hC dX5_judges_0 rfl rfl ?_
  refine V_iload_n hC dX5_judges_1 rfl rfl ?_
  refine V_iconst hC 3 dX5_judges_2 (by decide) ?_
  refine V_cvI (n := 2) hC (c_X5_get g (eL E) hN (b := d.length) (w := 3) hlt (by decide)) dX5_judges_3 gX5_judges_X5_get rfl rfl rfl ⟨rfl, rfl⟩ (by decide +kernel) (by decide +kernel) (by omega) zM_0 rfl (Nat.le_of_ble_eq_true rfl) (by decide) (fun x3 u3 h3 => ?_)
  obtain ⟨rfl, rfl⟩ := h3
  refine V_aload_n hC dX5_judges_6 rfl rfl ?_
  refine V_zM_all hC hN dX5_judges_7 inX5_X5_judges (by decide +kernel) ?_
  refine V_iconst hC 3 dX5_judges_10 (by decide) ?_
  refine V_zM_ld1 hC hN (k := 3) dX5_judges_11 (ix_c (by decide)) ?_
  refine V_isub hC dX5_judges_12 ?_
  refine V_istore_n2 hC dX5_judges_13 rfl (by rw [hnl]; decide) rfl ?_
  refine V_aload_n hC dX5_judges_14 rfl rfl ?_
  refine V_iload_n hC dX5_judges_15 rfl rfl ?_
  refine V_iconst hC 3 dX5_judges_16 (by decide) ?_
  refine V_cvI (n := 2) hC (c_X5_get g (eL E) hN (b := d.length) (w := 3) hlt (by decide)) dX5_judges_17 gX5_judges_X5_get rfl rfl rfl ⟨rfl, rfl⟩ (by decide +kernel) (by decide +kernel) (by omega) zM_0 rfl (Nat.le_of_ble_eq_true rfl) (by decide) (fun x17 u17 h17 => ?_)
  obtain ⟨rfl, rfl⟩ := h17
  refine V_bipush hC (-6) dX5_judges_20 (by decide) ?_
  refine V_icmp_ne hC 30 dX5_judges_22 (by decide) (fun c22 => ?_) (fun c22 => ?_)
  · refine V_aload_n hC dX5_judges_30 rfl rfl ?_
    refine V_iload_n hC dX5_judges_31 rfl rfl ?_
    refine V_iconst hC 4 dX5_judges_32 (by decide) ?_
    refine V_cvI (n := 2) hC (c_X5_get g (eL E) hN (b := d.length) (w := 4) hlt (by decide)) dX5_judges_33 gX5_judges_X5_get rfl rfl rfl ⟨rfl, rfl⟩ (by decide +kernel) (by decide +kernel) (by omega) zM_0 rfl (Nat.le_of_ble_eq_true rfl) (by decide) (fun x33 u33 h33 => ?_)
    obtain ⟨rfl, rfl⟩ := h33
    refine V_if_ne hC 69 dX5_judges_36 (by decide) (fun c36 => ?_) (fun c36 => ?_)
    · refine V_bipush hC 12 dX5_judges_69 (by decide) ?_
      refine V_istore_n3 hC dX5_judges_71 rfl (by rw [hnl]; decide) rfl ?_
      refine V_aload_n hC dX5_judges_72 rfl rfl ?_
      refine V_zM_all hC hN dX5_judges_73 inX5_X5_judges (by decide +kernel) ?_
      refine V_iload_n hC dX5_judges_76 rfl rfl ?_
      refine V_dup2 hC dX5_judges_77 rfl rfl ?_
      refine V_zM_ld1 hC hN (k := 12) dX5_judges_78 (ix_c (by decide)) ?_
      refine V_iconst hC 1 dX5_judges_79 (by decide) ?_
      refine V_iadd hC dX5_judges_80 ?_
      refine V_zM_st1 (k := 12) hC hN dX5_judges_81 (ix_c (by decide)) ?_
      refine V_vret hC hR dX5_judges_82 ⟨rfl, rfl, rfl, ?_⟩
      have hf : fate h x = 12 := by rw [k3] at c22; rw [k4] at c36; simp [fate, c22, c36]
      have ek := hh 12 (by decide) (by decide) (by decide) (by decide)
      refine ⟨_, rfl, ?_, hb.off (by decide) (by decide), hr.off (by decide) (by decide), hp.off (by decide) (by decide)⟩
      rw [hf, ek]
      exact hh.at
    · refine V_iload_n hC dX5_judges_39 rfl rfl ?_
      refine V_i2l hC dX5_judges_40 ?_
      refine V_aload_n hC dX5_judges_41 rfl rfl ?_
      refine V_zM_all hC hN dX5_judges_42 inX5_X5_judges (by decide +kernel) ?_
      refine V_bipush hC 7 dX5_judges_45 (by decide) ?_
      refine V_zM_ld1 hC hN (k := 7) dX5_judges_47 (ix_c (by decide)) ?_
      refine V_ineg hC dX5_judges_48 ?_
      refine V_i2l hC dX5_judges_49 ?_
      refine V_aload_n hC dX5_judges_50 rfl rfl ?_
      refine V_zM_all hC hN dX5_judges_51 inX5_X5_judges (by decide +kernel) ?_
      refine V_bipush hC 7 dX5_judges_54 (by decide) ?_
      refine V_zM_ld1 hC hN (k := 7) dX5_judges_56 (ix_c (by decide)) ?_
      refine V_i2l hC dX5_judges_57 ?_
      refine V_csI (n := 3) hC (c_X5_in g (eL E) _ _ _) dX5_judges_58 gX5_judges_X5_in rfl rfl rfl ⟨rfl, rfl⟩ (by decide +kernel) (by decide +kernel) (Nat.le_of_ble_eq_true rfl) (by decide) (fun x58 u58 h58 => ?_)
      rcases h58 with ⟨rfl, hj, rfl⟩ | ⟨rfl, hj, rfl⟩
      · refine V_if_eq_f (tgt := 69) hC dX5_judges_61 (by decide) (by decide) ?_
        refine V_bipush hC 11 dX5_judges_64 (by decide) ?_
        refine V_goto hC 71 dX5_judges_66 (by decide) ?_
        refine V_istore_n3 hC dX5_judges_71 rfl (by rw [hnl]; decide) rfl ?_
        refine V_aload_n hC dX5_judges_72 rfl rfl ?_
        refine V_zM_all hC hN dX5_judges_73 inX5_X5_judges (by decide +kernel) ?_
        refine V_iload_n hC dX5_judges_76 rfl rfl ?_
        refine V_dup2 hC dX5_judges_77 rfl rfl ?_
        refine V_zM_ld1 hC hN (k := 11) dX5_judges_78 (ix_c (by decide)) ?_
        refine V_iconst hC 1 dX5_judges_79 (by decide) ?_
        refine V_iadd hC dX5_judges_80 ?_
        refine V_zM_st1 (k := 11) hC hN dX5_judges_81 (ix_c (by decide)) ?_
        refine V_vret hC hR dX5_judges_82 ⟨rfl, rfl, rfl, ?_⟩
        have hf : fate h x = 11 := by rw [k3] at c22; rw [k4] at c36; rw [inJ_i, k3, e3, e7] at hj; simp [fate, c22, c36, hj]
        have ek := hh 11 (by decide) (by decide) (by decide) (by decide)
        refine ⟨_, rfl, ?_, hb.off (by decide) (by decide), hr.off (by decide) (by decide), hp.off (by decide) (by decide)⟩
        rw [hf, ek]
        exact hh.at
      · refine V_if_eq_t hC 69 dX5_judges_61 (by decide) rfl ?_
        refine V_bipush hC 12 dX5_judges_69 (by decide) ?_
        refine V_istore_n3 hC dX5_judges_71 rfl (by rw [hnl]; decide) rfl ?_
        refine V_aload_n hC dX5_judges_72 rfl rfl ?_
        refine V_zM_all hC hN dX5_judges_73 inX5_X5_judges (by decide +kernel) ?_
        refine V_iload_n hC dX5_judges_76 rfl rfl ?_
        refine V_dup2 hC dX5_judges_77 rfl rfl ?_
        refine V_zM_ld1 hC hN (k := 12) dX5_judges_78 (ix_c (by decide)) ?_
        refine V_iconst hC 1 dX5_judges_79 (by decide) ?_
        refine V_iadd hC dX5_judges_80 ?_
        refine V_zM_st1 (k := 12) hC hN dX5_judges_81 (ix_c (by decide)) ?_
        refine V_vret hC hR dX5_judges_82 ⟨rfl, rfl, rfl, ?_⟩
        have hf : fate h x = 12 := by rw [k3] at c22; rw [k4] at c36; rw [inJ_i, k3, e3, e7] at hj; simp only [fate, c22, c36, if_false, true_and, hj]
        have ek := hh 12 (by decide) (by decide) (by decide) (by decide)
        refine ⟨_, rfl, ?_, hb.off (by decide) (by decide), hr.off (by decide) (by decide), hp.off (by decide) (by decide)⟩
        rw [hf, ek]
        exact hh.at
  · refine V_bipush hC 13 dX5_judges_25 (by decide) ?_
    refine V_goto hC 71 dX5_judges_27 (by decide) ?_
    refine V_istore_n3 hC dX5_judges_71 rfl (by rw [hnl]; decide) rfl ?_
    refine V_aload_n hC dX5_judges_72 rfl rfl ?_
    refine V_zM_all hC hN dX5_judges_73 inX5_X5_judges (by decide +kernel) ?_
    refine V_iload_n hC dX5_judges_76 rfl rfl ?_
    refine V_dup2 hC dX5_judges_77 rfl rfl ?_
    refine V_zM_ld1 hC hN (k := 13) dX5_judges_78 (ix_c (by decide)) ?_
    refine V_iconst hC 1 dX5_judges_79 (by decide) ?_
    refine V_iadd hC dX5_judges_80 ?_
    refine V_zM_st1 (k := 13) hC hN dX5_judges_81 (ix_c (by decide)) ?_
    refine V_vret hC hR dX5_judges_82 ⟨rfl, rfl, rfl, ?_⟩
    have hf : fate h x = 13 := by rw [k3] at c22; simp [fate, c22]
    have ek := hh 13 (by decide) (by decide) (by decide) (by decide)
    refine ⟨_, rfl, ?_, hb.off (by decide) (by decide), hr.off (by decide) (by decide), hp.off (by decide) (by decide)⟩
    rw [hf, ek]
    exact hh.at
theorem i32_rc (a b c : Int32) : a + b + c = a + c + b := by rw [Int32.add_assoc, Int32.add_comm b c, ← Int32.add_assoc]
theorem outOne_left (h x : Nat → Int32) (hx : isOut x = true) : sLeft (outOne h x) = sLeft h + 1 := by
  unfold outOne sLeft
  rw [if_pos hx]
  rcases fate_lt h x with e | e | e <;> rw [e] <;> simp only [upd] <;> simp
  · rw [i32_rc (h 11) 1 (h 12), i32_rc (h 11 + h 12) 1 (h 13)]
  · rw [← Int32.add_assoc, i32_rc (h 11 + h 12) 1 (h 13)]
  · rw [Int32.add_assoc (h 11 + h 12)]
theorem hMove_left (h : Nat → Int32) : sLeft (hMove h) = sLeft h := by simp [sLeft, hMove]
theorem mMark_left (q : (Nat → Int32) × List (Nat → Int32)) : sLeft (mMark q).1 = sLeft q.1 := by
  unfold mMark
  split
  · simp [sLeft, upd]
  · split
    · simp [sLeft, upd, hTaken]
    · simp only [sLeft, hMarked, hTaken]
      split <;> simp [upd]
theorem doOne_left (ps : List Int32) : ∀ q : (Nat → Int32) × List (Nat → Int32), sLeft (ps.foldl doOne q).1 = sLeft q.1 := by
  induction ps with
  | nil => intro q; rfl
  | cons p ps ih =>
    intro q
    rw [List.foldl_cons, ih]
    unfold doOne
    split
    · exact mMark_left q
    · rfl
theorem doOne_under (ps : List Int32) : ∀ q : (Nat → Int32) × List (Nat → Int32), (ps.foldl doOne q).2.map isUnder = q.2.map isUnder := by
  induction ps with
  | nil => intro q; rfl
  | cons p ps ih =>
    intro q
    rw [List.foldl_cons, ih]
    unfold doOne
    split
    · exact mMark_under q.1 q.2
    · rfl
theorem xSee_under (x : Nat → Int32) : isUnder (xSee x) = isUnder x := by
  unfold xSee isUnder
  split <;> simp [upd]
theorem mSee_under (m : MT) : (mSee m).2.1.map isUnder = m.2.1.map isUnder := by
  simp [mSee, xSee_under]
theorem inX5_X5_ticksOn : ∀ w ∈ wsX50, w ∈ wsX5_ticksOn := by decide +kernel
abbrev rmX5_ticksOn : Room := { frames := 5, cells := 0, slots := 0, locals := 107 }
set_option maxHeartbeats 4000000 in
set_option maxRecDepth 100000 in
theorem c_X5_ticksOn (g : GE) (l : Launch) {N : Nat} {ad : Nat → Nat} {f : Nat → va_E} {o : Nat} {a kp hs : Nat → Int32} {hl : Int32} {so sv pd : Nat → Int32} {pn sp od wb nb : Int32} (hN : o + 7 ≤ N) {h0 : Nat → Int32} {bs : List (Nat → Int32)} {rs : List (Int32 × Int32)} {ps : List Int32} (hh : rH a h0) (hb : rB a bs) (hr : rR a rs) (hp : rP a ps) (hok : TickOK (h0, bs, rs, ps)) : Ct g l yX5_ticksOn wsX5_ticksOn rmX5_ticksOn N ad [.ref (ad o)] (zM g ad f o a kp hs hl so sv pd pn sp od wb nb) (pI N ad (fun x u => x = sLeft (mTick (h0, bs, rs, ps)).1 - sLeft h0 ∧ ∃ a2, u = (zM g ad f o a2 kp hs hl so sv pd pn sp od wb nb) ∧ RepR a2 (mTick (h0, bs, rs, ps)))) 0 0 := by
  refine Ct.of (maxL := 4) rfl (by decide +kernel) [some (.ref (ad o)), none, none, none] (Nat.le_of_ble_eq_true rfl) (by simp [lvo, lv_args, Value.category]) (fun E hnl _ hC hR => ?_)
  obtain ⟨hc1, ⟨G, hG, hg⟩, hU⟩ := hok
  have hc1 : rs.length + ((mMove (h0, bs, rs, ps)).2.1.filter unseen).length + ps.length ≤ 28 := hc1
  obtain ⟨m4, hm4⟩ : ∃ z, z = mFeed (mDo (mTake (mCount (mSee (mMove (h0, bs, rs, ps)))))) := ⟨_, rfl⟩
  have hleft : sLeft m4.1 = sLeft h0 := by
    rw [hm4]
    show sLeft (hFeed (((mTake (mCount (mSee (mMove (h0, bs, rs, ps))))).2.2.2).foldl doOne (hMove h0, (mSee (mMove (h0, bs, rs, ps))).2.1)).1) = sLeft h0
    rw [show ∀ q : Nat → Int32, sLeft (hFeed q) = sLeft q from fun q => by simp [sLeft, hFeed, upd], doOne_left, hMove_left]
  have loop : ∀ (r d : List (Nat → Int32)) (a h : Nat → Int32) (lf : Nat) (w1 : Int32), d ++ r.filter (fun x => !isOut x) = m4.2.1.filter (fun x => !isOut x) → r.foldl outOne h = m4.2.1.foldl outOne m4.1 → sLeft h = sLeft m4.1 + nI lf → rH a h → rB a (d ++ r) → rR a m4.2.2.1 → rP a m4.2.2.2 → V E g N ad 0 0 (zM g ad f o a kp hs hl so sv pd pn sp od wb nb) 63 [some (.ref (ad o)), some (.int (w1)), some (.int (nI lf)), some (.int (nI d.length))] [] := by
    intro r
    induction r with
    | nil =>
      intro d a h lf w1 ht hq hs hh hb hr hp
      refine V_iload_n hC dX5_ticksOn_63 rfl rfl ?_
      refine V_aload_n hC dX5_ticksOn_64 rfl rfl ?_
      refine V_zM_all hC hN dX5_ticksOn_65 inX5_X5_ticksOn (by decide +kernel) ?_
      refine V_bipush hC 9 dX5_ticksOn_68 (by decide) ?_
      refine V_zM_ld1 hC hN (k := 9) dX5_ticksOn_70 (ix_c (by decide)) ?_
      refine V_icmp_ge_t hC 128 dX5_ticksOn_71 (by decide) (lp_end hb.1 (Nat.le_trans hb.2.1 (by decide))) ?_
      refine V_aload_n hC dX5_ticksOn_128 rfl rfl ?_
      refine V_zM_all hC hN dX5_ticksOn_129 inX5_X5_ticksOn (by decide +kernel) ?_
      refine V_bipush hC 8 dX5_ticksOn_132 (by decide) ?_
      refine V_dup2 hC dX5_ticksOn_134 rfl rfl ?_
      refine V_zM_ld1 hC hN (k := 8) dX5_ticksOn_135 (ix_c (by decide)) ?_
      refine V_iconst hC 1 dX5_ticksOn_136 (by decide) ?_
      refine V_iadd hC dX5_ticksOn_137 ?_
      refine V_zM_st1 (k := 8) hC hN dX5_ticksOn_138 (ix_c (by decide)) ?_
      refine V_iload_n hC dX5_ticksOn_139 rfl rfl ?_
      refine V_iret hC hR dX5_ticksOn_140 ⟨rfl, rfl, _, rfl, ?_⟩
      rw [List.append_nil] at hb
      simp only [List.filter_nil, List.append_nil] at ht
      rw [List.foldl_nil] at hq
      have e8 := hh 8 (by decide) (by decide) (by decide) (by decide)
      have q1 : (mTick (h0, bs, rs, ps)).1 = upd h 8 (h 8 + 1) := by show upd (mLeave (mFeed (mDo (mTake (mCount (mSee (mMove (h0, bs, rs, ps)))))))).1 8 ((mLeave (mFeed (mDo (mTake (mCount (mSee (mMove (h0, bs, rs, ps)))))))).1 8 + 1) = _; rw [← hm4]; show upd (m4.2.1.foldl outOne m4.1) 8 ((m4.2.1.foldl outOne m4.1) 8 + 1) = _; rw [← hq]
      have q2 : (mTick (h0, bs, rs, ps)).2.1 = d := by show (mLeave (mFeed (mDo (mTake (mCount (mSee (mMove (h0, bs, rs, ps)))))))).2.1 = d; rw [← hm4]; exact ht.symm
      have q3 : (mTick (h0, bs, rs, ps)).2.2 = m4.2.2 := by show (mLeave (mFeed (mDo (mTake (mCount (mSee (mMove (h0, bs, rs, ps)))))))).2.2 = _; rw [← hm4]; rfl
      refine ⟨?_, _, rfl, ?_, ?_, ?_, ?_⟩
      · rw [q1, show sLeft (upd h 8 (h 8 + 1)) = sLeft h by simp [sLeft, upd], hs, hleft, Int32.add_comm, Int32.add_sub_cancel]
      · rw [q1, e8]
        exact hh.at
      · rw [q2]
        exact hb.off (by decide) (by decide)
      · rw [q3]
        exact hr.off (by decide) (by decide)
      · rw [q3]
        exact hp.off (by decide) (by decide)
    | cons x r ih =>
      intro d a h lf w1 ht hq hs hh hb hr hp
      have hlt := hb.lt
      have k0 := hb.get (w := 0) (by decide)
      have k1 := hb.get (w := 1) (by decide)
      rw [List.foldl_cons] at hq
      refine V_iload_n hC dX5_ticksOn_63 rfl rfl ?_
      refine V_aload_n hC dX5_ticksOn_64 rfl rfl ?_
      refine V_zM_all hC hN dX5_ticksOn_65 inX5_X5_ticksOn (by decide +kernel) ?_
      refine V_bipush hC 9 dX5_ticksOn_68 (by decide) ?_
      refine V_zM_ld1 hC hN (k := 9) dX5_ticksOn_70 (ix_c (by decide)) ?_
      refine V_icmp_ge_f (tgt := 128) hC dX5_ticksOn_71 (by decide) (lp_go hb.1 (Nat.le_trans hb.2.1 (by decide))) ?_
      refine V_aload_n hC dX5_ticksOn_74 rfl rfl ?_
      refine V_iload_n hC dX5_ticksOn_75 rfl rfl ?_
      refine V_cvI (n := 1) hC (c_X5_back g (eL E) hN (b := d.length) hlt) dX5_ticksOn_76 gX5_ticksOn_X5_back rfl rfl rfl ⟨rfl, rfl⟩ (by decide +kernel) (by decide +kernel) (by omega) zM_0 rfl (Nat.le_of_ble_eq_true rfl) (by decide) (fun x76 u76 h76 => ?_)
      obtain ⟨rfl, rfl⟩ := h76
      refine V_bipush hC 100 dX5_ticksOn_79 (by decide) ?_
      refine V_icmp_lt hC 122 dX5_ticksOn_81 (by decide) (fun c81 => ?_) (fun c81 => ?_)
      · have hu : isOut x = false := by rw [k0, k1] at c81; simp [isOut]; exact c81
        refine V_iinc3 hC (nI (d ++ [x]).length) dX5_ticksOn_122 len_s (by rw [hnl]; decide) rfl ?_
        refine V_goto hC 63 dX5_ticksOn_125 (by decide) ?_
        simp only [List.filter_cons, hu, Bool.not_false, if_true] at ht
        simp only [outOne, hu, Bool.false_eq_true, if_false] at hq
        exact ih (d ++ [x]) a h lf w1 (by rw [List.append_assoc]; exact ht) hq hs hh (by rw [List.append_assoc]; exact hb) hr hp
      · have hu : isOut x = true := by rw [k0, k1] at c81; simp [isOut]; exact Int32.not_lt.mp c81
        refine V_aload_n hC dX5_ticksOn_84 rfl rfl ?_
        refine V_iload_n hC dX5_ticksOn_85 rfl rfl ?_
        refine V_cvV (n := 1) hC (c_X5_judges g (eL E) hN hh hb hr hp) dX5_ticksOn_86 gX5_ticksOn_X5_judges rfl rfl rfl ⟨rfl, rfl⟩ (by decide +kernel) (by decide +kernel) (by omega) zM_0 rfl (Nat.le_of_ble_eq_true rfl) (by decide) (fun u86 h86 => ?_)
        obtain ⟨a2, rfl, hh2, hb2, hr2, hp2⟩ := h86
        refine V_aload_n hC dX5_ticksOn_89 rfl rfl ?_
        refine V_bipush hC 27 dX5_ticksOn_90 (by decide) ?_
        refine V_bipush hC 6 dX5_ticksOn_92 (by decide) ?_
        refine V_aload_n hC dX5_ticksOn_94 rfl rfl ?_
        refine V_zM_all hC hN dX5_ticksOn_95 inX5_X5_ticksOn (by decide +kernel) ?_
        refine V_bipush hC 9 dX5_ticksOn_98 (by decide) ?_
        refine V_zM_ld1 hC hN (k := 9) dX5_ticksOn_100 (ix_c (by decide)) ?_
        refine V_eqt (nI (d ++ x :: r).length) hb2.1 ?_
        refine V_iload_n hC dX5_ticksOn_101 rfl rfl ?_
        refine V_cvV (n := 4) hC (c_X5_takesOut g (eL E) hN (fr := 27) (ea := 6) (mn := (d ++ x :: r).length) (pl := d.length) (by decide) (by simp only [List.length_append, List.length_cons]; omega) (by simp only [List.length_append, List.length_cons]; omega) (by have := hb.2.1; simp only [List.length_append, List.length_cons] at this ⊢; omega)) dX5_ticksOn_102 gX5_ticksOn_X5_takesOut rfl rfl rfl ⟨rfl, rfl⟩ (by decide +kernel) (by decide +kernel) (by omega) zM_0 rfl (Nat.le_of_ble_eq_true rfl) (by decide) (fun u102 h102 => ?_)
        obtain rfl := h102
        refine V_aload_n hC dX5_ticksOn_105 rfl rfl ?_
        refine V_zM_all hC hN dX5_ticksOn_106 inX5_X5_ticksOn (by decide +kernel) ?_
        refine V_bipush hC 9 dX5_ticksOn_109 (by decide) ?_
        refine V_dup2 hC dX5_ticksOn_111 rfl rfl ?_
        refine V_zM_ld1 hC hN (k := 9) dX5_ticksOn_112 (ix_c (by decide)) ?_
        refine V_iconst hC 1 dX5_ticksOn_113 (by decide) ?_
        refine V_isub hC dX5_ticksOn_114 ?_
        refine V_zM_st1 (k := 9) hC hN dX5_ticksOn_115 (ix_c (by decide)) ?_
        refine V_iinc2 hC (nI (lf + 1)) dX5_ticksOn_116 (nI_1 lf) (by rw [hnl]; decide) rfl ?_
        refine V_goto hC 63 dX5_ticksOn_119 (by decide) ?_
        simp only [List.filter_cons, hu, Bool.not_true, Bool.false_eq_true, if_false] at ht
        have hls := outOne_left h x hu
        simp only [outOne, hu, if_true] at hq hls
        refine ih d _ _ (lf + 1) w1 ht hq (by rw [hls, hs, Int32.add_assoc, nI_1]) ((hh2.tko (by omega)).off (by omega)) (hb2.cut (by rw [tko_out (by omega), hb2.1]; exact len_p)) ((hr2.tko (by have := hb.2.1; simp only [List.length_append, List.length_cons] at this ⊢; omega)).off (by decide) (by omega)) ((hp2.tko (by have := hb.2.1; simp only [List.length_append, List.length_cons] at this ⊢; omega)).off (by decide) (by omega))
  refine V_aload_n hC dX5_ticksOn_0 rfl rfl ?_
  refine V_cvV (n := 0) hC (c_X5_moves g (eL E) hN hh hb hr hp) dX5_ticksOn_1 gX5_ticksOn_X5_moves rfl rfl rfl ⟨rfl, rfl⟩ (by decide +kernel) (by decide +kernel) (by omega) zM_0 rfl (Nat.le_of_ble_eq_true rfl) (by decide) (fun u1 h1 => ?_)
  obtain ⟨a1, rfl, g1, g2, g3, g4⟩ := h1
  refine V_aload_n hC dX5_ticksOn_4 rfl rfl ?_
  refine V_cvV (n := 0) hC (c_X5_sees g (eL E) hN g1 g2 g3 g4 (by show rs.length + ((mMove (h0, bs, rs, ps)).2.1.filter unseen).length ≤ 28; omega)) dX5_ticksOn_5 gX5_ticksOn_X5_sees rfl rfl rfl ⟨rfl, rfl⟩ (by decide +kernel) (by decide +kernel) (by omega) zM_0 rfl (Nat.le_of_ble_eq_true rfl) (by decide) (fun u5 h5 => ?_)
  obtain ⟨a2, rfl, i1, i2, i3, i4⟩ := h5
  refine V_aload_n hC dX5_ticksOn_8 rfl rfl ?_
  refine V_cvV (n := 0) hC (c_X5_plans g (eL E) hN i1 i2 i3 i4 (G := G) hG (by show hMove h0 2 = nI G; rw [← hg]; rfl) (by show (rs ++ List.map _ _).length + ps.length ≤ 28; rw [List.length_append, List.length_map]; omega)) dX5_ticksOn_9 gX5_ticksOn_X5_plans rfl rfl rfl ⟨rfl, rfl⟩ (by decide +kernel) (by decide +kernel) (by omega) zM_0 rfl (Nat.le_of_ble_eq_true rfl) (by decide) (fun u9 h9 => ?_)
  obtain ⟨a3, rfl, j1, j2, j3, j4⟩ := h9
  have hU4 : oneU (mTake (mCount (mSee (mMove (h0, bs, rs, ps))))).2.1 := by show List.Pairwise _ ((mSee (mMove (h0, bs, rs, ps))).2.1.map isUnder); rw [mSee_under]; exact hU
  refine V_aload_n hC dX5_ticksOn_12 rfl rfl ?_
  refine V_cvV (n := 0) hC (c_X5_doesPlans g (eL E) hN j1 j2 j3 j4 hU4) dX5_ticksOn_13 gX5_ticksOn_X5_doesPlans rfl rfl rfl ⟨rfl, rfl⟩ (by decide +kernel) (by decide +kernel) (by omega) zM_0 rfl (Nat.le_of_ble_eq_true rfl) (by decide) (fun u13 h13 => ?_)
  obtain ⟨a4, rfl, k1, k2, k3, k4⟩ := h13
  have f18 := k1 18 (by decide) (by decide) (by decide) (by decide)
  have f6 := k1 6 (by decide) (by decide) (by decide) (by decide)
  have f5 := k1 5 (by decide) (by decide) (by decide) (by decide)
  refine V_aload_n hC dX5_ticksOn_16 rfl rfl ?_
  refine V_zM_all hC hN dX5_ticksOn_17 inX5_X5_ticksOn (by decide +kernel) ?_
  refine V_bipush hC 18 dX5_ticksOn_20 (by decide) ?_
  refine V_zM_ld1 hC hN (k := 18) dX5_ticksOn_22 (ix_c (by decide)) ?_
  refine V_aload_n hC dX5_ticksOn_23 rfl rfl ?_
  refine V_zM_all hC hN dX5_ticksOn_24 inX5_X5_ticksOn (by decide +kernel) ?_
  refine V_bipush hC 6 dX5_ticksOn_27 (by decide) ?_
  refine V_zM_ld1 hC hN (k := 6) dX5_ticksOn_29 (ix_c (by decide)) ?_
  refine V_iadd hC dX5_ticksOn_30 ?_
  refine V_istore_n1 hC dX5_ticksOn_31 rfl (by rw [hnl]; decide) rfl ?_
  refine V_aload_n hC dX5_ticksOn_32 rfl rfl ?_
  refine V_zM_all hC hN dX5_ticksOn_33 inX5_X5_ticksOn (by decide +kernel) ?_
  refine V_bipush hC 18 dX5_ticksOn_36 (by decide) ?_
  refine V_iload_n hC dX5_ticksOn_38 rfl rfl ?_
  refine V_aload_n hC dX5_ticksOn_39 rfl rfl ?_
  refine V_zM_all hC hN dX5_ticksOn_40 inX5_X5_ticksOn (by decide +kernel) ?_
  refine V_iconst hC 5 dX5_ticksOn_43 (by decide) ?_
  refine V_zM_ld1 hC hN (k := 5) dX5_ticksOn_44 (ix_c (by decide)) ?_
  refine V_icmp_le hC 57 dX5_ticksOn_45 (by decide) (fun c45 => ?_) (fun c45 => ?_)
  · have hfe : hFeed (mDo (mTake (mCount (mSee (mMove (h0, bs, rs, ps)))))).1 = upd (mDo (mTake (mCount (mSee (mMove (h0, bs, rs, ps)))))).1 18 (a4 18 + a4 6) := by
      rw [f18, f6, f5] at c45
      unfold hFeed
      rw [f18, f6, if_neg (Int32.not_lt.mpr c45)]
    refine V_iload_n hC dX5_ticksOn_57 rfl rfl ?_
    refine V_zM_st1 (k := 18) hC hN dX5_ticksOn_58 (ix_c (by decide)) ?_
    refine V_iconst hC 0 dX5_ticksOn_59 (by decide) ?_
    refine V_istore_n2 hC dX5_ticksOn_60 rfl (by rw [hnl]; decide) rfl ?_
    refine V_iconst hC 0 dX5_ticksOn_61 (by decide) ?_
    refine V_istore_n3 hC dX5_ticksOn_62 rfl (by rw [hnl]; decide) rfl ?_
    refine loop m4.2.1 [] _ m4.1 0 _ rfl rfl (by rw [show nI 0 = 0 from rfl, Int32.add_zero]) ?_ ?_ ?_ ?_
    · rw [hm4]
      show rH _ (hFeed (mDo (mTake (mCount (mSee (mMove (h0, bs, rs, ps)))))).1)
      rw [hfe]
      exact k1.at
    · rw [hm4]
      exact k2.off (by decide) (by decide)
    · rw [hm4]
      exact k3.off (by decide) (by decide)
    · rw [hm4]
      exact k4.off (by decide) (by decide)
  · have hfe : hFeed (mDo (mTake (mCount (mSee (mMove (h0, bs, rs, ps)))))).1 = upd (mDo (mTake (mCount (mSee (mMove (h0, bs, rs, ps)))))).1 18 (a4 5) := by
      rw [f18, f6, f5] at c45
      unfold hFeed
      rw [f5, if_pos (Int32.not_le.mp c45)]
    refine V_aload_n hC dX5_ticksOn_48 rfl rfl ?_
    refine V_zM_all hC hN dX5_ticksOn_49 inX5_X5_ticksOn (by decide +kernel) ?_
    refine V_iconst hC 5 dX5_ticksOn_52 (by decide) ?_
    refine V_zM_ld1 hC hN (k := 5) dX5_ticksOn_53 (ix_c (by decide)) ?_
    refine V_goto hC 58 dX5_ticksOn_54 (by decide) ?_
    refine V_zM_st1 (k := 18) hC hN dX5_ticksOn_58 (ix_c (by decide)) ?_
    refine V_iconst hC 0 dX5_ticksOn_59 (by decide) ?_
    refine V_istore_n2 hC dX5_ticksOn_60 rfl (by rw [hnl]; decide) rfl ?_
    refine V_iconst hC 0 dX5_ticksOn_61 (by decide) ?_
    refine V_istore_n3 hC dX5_ticksOn_62 rfl (by rw [hnl]; decide) rfl ?_
    refine loop m4.2.1 [] _ m4.1 0 _ rfl rfl (by rw [show nI 0 = 0 from rfl, Int32.add_zero]) ?_ ?_ ?_ ?_
    · rw [hm4]
      show rH _ (hFeed (mDo (mTake (mCount (mSee (mMove (h0, bs, rs, ps)))))).1)
      rw [hfe]
      exact k1.at
    · rw [hm4]
      exact k2.off (by decide) (by decide)
    · rw [hm4]
      exact k3.off (by decide) (by decide)
    · rw [hm4]
      exact k4.off (by decide) (by decide)
theorem sub_tele (a b c : Int32) : a - b + (b - c) = a - c := by
  rw [Int32.sub_eq_add_neg, Int32.sub_eq_add_neg, Int32.sub_eq_add_neg, Int32.add_assoc, ← Int32.add_assoc (-b), Int32.add_left_neg, Int32.zero_add]
theorem inX5_X5_passes : ∀ w ∈ wsX50, w ∈ wsX5_passes := by decide +kernel
abbrev rmX5_passes : Room := { frames := 6, cells := 0, slots := 0, locals := 130 }
set_option maxHeartbeats 4000000 in
set_option maxRecDepth 100000 in
theorem c_X5_passes (g : GE) (l : Launch) {N : Nat} {ad : Nat → Nat} {f : Nat → va_E} {o : Nat} {a kp hs : Nat → Int32} {hl : Int32} {so sv pd : Nat → Int32} {pn sp od wb nb : Int32} (hN : o + 7 ≤ N) {n : Nat} {m0 : MT} (hn : n < 2 ^ 31) (hm : RepR a m0) (hok : TicksOK n m0) : Ct g l yX5_passes wsX5_passes rmX5_passes N ad [.ref (ad o), .int (nI n)] (zM g ad f o a kp hs hl so sv pd pn sp od wb nb) (pI N ad (fun x u => x = sLeft (mTicks n m0).1 - sLeft m0.1 ∧ ∃ a2, u = (zM g ad f o a2 kp hs hl so sv pd pn sp od wb nb) ∧ RepR a2 (mTicks n m0))) 0 0 := by
  refine Ct.of (maxL := 4) rfl (by decide +kernel) [some (.ref (ad o)), some (.int (nI n)), none, none] (Nat.le_of_ble_eq_true rfl) (by simp [lvo, lv_args, Value.category]) (fun E hnl _ hC hR => ?_)
  have loop : ∀ (j k : Nat) (a : Nat → Int32) (m : MT) (lf : Int32), k + j = n → TicksOK j m → mTicks j m = mTicks n m0 → lf = sLeft m.1 - sLeft m0.1 → RepR a m → V E g N ad 0 0 (zM g ad f o a kp hs hl so sv pd pn sp od wb nb) 4 [some (.ref (ad o)), some (.int (nI n)), some (.int (lf)), some (.int (nI k))] [] := by
    intro j
    induction j with
    | zero =>
      intro k a m lf hk hok he hl hm
      have hk : k = n := by omega
      subst hk
      refine V_iload_n hC dX5_passes_4 rfl rfl ?_
      refine V_iload_n hC dX5_passes_5 rfl rfl ?_
      refine V_icmp_ge_t hC 22 dX5_passes_6 (by decide) (Int32.le_refl _) ?_
      refine V_iload_n hC dX5_passes_22 rfl rfl ?_
      refine V_iret hC hR dX5_passes_23 ⟨rfl, rfl, _, rfl, ?_⟩
      have he : m = mTicks k m0 := he
      subst he
      exact ⟨hl, _, rfl, hm⟩
    | succ j ih =>
      intro k a m lf hk hok he hl hm
      refine V_iload_n hC dX5_passes_4 rfl rfl ?_
      refine V_iload_n hC dX5_passes_5 rfl rfl ?_
      refine V_icmp_ge_f (tgt := 22) hC dX5_passes_6 (by decide) (nI_ge (by omega) hn) ?_
      refine V_iload_n hC dX5_passes_9 rfl rfl ?_
      refine V_aload_n hC dX5_passes_10 rfl rfl ?_
      refine V_cvI (n := 0) hC (c_X5_ticksOn g (eL E) hN hm.1 hm.2.1 hm.2.2.1 hm.2.2.2 (hok 0 (by omega))) dX5_passes_11 gX5_passes_X5_ticksOn rfl rfl rfl ⟨rfl, rfl⟩ (by decide +kernel) (by decide +kernel) (by omega) zM_0 rfl (Nat.le_of_ble_eq_true rfl) (by decide) (fun x11 u11 h11 => ?_)
      obtain ⟨rfl, a2, rfl, hm2⟩ := h11
      refine V_iadd hC dX5_passes_14 ?_
      refine V_eqt (sLeft (mTick m).1 - sLeft m0.1) (by rw [hl, Int32.add_comm]; exact sub_tele _ _ _) ?_
      refine V_istore_n2 hC dX5_passes_15 rfl (by rw [hnl]; decide) rfl ?_
      refine V_iinc3 hC (nI (k + 1)) dX5_passes_16 (nI_1 k) (by rw [hnl]; decide) rfl ?_
      refine V_goto hC 4 dX5_passes_19 (by decide) ?_
      exact ih (k + 1) a2 (mTick m) _ (by omega) (fun i hi => hok (i + 1) (by omega)) he rfl hm2
  refine V_iconst hC 0 dX5_passes_0 (by decide) ?_
  refine V_istore_n2 hC dX5_passes_1 rfl (by rw [hnl]; decide) rfl ?_
  refine V_iconst hC 0 dX5_passes_2 (by decide) ?_
  refine V_istore_n3 hC dX5_passes_3 rfl (by rw [hnl]; decide) rfl ?_
  exact loop n 0 a m0 0 (by omega) hok rfl (by rw [Int32.sub_self]) hm
end
