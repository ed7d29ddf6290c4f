set_option maxRecDepth 20000 in
theorem ggX4_init_X0_init : GoodIn wsX4_init wsX0_init := goodIn_r _ [22, 23, 2, 3, 24, 25, 26, 27, 28, 29, 30, 31, 32, 33, 34, 35, 36, 37, 38, 39, 40, 41, 42, 43, 44, 57, 58, 59, 60, 61, 62, 63, 64, 65, 66, 78, 79, 80, 81, 82, 83, 84] (by decide +kernel) (by decide +kernel)
set_option maxRecDepth 20000 in
theorem gX4_init_X0_init : GoodIn wsX4_init (wsX0_init) := ggX4_init_X0_init
set_option maxRecDepth 20000 in
theorem ggX4_init_X2_init : GoodIn wsX4_init wsX2_init := goodIn_r _ [47, 48, 2, 3, 49, 50, 5, 6, 51, 21, 22, 23, 24, 25, 26, 27, 28, 29, 30, 31, 32, 33, 34, 35, 36, 37, 38, 39, 40, 41, 42, 43, 44, 73, 74, 75, 57, 58, 59, 60, 61, 62, 63, 64, 65, 66, 78, 79, 80, 81, 82, 83, 84] (by decide +kernel) (by decide +kernel)
set_option maxRecDepth 20000 in
theorem gX4_init_X2_init : GoodIn wsX4_init (wsX2_init) := ggX4_init_X2_init
set_option maxRecDepth 20000 in
theorem ggX4_init_X3_init : GoodIn wsX4_init wsX3_init := goodIn_r _ [53, 54, 2, 3, 55, 56, 76, 77] (by decide +kernel) (by decide +kernel)
set_option maxRecDepth 20000 in
theorem gX4_init_X3_init_n36 : GoodIn wsX4_init (wsX3_init) := ggX4_init_X3_init
theorem dX4_init_0 : decode cX4_init 0 = .ok (.aload_n 0, 1) := by decide +kernel
theorem dX4_init_1 : decode cX4_init 1 = .ok (.invokespecial 1, 3) := by decide +kernel
theorem dX4_init_4 : decode cX4_init 4 = .ok (.aload_n 0, 1) := by decide +kernel
theorem dX4_init_5 : decode cX4_init 5 = .ok (.new 7, 3) := by decide +kernel
theorem dX4_init_8 : decode cX4_init 8 = .ok (.dup, 1) := by decide +kernel
theorem dX4_init_9 : decode cX4_init 9 = .ok (.invokespecial 9, 3) := by decide +kernel
theorem dX4_init_12 : decode cX4_init 12 = .ok (.putfield 10, 3) := by decide +kernel
theorem dX4_init_15 : decode cX4_init 15 = .ok (.aload_n 0, 1) := by decide +kernel
theorem dX4_init_16 : decode cX4_init 16 = .ok (.new 7, 3) := by decide +kernel
theorem dX4_init_19 : decode cX4_init 19 = .ok (.dup, 1) := by decide +kernel
theorem dX4_init_20 : decode cX4_init 20 = .ok (.invokespecial 9, 3) := by decide +kernel
theorem dX4_init_23 : decode cX4_init 23 = .ok (.putfield 16, 3) := by decide +kernel
theorem dX4_init_26 : decode cX4_init 26 = .ok (.aload_n 0, 1) := by decide +kernel
theorem dX4_init_27 : decode cX4_init 27 = .ok (.new 19, 3) := by decide +kernel
theorem dX4_init_30 : decode cX4_init 30 = .ok (.dup, 1) := by decide +kernel
theorem dX4_init_31 : decode cX4_init 31 = .ok (.invokespecial 21, 3) := by decide +kernel
theorem dX4_init_34 : decode cX4_init 34 = .ok (.putfield 22, 3) := by decide +kernel
theorem dX4_init_37 : decode cX4_init 37 = .ok (.aload_n 0, 1) := by decide +kernel
theorem dX4_init_38 : decode cX4_init 38 = .ok (.iconst 2, 1) := by decide +kernel
theorem dX4_init_39 : decode cX4_init 39 = .ok (.anewarray 7, 3) := by decide +kernel
theorem dX4_init_42 : decode cX4_init 42 = .ok (.dup, 1) := by decide +kernel
theorem dX4_init_43 : decode cX4_init 43 = .ok (.iconst 0, 1) := by decide +kernel
theorem dX4_init_44 : decode cX4_init 44 = .ok (.new 7, 3) := by decide +kernel
theorem dX4_init_47 : decode cX4_init 47 = .ok (.dup, 1) := by decide +kernel
theorem dX4_init_48 : decode cX4_init 48 = .ok (.invokespecial 9, 3) := by decide +kernel
theorem dX4_init_51 : decode cX4_init 51 = .ok (.aastore, 1) := by decide +kernel
theorem dX4_init_52 : decode cX4_init 52 = .ok (.dup, 1) := by decide +kernel
theorem dX4_init_53 : decode cX4_init 53 = .ok (.iconst 1, 1) := by decide +kernel
theorem dX4_init_54 : decode cX4_init 54 = .ok (.new 7, 3) := by decide +kernel
theorem dX4_init_57 : decode cX4_init 57 = .ok (.dup, 1) := by decide +kernel
theorem dX4_init_58 : decode cX4_init 58 = .ok (.invokespecial 9, 3) := by decide +kernel
theorem dX4_init_61 : decode cX4_init 61 = .ok (.aastore, 1) := by decide +kernel
theorem dX4_init_62 : decode cX4_init 62 = .ok (.putfield 26, 3) := by decide +kernel
theorem dX4_init_65 : decode cX4_init 65 = .ok (.aload_n 0, 1) := by decide +kernel
theorem dX4_init_66 : decode cX4_init 66 = .ok (.aload_n 0, 1) := by decide +kernel
theorem dX4_init_67 : decode cX4_init 67 = .ok (.getfield 26, 3) := by decide +kernel
theorem dX4_init_70 : decode cX4_init 70 = .ok (.arraylength, 1) := by decide +kernel
theorem dX4_init_71 : decode cX4_init 71 = .ok (.newarray .boolean, 2) := by decide +kernel
theorem dX4_init_73 : decode cX4_init 73 = .ok (.putfield 30, 3) := by decide +kernel
theorem dX4_init_76 : decode cX4_init 76 = .ok (.aload_n 0, 1) := by decide +kernel
theorem dX4_init_77 : decode cX4_init 77 = .ok (.new 34, 3) := by decide +kernel
theorem dX4_init_80 : decode cX4_init 80 = .ok (.dup, 1) := by decide +kernel
theorem dX4_init_81 : decode cX4_init 81 = .ok (.invokespecial 36, 3) := by decide +kernel
theorem dX4_init_84 : decode cX4_init 84 = .ok (.putfield 37, 3) := by decide +kernel
theorem dX4_init_87 : decode cX4_init 87 = .ok (.return_, 1) := by decide +kernel
set_option maxRecDepth 20000 in
theorem ggX4_set_X2_note : GoodIn wsX4_set wsX2_note := goodIn_r _ [7, 8, 9, 10, 11, 6, 12, 13, 14, 15, 16, 17, 18, 19, 20, 21, 22, 23, 24, 25, 26, 27, 28, 29, 30, 31, 32, 33, 34, 35, 36, 37, 38, 39, 40, 41, 42, 43, 44, 45, 46, 47, 48, 49, 71, 72, 73, 74, 75, 76, 77, 78, 79, 80, 81, 82, 83, 84, 85, 86, 87, 88, 89, 90] (by decide +kernel) (by decide +kernel)
set_option maxRecDepth 20000 in
theorem gX4_set_X2_note : GoodIn wsX4_set (wsV RX4 41 RX2 yX2_note wsX2_note) := goodIn_app (goodIn_of _ (by decide +kernel)) ggX4_set_X2_note
set_option maxRecDepth 20000 in
theorem ggX4_set_X0_choose : GoodIn wsX4_set wsX0_choose := goodIn_r _ [53, 24, 54, 55, 74, 75, 76, 77, 78, 79, 80, 81, 82, 83] (by decide +kernel) (by decide +kernel)
set_option maxRecDepth 20000 in
theorem gX4_set_X0_choose : GoodIn wsX4_set (wsV RX4 45 RX0 yX0_choose wsX0_choose) := goodIn_app (goodIn_of _ (by decide +kernel)) ggX4_set_X0_choose
set_option maxRecDepth 20000 in
theorem ggX4_set_X4_recorded : GoodIn wsX4_set wsX4_recorded := goodIn_r _ [60, 1, 61, 62, 63, 6, 64, 8, 14, 15, 16, 17, 18, 65, 66, 67, 68, 69, 70, 71, 72, 73] (by decide +kernel) (by decide +kernel)
set_option maxRecDepth 20000 in
theorem gX4_set_X4_recorded : GoodIn wsX4_set (wsV RX4 49 RX4 yX4_recorded wsX4_recorded) := goodIn_app (goodIn_of _ (by decide +kernel)) ggX4_set_X4_recorded
theorem dX4_set_0 : decode cX4_set 0 = .ok (.aload_n 0, 1) := by decide +kernel
theorem dX4_set_1 : decode cX4_set 1 = .ok (.getfield 22, 3) := by decide +kernel
theorem dX4_set_4 : decode cX4_set 4 = .ok (.aload_n 0, 1) := by decide +kernel
theorem dX4_set_5 : decode cX4_set 5 = .ok (.getfield 10, 3) := by decide +kernel
theorem dX4_set_8 : decode cX4_set 8 = .ok (.invokevirtual 41, 3) := by decide +kernel
theorem dX4_set_11 : decode cX4_set 11 = .ok (.aload_n 0, 1) := by decide +kernel
theorem dX4_set_12 : decode cX4_set 12 = .ok (.aload_n 0, 1) := by decide +kernel
theorem dX4_set_13 : decode cX4_set 13 = .ok (.getfield 10, 3) := by decide +kernel
theorem dX4_set_16 : decode cX4_set 16 = .ok (.iload_n 1, 1) := by decide +kernel
theorem dX4_set_17 : decode cX4_set 17 = .ok (.iload_n 2, 1) := by decide +kernel
theorem dX4_set_18 : decode cX4_set 18 = .ok (.invokevirtual 45, 3) := by decide +kernel
theorem dX4_set_21 : decode cX4_set 21 = .ok (.invokevirtual 49, 3) := by decide +kernel
theorem dX4_set_24 : decode cX4_set 24 = .ok (.ireturn, 1) := by decide +kernel
set_option maxRecDepth 20000 in
theorem ggX4_arrive_X2_note : GoodIn wsX4_arrive wsX2_note := goodIn_r _ [7, 8, 9, 10, 11, 6, 12, 13, 14, 15, 16, 17, 18, 19, 20, 21, 22, 23, 24, 25, 26, 27, 28, 29, 30, 31, 32, 33, 34, 35, 36, 37, 38, 39, 40, 41, 42, 43, 44, 45, 46, 47, 48, 49, 80, 81, 82, 83, 84, 85, 86, 87, 88, 89, 90, 91, 92, 93, 94, 95, 96, 97, 98, 99] (by decide +kernel) (by decide +kernel)
set_option maxRecDepth 20000 in
theorem gX4_arrive_X2_note : GoodIn wsX4_arrive (wsV RX4 41 RX2 yX2_note wsX2_note) := goodIn_app (goodIn_of _ (by decide +kernel)) ggX4_arrive_X2_note
set_option maxRecDepth 20000 in
theorem ggX4_arrive_X0_takeBox : GoodIn wsX4_arrive wsX0_takeBox := goodIn_r _ [53, 30, 31, 29, 54, 55, 41, 56, 57, 58, 59, 60, 43, 44, 61, 62, 63, 64, 45, 46, 47, 48, 49, 83, 84, 85, 86, 87, 88, 89, 90, 91, 92, 93, 94, 95, 96, 97, 98, 99] (by decide +kernel) (by decide +kernel)
set_option maxRecDepth 20000 in
theorem gX4_arrive_X0_takeBox : GoodIn wsX4_arrive (wsV RX4 53 RX0 yX0_takeBox wsX0_takeBox) := goodIn_app (goodIn_of _ (by decide +kernel)) ggX4_arrive_X0_takeBox
set_option maxRecDepth 20000 in
theorem ggX4_arrive_X4_recorded : GoodIn wsX4_arrive wsX4_recorded := goodIn_r _ [69, 1, 70, 71, 72, 6, 73, 8, 14, 15, 16, 17, 18, 74, 75, 76, 77, 78, 79, 80, 81, 82] (by decide +kernel) (by decide +kernel)
set_option maxRecDepth 20000 in
theorem gX4_arrive_X4_recorded : GoodIn wsX4_arrive (wsV RX4 49 RX4 yX4_recorded wsX4_recorded) := goodIn_app (goodIn_of _ (by decide +kernel)) ggX4_arrive_X4_recorded
theorem dX4_arrive_0 : decode cX4_arrive 0 = .ok (.aload_n 0, 1) := by decide +kernel
theorem dX4_arrive_1 : decode cX4_arrive 1 = .ok (.getfield 22, 3) := by decide +kernel
theorem dX4_arrive_4 : decode cX4_arrive 4 = .ok (.aload_n 0, 1) := by decide +kernel
theorem dX4_arrive_5 : decode cX4_arrive 5 = .ok (.getfield 10, 3) := by decide +kernel
theorem dX4_arrive_8 : decode cX4_arrive 8 = .ok (.invokevirtual 41, 3) := by decide +kernel
theorem dX4_arrive_11 : decode cX4_arrive 11 = .ok (.aload_n 0, 1) := by decide +kernel
theorem dX4_arrive_12 : decode cX4_arrive 12 = .ok (.aload_n 0, 1) := by decide +kernel
theorem dX4_arrive_13 : decode cX4_arrive 13 = .ok (.getfield 10, 3) := by decide +kernel
theorem dX4_arrive_16 : decode cX4_arrive 16 = .ok (.iload_n 1, 1) := by decide +kernel
theorem dX4_arrive_17 : decode cX4_arrive 17 = .ok (.invokevirtual 53, 3) := by decide +kernel
theorem dX4_arrive_20 : decode cX4_arrive 20 = .ok (.invokevirtual 49, 3) := by decide +kernel
theorem dX4_arrive_23 : decode cX4_arrive 23 = .ok (.ireturn, 1) := by decide +kernel
set_option maxRecDepth 20000 in
theorem ggX4_turn_X2_note : GoodIn wsX4_turn wsX2_note := goodIn_r _ [7, 8, 9, 10, 11, 6, 12, 13, 14, 15, 16, 17, 18, 19, 20, 21, 22, 23, 24, 25, 26, 27, 28, 29, 30, 31, 32, 33, 34, 35, 36, 37, 38, 39, 40, 41, 42, 43, 44, 45, 46, 47, 48, 49, 89, 90, 91, 92, 93, 94, 95, 96, 97, 98, 99, 100, 101, 102, 103, 104, 105, 106, 107, 108] (by decide +kernel) (by decide +kernel)
set_option maxRecDepth 20000 in
theorem gX4_turn_X2_note : GoodIn wsX4_turn (wsV RX4 41 RX2 yX2_note wsX2_note) := goodIn_app (goodIn_of _ (by decide +kernel)) ggX4_turn_X2_note
set_option maxRecDepth 20000 in
theorem ggX4_turn_X0_turnBox : GoodIn wsX4_turn wsX0_turnBox := goodIn_r _ [53, 31, 54, 55, 56, 57, 58, 22, 59, 30, 60, 61, 41, 62, 63, 64, 17, 65, 66, 67, 68, 69, 70, 71, 72, 73, 43, 44, 92, 93, 94, 95, 96, 97, 98, 99, 100, 101, 102, 103, 104, 105, 106, 107, 108] (by decide +kernel) (by decide +kernel)
set_option maxRecDepth 20000 in
theorem gX4_turn_X0_turnBox : GoodIn wsX4_turn (wsV RX4 56 RX0 yX0_turnBox wsX0_turnBox) := goodIn_app (goodIn_of _ (by decide +kernel)) ggX4_turn_X0_turnBox
set_option maxRecDepth 20000 in
theorem ggX4_turn_X4_recorded : GoodIn wsX4_turn wsX4_recorded := goodIn_r _ [78, 1, 79, 80, 81, 6, 82, 8, 14, 15, 16, 17, 18, 83, 84, 85, 86, 87, 88, 89, 90, 91] (by decide +kernel) (by decide +kernel)
set_option maxRecDepth 20000 in
theorem gX4_turn_X4_recorded : GoodIn wsX4_turn (wsV RX4 49 RX4 yX4_recorded wsX4_recorded) := goodIn_app (goodIn_of _ (by decide +kernel)) ggX4_turn_X4_recorded
theorem dX4_turn_0 : decode cX4_turn 0 = .ok (.aload_n 0, 1) := by decide +kernel
theorem dX4_turn_1 : decode cX4_turn 1 = .ok (.getfield 22, 3) := by decide +kernel
theorem dX4_turn_4 : decode cX4_turn 4 = .ok (.aload_n 0, 1) := by decide +kernel
theorem dX4_turn_5 : decode cX4_turn 5 = .ok (.getfield 10, 3) := by decide +kernel
theorem dX4_turn_8 : decode cX4_turn 8 = .ok (.invokevirtual 41, 3) := by decide +kernel
theorem dX4_turn_11 : decode cX4_turn 11 = .ok (.aload_n 0, 1) := by decide +kernel
theorem dX4_turn_12 : decode cX4_turn 12 = .ok (.aload_n 0, 1) := by decide +kernel
theorem dX4_turn_13 : decode cX4_turn 13 = .ok (.getfield 10, 3) := by decide +kernel
theorem dX4_turn_16 : decode cX4_turn 16 = .ok (.iload_n 1, 1) := by decide +kernel
theorem dX4_turn_17 : decode cX4_turn 17 = .ok (.iload_n 2, 1) := by decide +kernel
theorem dX4_turn_18 : decode cX4_turn 18 = .ok (.invokevirtual 56, 3) := by decide +kernel
theorem dX4_turn_21 : decode cX4_turn 21 = .ok (.invokevirtual 49, 3) := by decide +kernel
theorem dX4_turn_24 : decode cX4_turn 24 = .ok (.ireturn, 1) := by decide +kernel
set_option maxRecDepth 20000 in
theorem ggX4_pass_X2_note : GoodIn wsX4_pass wsX2_note := goodIn_r _ [7, 8, 9, 10, 11, 6, 12, 13, 14, 15, 16, 17, 18, 19, 20, 21, 22, 23, 24, 25, 26, 27, 28, 29, 30, 31, 32, 33, 34, 35, 36, 37, 38, 39, 40, 41, 42, 43, 44, 45, 46, 47, 48, 49, 149, 150, 151, 152, 153, 154, 155, 156, 157, 158, 159, 160, 161, 162, 163, 164, 165, 166, 167, 168] (by decide +kernel) (by decide +kernel)
set_option maxRecDepth 20000 in
theorem gX4_pass_X2_note : GoodIn wsX4_pass (wsV RX4 41 RX2 yX2_note wsX2_note) := goodIn_app (goodIn_of _ (by decide +kernel)) ggX4_pass_X2_note
set_option maxRecDepth 20000 in
theorem ggX4_pass_X0_letPass : GoodIn wsX4_pass wsX0_letPass := goodIn_r _ [53, 29, 54, 55, 56, 22, 57, 58, 59, 60, 61, 62, 63, 64, 65, 24, 30, 31, 66, 37, 67, 68, 69, 70, 71, 72, 73, 74, 75, 32, 33, 34, 76, 77, 78, 79, 35, 36, 80, 81, 82, 83, 84, 85, 86, 87, 88, 89, 90, 91, 92, 93, 94, 95, 96, 97, 98, 99, 100, 101, 102, 41, 103, 43, 44, 104, 105, 106, 107, 108, 109, 110, 111, 112, 113, 114, 115, 116, 117, 118, 119, 120, 121, 122, 123, 124, 125, 126, 127, 128, 129, 130, 131, 132, 133, 152, 153, 154, 155, 156, 157, 158, 159, 160, 161, 162, 163, 164, 165, 166, 167, 168] (by decide +kernel) (by decide +kernel)
set_option maxRecDepth 20000 in
theorem gX4_pass_X0_letPass : GoodIn wsX4_pass (wsV RX4 59 RX0 yX0_letPass wsX0_letPass) := goodIn_app (goodIn_of _ (by decide +kernel)) ggX4_pass_X0_letPass
set_option maxRecDepth 20000 in
theorem ggX4_pass_X4_recorded : GoodIn wsX4_pass wsX4_recorded := goodIn_r _ [138, 1, 139, 140, 141, 6, 142, 8, 14, 15, 16, 17, 18, 143, 144, 145, 146, 147, 148, 149, 150, 151] (by decide +kernel) (by decide +kernel)
set_option maxRecDepth 20000 in
theorem gX4_pass_X4_recorded : GoodIn wsX4_pass (wsV RX4 49 RX4 yX4_recorded wsX4_recorded) := goodIn_app (goodIn_of _ (by decide +kernel)) ggX4_pass_X4_recorded
theorem dX4_pass_0 : decode cX4_pass 0 = .ok (.aload_n 0, 1) := by decide +kernel
theorem dX4_pass_1 : decode cX4_pass 1 = .ok (.getfield 22, 3) := by decide +kernel
theorem dX4_pass_4 : decode cX4_pass 4 = .ok (.aload_n 0, 1) := by decide +kernel
theorem dX4_pass_5 : decode cX4_pass 5 = .ok (.getfield 10, 3) := by decide +kernel
theorem dX4_pass_8 : decode cX4_pass 8 = .ok (.invokevirtual 41, 3) := by decide +kernel
theorem dX4_pass_11 : decode cX4_pass 11 = .ok (.aload_n 0, 1) := by decide +kernel
theorem dX4_pass_12 : decode cX4_pass 12 = .ok (.aload_n 0, 1) := by decide +kernel
theorem dX4_pass_13 : decode cX4_pass 13 = .ok (.getfield 10, 3) := by decide +kernel
theorem dX4_pass_16 : decode cX4_pass 16 = .ok (.iload_n 1, 1) := by decide +kernel
theorem dX4_pass_17 : decode cX4_pass 17 = .ok (.invokevirtual 59, 3) := by decide +kernel
theorem dX4_pass_20 : decode cX4_pass 20 = .ok (.invokevirtual 49, 3) := by decide +kernel
theorem dX4_pass_23 : decode cX4_pass 23 = .ok (.ireturn, 1) := by decide +kernel
set_option maxRecDepth 20000 in
theorem ggX4_recorded_X2_keepNoted : GoodIn wsX4_recorded wsX2_keepNoted := goodIn_r _ [6, 7, 8, 9, 10, 11, 12, 19, 20, 21] (by decide +kernel) (by decide +kernel)
set_option maxRecDepth 20000 in
theorem gX4_recorded_X2_keepNoted : GoodIn wsX4_recorded (wsV RX4 62 RX2 yX2_keepNoted wsX2_keepNoted) := goodIn_app (goodIn_of _ (by decide +kernel)) ggX4_recorded_X2_keepNoted
theorem dX4_recorded_0 : decode cX4_recorded 0 = .ok (.iload_n 1, 1) := by decide +kernel
theorem dX4_recorded_1 : decode cX4_recorded 1 = .ok (.ifCond .lt 10, 3) := by decide +kernel
theorem dX4_recorded_4 : decode cX4_recorded 4 = .ok (.aload_n 0, 1) := by decide +kernel
theorem dX4_recorded_5 : decode cX4_recorded 5 = .ok (.getfield 22, 3) := by decide +kernel
theorem dX4_recorded_8 : decode cX4_recorded 8 = .ok (.invokevirtual 62, 3) := by decide +kernel
theorem dX4_recorded_11 : decode cX4_recorded 11 = .ok (.iload_n 1, 1) := by decide +kernel
theorem dX4_recorded_12 : decode cX4_recorded 12 = .ok (.ireturn, 1) := by decide +kernel
set_option maxRecDepth 20000 in
theorem ggX4_box_X0_aboutBox : GoodIn wsX4_box wsX0_aboutBox := goodIn_r _ [6, 7, 8, 9, 10, 5, 11, 12, 13, 14, 15, 16, 17, 18, 19, 20, 21, 22, 23, 24, 31, 32, 33, 34, 35, 36, 37, 38, 39, 40, 41, 42, 43, 44, 45, 46, 47] (by decide +kernel) (by decide +kernel)
set_option maxRecDepth 20000 in
theorem gX4_box_X0_aboutBox : GoodIn wsX4_box (wsV RX4 65 RX0 yX0_aboutBox wsX0_aboutBox) := goodIn_app (goodIn_of _ (by decide +kernel)) ggX4_box_X0_aboutBox
theorem dX4_box_0 : decode cX4_box 0 = .ok (.aload_n 0, 1) := by decide +kernel
theorem dX4_box_1 : decode cX4_box 1 = .ok (.getfield 10, 3) := by decide +kernel
theorem dX4_box_4 : decode cX4_box 4 = .ok (.iload_n 1, 1) := by decide +kernel
theorem dX4_box_5 : decode cX4_box 5 = .ok (.iload_n 2, 1) := by decide +kernel
theorem dX4_box_6 : decode cX4_box 6 = .ok (.invokevirtual 65, 3) := by decide +kernel
theorem dX4_box_9 : decode cX4_box 9 = .ok (.ireturn, 1) := by decide +kernel
set_option maxRecDepth 20000 in
theorem ggX4_plan_X0_planAt : GoodIn wsX4_plan wsX0_planAt := goodIn_r _ [6, 7, 8, 15, 16, 17, 18, 19, 20, 21, 22, 23, 24] (by decide +kernel) (by decide +kernel)
set_option maxRecDepth 20000 in
theorem gX4_plan_X0_planAt : GoodIn wsX4_plan (wsV RX4 68 RX0 yX0_planAt wsX0_planAt) := goodIn_app (goodIn_of _ (by decide +kernel)) ggX4_plan_X0_planAt
theorem dX4_plan_0 : decode cX4_plan 0 = .ok (.aload_n 0, 1) := by decide +kernel
theorem dX4_plan_1 : decode cX4_plan 1 = .ok (.getfield 10, 3) := by decide +kernel
theorem dX4_plan_4 : decode cX4_plan 4 = .ok (.iload_n 1, 1) := by decide +kernel
theorem dX4_plan_5 : decode cX4_plan 5 = .ok (.invokevirtual 68, 3) := by decide +kernel
theorem dX4_plan_8 : decode cX4_plan 8 = .ok (.ireturn, 1) := by decide +kernel
set_option maxRecDepth 20000 in
theorem ggX4_report_X0_aboutReport : GoodIn wsX4_report wsX0_aboutReport := goodIn_r _ [6, 7, 8, 9, 10, 17, 18, 19, 20, 21, 22, 23, 24, 25, 26] (by decide +kernel) (by decide +kernel)
set_option maxRecDepth 20000 in
theorem gX4_report_X0_aboutReport : GoodIn wsX4_report (wsV RX4 71 RX0 yX0_aboutReport wsX0_aboutReport) := goodIn_app (goodIn_of _ (by decide +kernel)) ggX4_report_X0_aboutReport
theorem dX4_report_0 : decode cX4_report 0 = .ok (.aload_n 0, 1) := by decide +kernel
theorem dX4_report_1 : decode cX4_report 1 = .ok (.getfield 10, 3) := by decide +kernel
theorem dX4_report_4 : decode cX4_report 4 = .ok (.iload_n 1, 1) := by decide +kernel
theorem dX4_report_5 : decode cX4_report 5 = .ok (.iload_n 2, 1) := by decide +kernel
theorem dX4_report_6 : decode cX4_report 6 = .ok (.invokevirtual 71, 3) := by decide +kernel
theorem dX4_report_9 : decode cX4_report 9 = .ok (.ireturn, 1) := by decide +kernel
set_option maxRecDepth 20000 in
theorem ggX4_count_X0_number : GoodIn wsX4_count wsX0_number := goodIn_r _ [10, 11, 12, 13, 14, 15, 27, 28, 29, 30, 31, 32, 33, 34, 35, 36] (by decide +kernel) (by decide +kernel)
set_option maxRecDepth 20000 in
theorem gX4_count_X0_number : GoodIn wsX4_count (wsV RX4 81 RX0 yX0_number wsX0_number) := goodIn_app (goodIn_of _ (by decide +kernel)) ggX4_count_X0_number
theorem dX4_count_0 : decode cX4_count 0 = .ok (.iload_n 1, 1) := by decide +kernel
theorem dX4_count_1 : decode cX4_count 1 = .ok (.ifCond .lt 9, 3) := by decide +kernel
theorem dX4_count_4 : decode cX4_count 4 = .ok (.iload_n 1, 1) := by decide +kernel
theorem dX4_count_5 : decode cX4_count 5 = .ok (.bipush 23, 2) := by decide +kernel
theorem dX4_count_7 : decode cX4_count 7 = .ok (.if_icmp .le 6, 3) := by decide +kernel
theorem dX4_count_10 : decode cX4_count 10 = .ok (.bipush (-2), 2) := by decide +kernel
theorem dX4_count_12 : decode cX4_count 12 = .ok (.ireturn, 1) := by decide +kernel
theorem dX4_count_13 : decode cX4_count 13 = .ok (.iload_n 1, 1) := by decide +kernel
theorem dX4_count_14 : decode cX4_count 14 = .ok (.bipush 22, 2) := by decide +kernel
theorem dX4_count_16 : decode cX4_count 16 = .ok (.if_icmp .ne 11, 3) := by decide +kernel
theorem dX4_count_19 : decode cX4_count 19 = .ok (.aload_n 0, 1) := by decide +kernel
theorem dX4_count_20 : decode cX4_count 20 = .ok (.getfield 37, 3) := by decide +kernel
theorem dX4_count_23 : decode cX4_count 23 = .ok (.getfield 74, 3) := by decide +kernel
theorem dX4_count_26 : decode cX4_count 26 = .ok (.ireturn, 1) := by decide +kernel
theorem dX4_count_27 : decode cX4_count 27 = .ok (.iload_n 1, 1) := by decide +kernel
theorem dX4_count_28 : decode cX4_count 28 = .ok (.bipush 23, 2) := by decide +kernel
theorem dX4_count_30 : decode cX4_count 30 = .ok (.if_icmp .ne 11, 3) := by decide +kernel
theorem dX4_count_33 : decode cX4_count 33 = .ok (.aload_n 0, 1) := by decide +kernel
theorem dX4_count_34 : decode cX4_count 34 = .ok (.getfield 22, 3) := by decide +kernel
theorem dX4_count_37 : decode cX4_count 37 = .ok (.getfield 78, 3) := by decide +kernel
theorem dX4_count_40 : decode cX4_count 40 = .ok (.ireturn, 1) := by decide +kernel
theorem dX4_count_41 : decode cX4_count 41 = .ok (.aload_n 0, 1) := by decide +kernel
theorem dX4_count_42 : decode cX4_count 42 = .ok (.getfield 10, 3) := by decide +kernel
theorem dX4_count_45 : decode cX4_count 45 = .ok (.iload_n 1, 1) := by decide +kernel
theorem dX4_count_46 : decode cX4_count 46 = .ok (.invokevirtual 81, 3) := by decide +kernel
theorem dX4_count_49 : decode cX4_count 49 = .ok (.ireturn, 1) := by decide +kernel
set_option maxRecDepth 20000 in
theorem ggX4_ifPass_X4_canTry : GoodIn wsX4_ifPass wsX4_canTry := goodIn_r _ [7] (by decide +kernel) (by decide +kernel)
set_option maxRecDepth 20000 in
theorem gX4_ifPass_X4_canTry : GoodIn wsX4_ifPass (va_wsS RX4 84 yX4_canTry wsX4_canTry) := goodIn_app (goodIn_of _ (by decide +kernel)) ggX4_ifPass_X4_canTry
set_option maxRecDepth 20000 in
theorem ggX4_ifPass_X0_copyFrom : GoodIn wsX4_ifPass wsX0_copyFrom := goodIn_r _ [12, 13, 14, 15, 16, 17, 18, 19, 20, 21, 22, 23, 24, 25, 26, 27, 28, 29, 30, 31, 32, 33, 34, 35, 36, 37, 38, 125, 126, 127, 128, 129, 130, 131, 132, 133, 134, 135, 136, 137, 138, 139, 140, 141] (by decide +kernel) (by decide +kernel)
set_option maxRecDepth 20000 in
theorem gX4_ifPass_X0_copyFrom : GoodIn wsX4_ifPass (wsV RX4 92 RX0 yX0_copyFrom wsX0_copyFrom) := goodIn_app (goodIn_of _ (by decide +kernel)) ggX4_ifPass_X0_copyFrom
set_option maxRecDepth 20000 in
theorem ggX4_ifPass_X0_tickOn : GoodIn wsX4_ifPass wsX0_tickOn := goodIn_r _ [42, 18, 43, 44, 45, 11, 46, 13, 19, 20, 47, 26, 48, 49, 50, 51, 52, 53, 54, 55, 56, 21, 22, 23, 57, 58, 59, 60, 24, 25, 61, 62, 63, 64, 65, 66, 67, 68, 69, 70, 71, 72, 73, 74, 75, 76, 77, 78, 79, 80, 81, 82, 83, 30, 84, 32, 33, 85, 86, 87, 88, 89, 90, 91, 92, 93, 94, 95, 96, 97, 98, 99, 100, 101, 102, 103, 104, 105, 106, 107, 108, 109, 110, 111, 112, 113, 114, 125, 126, 127, 128, 129, 130, 131, 132, 133, 134, 135, 136, 137, 138, 139, 140, 141] (by decide +kernel) (by decide +kernel)
set_option maxRecDepth 20000 in
theorem gX4_ifPass_X0_tickOn : GoodIn wsX4_ifPass (wsV RX4 95 RX0 yX0_tickOn wsX0_tickOn) := goodIn_app (goodIn_of _ (by decide +kernel)) ggX4_ifPass_X0_tickOn
set_option maxRecDepth 20000 in
theorem ggX4_ifPass_X0_number : GoodIn wsX4_ifPass wsX0_number := goodIn_r _ [118, 19, 21, 24, 18, 13, 125, 126, 127, 128, 129, 130, 131, 132, 133, 134] (by decide +kernel) (by decide +kernel)
set_option maxRecDepth 20000 in
theorem gX4_ifPass_X0_number : GoodIn wsX4_ifPass (wsV RX4 81 RX0 yX0_number wsX0_number) := goodIn_app (goodIn_of _ (by decide +kernel)) ggX4_ifPass_X0_number
theorem dX4_ifPass_0 : decode cX4_ifPass 0 = .ok (.iload_n 1, 1) := by decide +kernel
theorem dX4_ifPass_1 : decode cX4_ifPass 1 = .ok (.invokestatic 84, 3) := by decide +kernel
theorem dX4_ifPass_4 : decode cX4_ifPass 4 = .ok (.ifCond .eq 15, 3) := by decide +kernel
theorem dX4_ifPass_7 : decode cX4_ifPass 7 = .ok (.iload_n 2, 1) := by decide +kernel
theorem dX4_ifPass_8 : decode cX4_ifPass 8 = .ok (.ifCond .lt 11, 3) := by decide +kernel
theorem dX4_ifPass_11 : decode cX4_ifPass 11 = .ok (.iload_n 2, 1) := by decide +kernel
theorem dX4_ifPass_12 : decode cX4_ifPass 12 = .ok (.getstatic 88, 3) := by decide +kernel
theorem dX4_ifPass_15 : decode cX4_ifPass 15 = .ok (.arraylength, 1) := by decide +kernel
theorem dX4_ifPass_16 : decode cX4_ifPass 16 = .ok (.if_icmp .le 6, 3) := by decide +kernel
theorem dX4_ifPass_19 : decode cX4_ifPass 19 = .ok (.bipush (-2), 2) := by decide +kernel
theorem dX4_ifPass_21 : decode cX4_ifPass 21 = .ok (.ireturn, 1) := by decide +kernel
theorem dX4_ifPass_22 : decode cX4_ifPass 22 = .ok (.aload_n 0, 1) := by decide +kernel
theorem dX4_ifPass_23 : decode cX4_ifPass 23 = .ok (.getfield 16, 3) := by decide +kernel
theorem dX4_ifPass_26 : decode cX4_ifPass 26 = .ok (.aload_n 0, 1) := by decide +kernel
theorem dX4_ifPass_27 : decode cX4_ifPass 27 = .ok (.getfield 10, 3) := by decide +kernel
theorem dX4_ifPass_30 : decode cX4_ifPass 30 = .ok (.invokevirtual 92, 3) := by decide +kernel
theorem dX4_ifPass_33 : decode cX4_ifPass 33 = .ok (.aload_n 0, 1) := by decide +kernel
theorem dX4_ifPass_34 : decode cX4_ifPass 34 = .ok (.getfield 16, 3) := by decide +kernel
theorem dX4_ifPass_37 : decode cX4_ifPass 37 = .ok (.iload_n 1, 1) := by decide +kernel
theorem dX4_ifPass_38 : decode cX4_ifPass 38 = .ok (.invokevirtual 95, 3) := by decide +kernel
theorem dX4_ifPass_41 : decode cX4_ifPass 41 = .ok (.iload_n 2, 1) := by decide +kernel
theorem dX4_ifPass_42 : decode cX4_ifPass 42 = .ok (.getstatic 88, 3) := by decide +kernel
theorem dX4_ifPass_45 : decode cX4_ifPass 45 = .ok (.arraylength, 1) := by decide +kernel
theorem dX4_ifPass_46 : decode cX4_ifPass 46 = .ok (.if_icmp .ne 13, 3) := by decide +kernel
theorem dX4_ifPass_49 : decode cX4_ifPass 49 = .ok (.aload_n 0, 1) := by decide +kernel
theorem dX4_ifPass_50 : decode cX4_ifPass 50 = .ok (.getfield 16, 3) := by decide +kernel
theorem dX4_ifPass_53 : decode cX4_ifPass 53 = .ok (.bipush 10, 2) := by decide +kernel
theorem dX4_ifPass_55 : decode cX4_ifPass 55 = .ok (.invokevirtual 81, 3) := by decide +kernel
theorem dX4_ifPass_58 : decode cX4_ifPass 58 = .ok (.ireturn, 1) := by decide +kernel
theorem dX4_ifPass_59 : decode cX4_ifPass 59 = .ok (.aload_n 0, 1) := by decide +kernel
theorem dX4_ifPass_60 : decode cX4_ifPass 60 = .ok (.getfield 16, 3) := by decide +kernel
theorem dX4_ifPass_63 : decode cX4_ifPass 63 = .ok (.getstatic 88, 3) := by decide +kernel
theorem dX4_ifPass_66 : decode cX4_ifPass 66 = .ok (.iload_n 2, 1) := by decide +kernel
theorem dX4_ifPass_67 : decode cX4_ifPass 67 = .ok (.iaload, 1) := by decide +kernel
theorem dX4_ifPass_68 : decode cX4_ifPass 68 = .ok (.invokevirtual 81, 3) := by decide +kernel
theorem dX4_ifPass_71 : decode cX4_ifPass 71 = .ok (.aload_n 0, 1) := by decide +kernel
theorem dX4_ifPass_72 : decode cX4_ifPass 72 = .ok (.getfield 10, 3) := by decide +kernel
theorem dX4_ifPass_75 : decode cX4_ifPass 75 = .ok (.getstatic 88, 3) := by decide +kernel
theorem dX4_ifPass_78 : decode cX4_ifPass 78 = .ok (.iload_n 2, 1) := by decide +kernel
theorem dX4_ifPass_79 : decode cX4_ifPass 79 = .ok (.iaload, 1) := by decide +kernel
theorem dX4_ifPass_80 : decode cX4_ifPass 80 = .ok (.invokevirtual 81, 3) := by decide +kernel
theorem dX4_ifPass_83 : decode cX4_ifPass 83 = .ok (.isub, 1) := by decide +kernel
theorem dX4_ifPass_84 : decode cX4_ifPass 84 = .ok (.ireturn, 1) := by decide +kernel
set_option maxRecDepth 20000 in
theorem ggX4_bestGuess_X4_canTry : GoodIn wsX4_bestGuess wsX4_canTry := goodIn_r _ [4] (by decide +kernel) (by decide +kernel)
set_option maxRecDepth 20000 in
theorem gX4_bestGuess_X4_canTry : GoodIn wsX4_bestGuess (va_wsS RX4 84 yX4_canTry wsX4_canTry) := goodIn_app (goodIn_of _ (by decide +kernel)) ggX4_bestGuess_X4_canTry
set_option maxRecDepth 20000 in
theorem ggX4_bestGuess_X4_goodWithGuess : GoodIn wsX4_bestGuess wsX4_goodWithGuess := goodIn_r _ [8, 9, 10, 11, 12, 13, 14, 15, 16, 17, 18, 19, 20, 21, 22, 23, 24, 25, 26, 27, 28, 29, 30, 31, 32, 33, 34, 35, 36, 37, 38, 39, 40, 41, 42, 43, 44, 45, 46, 47, 48, 49, 50, 51, 52, 53, 54, 55, 56, 57, 58, 59, 60, 61, 62, 63, 64, 65, 66, 67, 68, 69, 70, 71, 72, 73, 74, 75, 76, 77, 78, 79, 80, 81, 82, 83, 84, 85, 86, 87, 88, 89, 90, 91, 92, 93, 94, 95, 96, 97, 98, 99, 100, 101, 102, 103, 104, 105, 106, 107, 108, 109, 110, 111, 112, 113, 114, 115, 116, 117, 118, 119, 120, 121, 122, 123, 124, 125, 126, 127, 128, 129, 130, 131, 132, 133, 134, 135, 136, 137, 138, 139, 140, 141, 142, 143, 144, 145] (by decide +kernel) (by decide +kernel)
set_option maxRecDepth 20000 in
theorem gX4_bestGuess_X4_goodWithGuess : GoodIn wsX4_bestGuess (wsV RX4 99 RX4 yX4_goodWithGuess wsX4_goodWithGuess) := goodIn_app (goodIn_of _ (by decide +kernel)) ggX4_bestGuess_X4_goodWithGuess
theorem dX4_bestGuess_0 : decode cX4_bestGuess 0 = .ok (.iload_n 1, 1) := by decide +kernel
theorem dX4_bestGuess_1 : decode cX4_bestGuess 1 = .ok (.invokestatic 84, 3) := by decide +kernel
theorem dX4_bestGuess_4 : decode cX4_bestGuess 4 = .ok (.ifCond .eq 12, 3) := by decide +kernel
theorem dX4_bestGuess_7 : decode cX4_bestGuess 7 = .ok (.iload_n 2, 1) := by decide +kernel
theorem dX4_bestGuess_8 : decode cX4_bestGuess 8 = .ok (.ifCond .lt 8, 3) := by decide +kernel
theorem dX4_bestGuess_11 : decode cX4_bestGuess 11 = .ok (.iload_n 2, 1) := by decide +kernel
theorem dX4_bestGuess_12 : decode cX4_bestGuess 12 = .ok (.iconst 1, 1) := by decide +kernel
theorem dX4_bestGuess_13 : decode cX4_bestGuess 13 = .ok (.if_icmp .le 6, 3) := by decide +kernel
theorem dX4_bestGuess_16 : decode cX4_bestGuess 16 = .ok (.bipush (-2), 2) := by decide +kernel
theorem dX4_bestGuess_18 : decode cX4_bestGuess 18 = .ok (.ireturn, 1) := by decide +kernel
theorem dX4_bestGuess_19 : decode cX4_bestGuess 19 = .ok (.iconst 0, 1) := by decide +kernel
theorem dX4_bestGuess_20 : decode cX4_bestGuess 20 = .ok (.istore_n 3, 1) := by decide +kernel
theorem dX4_bestGuess_21 : decode cX4_bestGuess 21 = .ok (.iconst (-1), 1) := by decide +kernel
theorem dX4_bestGuess_22 : decode cX4_bestGuess 22 = .ok (.istore 4, 2) := by decide +kernel
theorem dX4_bestGuess_24 : decode cX4_bestGuess 24 = .ok (.iconst 0, 1) := by decide +kernel
theorem dX4_bestGuess_25 : decode cX4_bestGuess 25 = .ok (.istore 5, 2) := by decide +kernel
theorem dX4_bestGuess_27 : decode cX4_bestGuess 27 = .ok (.iload 5, 2) := by decide +kernel
theorem dX4_bestGuess_29 : decode cX4_bestGuess 29 = .ok (.iconst 5, 1) := by decide +kernel
theorem dX4_bestGuess_30 : decode cX4_bestGuess 30 = .ok (.if_icmp .gt 32, 3) := by decide +kernel
theorem dX4_bestGuess_33 : decode cX4_bestGuess 33 = .ok (.aload_n 0, 1) := by decide +kernel
theorem dX4_bestGuess_34 : decode cX4_bestGuess 34 = .ok (.iload 5, 2) := by decide +kernel
theorem dX4_bestGuess_36 : decode cX4_bestGuess 36 = .ok (.iload_n 1, 1) := by decide +kernel
theorem dX4_bestGuess_37 : decode cX4_bestGuess 37 = .ok (.invokevirtual 99, 3) := by decide +kernel
theorem dX4_bestGuess_40 : decode cX4_bestGuess 40 = .ok (.istore 6, 2) := by decide +kernel
theorem dX4_bestGuess_42 : decode cX4_bestGuess 42 = .ok (.iload 6, 2) := by decide +kernel
theorem dX4_bestGuess_44 : decode cX4_bestGuess 44 = .ok (.iload 4, 2) := by decide +kernel
theorem dX4_bestGuess_46 : decode cX4_bestGuess 46 = .ok (.if_icmp .le 10, 3) := by decide +kernel
theorem dX4_bestGuess_49 : decode cX4_bestGuess 49 = .ok (.iload 5, 2) := by decide +kernel
theorem dX4_bestGuess_51 : decode cX4_bestGuess 51 = .ok (.istore_n 3, 1) := by decide +kernel
theorem dX4_bestGuess_52 : decode cX4_bestGuess 52 = .ok (.iload 6, 2) := by decide +kernel
theorem dX4_bestGuess_54 : decode cX4_bestGuess 54 = .ok (.istore 4, 2) := by decide +kernel
theorem dX4_bestGuess_56 : decode cX4_bestGuess 56 = .ok (.iinc 5 1, 3) := by decide +kernel
theorem dX4_bestGuess_59 : decode cX4_bestGuess 59 = .ok (.goto (-32), 3) := by decide +kernel
theorem dX4_bestGuess_62 : decode cX4_bestGuess 62 = .ok (.iload_n 2, 1) := by decide +kernel
theorem dX4_bestGuess_63 : decode cX4_bestGuess 63 = .ok (.ifCond .ne 7, 3) := by decide +kernel
theorem dX4_bestGuess_66 : decode cX4_bestGuess 66 = .ok (.iload_n 3, 1) := by decide +kernel
theorem dX4_bestGuess_67 : decode cX4_bestGuess 67 = .ok (.goto 5, 3) := by decide +kernel
theorem dX4_bestGuess_70 : decode cX4_bestGuess 70 = .ok (.iload 4, 2) := by decide +kernel
theorem dX4_bestGuess_72 : decode cX4_bestGuess 72 = .ok (.ireturn, 1) := by decide +kernel
theorem dX4_canTry_0 : decode cX4_canTry 0 = .ok (.iload_n 0, 1) := by decide +kernel
theorem dX4_canTry_1 : decode cX4_canTry 1 = .ok (.iconst 1, 1) := by decide +kernel
theorem dX4_canTry_2 : decode cX4_canTry 2 = .ok (.if_icmp .lt 13, 3) := by decide +kernel
theorem dX4_canTry_5 : decode cX4_canTry 5 = .ok (.iload_n 0, 1) := by decide +kernel
theorem dX4_canTry_6 : decode cX4_canTry 6 = .ok (.bipush 99, 2) := by decide +kernel
theorem dX4_canTry_8 : decode cX4_canTry 8 = .ok (.if_icmp .gt 7, 3) := by decide +kernel
theorem dX4_canTry_11 : decode cX4_canTry 11 = .ok (.iconst 1, 1) := by decide +kernel
theorem dX4_canTry_12 : decode cX4_canTry 12 = .ok (.goto 4, 3) := by decide +kernel
theorem dX4_canTry_15 : decode cX4_canTry 15 = .ok (.iconst 0, 1) := by decide +kernel
theorem dX4_canTry_16 : decode cX4_canTry 16 = .ok (.ireturn, 1) := by decide +kernel
set_option maxRecDepth 20000 in
theorem ggX4_goodWithGuess_X0_copyFrom : GoodIn wsX4_goodWithGuess wsX0_copyFrom := goodIn_r _ [8, 9, 10, 11, 12, 13, 14, 15, 16, 17, 18, 19, 20, 21, 22, 23, 24, 25, 26, 27, 28, 29, 30, 31, 32, 33, 34, 121, 122, 123, 124, 125, 126, 127, 128, 129, 130, 131, 132, 133, 134, 135, 136, 137] (by decide +kernel) (by decide +kernel)
set_option maxRecDepth 20000 in
theorem gX4_goodWithGuess_X0_copyFrom : GoodIn wsX4_goodWithGuess (wsV RX4 92 RX0 yX0_copyFrom wsX0_copyFrom) := goodIn_app (goodIn_of _ (by decide +kernel)) ggX4_goodWithGuess_X0_copyFrom
set_option maxRecDepth 20000 in
theorem ggX4_goodWithGuess_X0_tickOn : GoodIn wsX4_goodWithGuess wsX0_tickOn := goodIn_r _ [38, 14, 39, 40, 41, 7, 42, 9, 15, 16, 43, 22, 44, 45, 46, 47, 48, 49, 50, 51, 52, 17, 18, 19, 53, 54, 55, 56, 20, 21, 57, 58, 59, 60, 61, 62, 63, 64, 65, 66, 67, 68, 69, 70, 71, 72, 73, 74, 75, 76, 77, 78, 79, 26, 80, 28, 29, 81, 82, 83, 84, 85, 86, 87, 88, 89, 90, 91, 92, 93, 94, 95, 96, 97, 98, 99, 100, 101, 102, 103, 104, 105, 106, 107, 108, 109, 110, 121, 122, 123, 124, 125, 126, 127, 128, 129, 130, 131, 132, 133, 134, 135, 136, 137] (by decide +kernel) (by decide +kernel)
set_option maxRecDepth 20000 in
theorem gX4_goodWithGuess_X0_tickOn : GoodIn wsX4_goodWithGuess (wsV RX4 95 RX0 yX0_tickOn wsX0_tickOn) := goodIn_app (goodIn_of _ (by decide +kernel)) ggX4_goodWithGuess_X0_tickOn
set_option maxRecDepth 20000 in
theorem ggX4_goodWithGuess_X0_number : GoodIn wsX4_goodWithGuess wsX0_number := goodIn_r _ [114, 15, 17, 20, 14, 9, 121, 122, 123, 124, 125, 126, 127, 128, 129, 130] (by decide +kernel) (by decide +kernel)
set_option maxRecDepth 20000 in
theorem gX4_goodWithGuess_X0_number : GoodIn wsX4_goodWithGuess (wsV RX4 81 RX0 yX0_number wsX0_number) := goodIn_app (goodIn_of _ (by decide +kernel)) ggX4_goodWithGuess_X0_number
theorem dX4_goodWithGuess_0 : decode cX4_goodWithGuess 0 = .ok (.aload_n 0, 1) := by decide +kernel
theorem dX4_goodWithGuess_1 : decode cX4_goodWithGuess 1 = .ok (.getfield 16, 3) := by decide +kernel
theorem dX4_goodWithGuess_4 : decode cX4_goodWithGuess 4 = .ok (.aload_n 0, 1) := by decide +kernel
theorem dX4_goodWithGuess_5 : decode cX4_goodWithGuess 5 = .ok (.getfield 10, 3) := by decide +kernel
theorem dX4_goodWithGuess_8 : decode cX4_goodWithGuess 8 = .ok (.invokevirtual 92, 3) := by decide +kernel
theorem dX4_goodWithGuess_11 : decode cX4_goodWithGuess 11 = .ok (.aload_n 0, 1) := by decide +kernel
theorem dX4_goodWithGuess_12 : decode cX4_goodWithGuess 12 = .ok (.getfield 16, 3) := by decide +kernel
theorem dX4_goodWithGuess_15 : decode cX4_goodWithGuess 15 = .ok (.getfield 106, 3) := by decide +kernel
theorem dX4_goodWithGuess_18 : decode cX4_goodWithGuess 18 = .ok (.iconst 2, 1) := by decide +kernel
theorem dX4_goodWithGuess_19 : decode cX4_goodWithGuess 19 = .ok (.iload_n 1, 1) := by decide +kernel
theorem dX4_goodWithGuess_20 : decode cX4_goodWithGuess 20 = .ok (.iastore, 1) := by decide +kernel
theorem dX4_goodWithGuess_21 : decode cX4_goodWithGuess 21 = .ok (.aload_n 0, 1) := by decide +kernel
theorem dX4_goodWithGuess_22 : decode cX4_goodWithGuess 22 = .ok (.getfield 16, 3) := by decide +kernel
theorem dX4_goodWithGuess_25 : decode cX4_goodWithGuess 25 = .ok (.iload_n 2, 1) := by decide +kernel
theorem dX4_goodWithGuess_26 : decode cX4_goodWithGuess 26 = .ok (.invokevirtual 95, 3) := by decide +kernel
theorem dX4_goodWithGuess_29 : decode cX4_goodWithGuess 29 = .ok (.aload_n 0, 1) := by decide +kernel
theorem dX4_goodWithGuess_30 : decode cX4_goodWithGuess 30 = .ok (.getfield 16, 3) := by decide +kernel
theorem dX4_goodWithGuess_33 : decode cX4_goodWithGuess 33 = .ok (.iconst 3, 1) := by decide +kernel
theorem dX4_goodWithGuess_34 : decode cX4_goodWithGuess 34 = .ok (.invokevirtual 81, 3) := by decide +kernel
theorem dX4_goodWithGuess_37 : decode cX4_goodWithGuess 37 = .ok (.aload_n 0, 1) := by decide +kernel
theorem dX4_goodWithGuess_38 : decode cX4_goodWithGuess 38 = .ok (.getfield 10, 3) := by decide +kernel
theorem dX4_goodWithGuess_41 : decode cX4_goodWithGuess 41 = .ok (.iconst 3, 1) := by decide +kernel
theorem dX4_goodWithGuess_42 : decode cX4_goodWithGuess 42 = .ok (.invokevirtual 81, 3) := by decide +kernel
theorem dX4_goodWithGuess_45 : decode cX4_goodWithGuess 45 = .ok (.isub, 1) := by decide +kernel
theorem dX4_goodWithGuess_46 : decode cX4_goodWithGuess 46 = .ok (.ireturn, 1) := by decide +kernel
set_option maxRecDepth 20000 in
theorem ggX4_undo_X2_takeBack : GoodIn wsX4_undo wsX2_takeBack := goodIn_r _ [8, 9, 10, 11, 12, 7, 13, 14, 15, 16, 17, 18, 19, 20, 21, 22, 23, 24, 25, 26, 27, 28, 29, 30, 31, 32, 33, 34, 35, 36, 37, 38, 39, 40, 41, 42, 43, 44, 45, 46, 47, 48, 49, 50, 57, 58, 59, 60, 61, 62, 63, 64, 65, 66, 67, 68, 69, 70, 71, 72, 73, 74, 75, 76] (by decide +kernel) (by decide +kernel)
set_option maxRecDepth 20000 in
theorem gX4_undo_X2_takeBack : GoodIn wsX4_undo (wsV RX4 136 RX2 yX2_takeBack wsX2_takeBack) := goodIn_app (goodIn_of _ (by decide +kernel)) ggX4_undo_X2_takeBack
theorem dX4_undo_0 : decode cX4_undo 0 = .ok (.aload_n 0, 1) := by decide +kernel
theorem dX4_undo_1 : decode cX4_undo 1 = .ok (.getfield 22, 3) := by decide +kernel
theorem dX4_undo_4 : decode cX4_undo 4 = .ok (.getfield 78, 3) := by decide +kernel
theorem dX4_undo_7 : decode cX4_undo 7 = .ok (.ifCond .ne 6, 3) := by decide +kernel
theorem dX4_undo_10 : decode cX4_undo 10 = .ok (.bipush (-5), 2) := by decide +kernel
theorem dX4_undo_12 : decode cX4_undo 12 = .ok (.ireturn, 1) := by decide +kernel
theorem dX4_undo_13 : decode cX4_undo 13 = .ok (.aload_n 0, 1) := by decide +kernel
theorem dX4_undo_14 : decode cX4_undo 14 = .ok (.getfield 22, 3) := by decide +kernel
theorem dX4_undo_17 : decode cX4_undo 17 = .ok (.aload_n 0, 1) := by decide +kernel
theorem dX4_undo_18 : decode cX4_undo 18 = .ok (.getfield 10, 3) := by decide +kernel
theorem dX4_undo_21 : decode cX4_undo 21 = .ok (.invokevirtual 136, 3) := by decide +kernel
theorem dX4_undo_24 : decode cX4_undo 24 = .ok (.aload_n 0, 1) := by decide +kernel
theorem dX4_undo_25 : decode cX4_undo 25 = .ok (.getfield 22, 3) := by decide +kernel
theorem dX4_undo_28 : decode cX4_undo 28 = .ok (.getfield 78, 3) := by decide +kernel
theorem dX4_undo_31 : decode cX4_undo 31 = .ok (.ireturn, 1) := by decide +kernel
