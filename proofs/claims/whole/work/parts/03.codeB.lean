set_option maxRecDepth 20000 in
theorem ggX4_init_X0_init : GoodIn wsX4_init wsX0_init := goodIn_r _ [22, 23, 2, 3, 24, 25, 26, 27, 28, 29, 30, 31, 32, 33, 34, 35, 36, 37, 38, 39, 40, 41, 42, 43, 44, 57, 58, 59, 60, 61, 62, 63, 64, 65, 66, 78, 79, 80, 81, 82, 83, 84] (by decide +kernel) (by decide +kernel)
set_option maxRecDepth 20000 in
theorem gX4_init_X0_init : GoodIn wsX4_init (wsX0_init) := ggX4_init_X0_init
set_option maxRecDepth 20000 in
theorem ggX4_init_X2_init : GoodIn wsX4_init wsX2_init := goodIn_r _ [47, 48, 2, 3, 49, 50, 5, 6, 51, 21, 22, 23, 24, 25, 26, 27, 28, 29, 30, 31, 32, 33, 34, 35, 36, 37, 38, 39, 40, 41, 42, 43, 44, 73, 74, 75, 57, 58, 59, 60, 61, 62, 63, 64, 65, 66, 78, 79, 80, 81, 82, 83, 84] (by decide +kernel) (by decide +kernel)
set_option maxRecDepth 20000 in
theorem gX4_init_X2_init : GoodIn wsX4_init (wsX2_init) := ggX4_init_X2_init
set_option maxRecDepth 20000 in
theorem ggX4_init_X3_init : GoodIn wsX4_init wsX3_init := goodIn_r _ [53, 54, 2, 3, 55, 56, 76, 77] (by decide +kernel) (by decide +kernel)
set_option maxRecDepth 20000 in
theorem gX4_init_X3_init_n36 : GoodIn wsX4_init (wsX3_init) := ggX4_init_X3_init
theorem dX4_init_0 : decode cX4_init 0 = .ok (.aload_n 0, 1) := by decide +kernel
theorem dX4_init_1 : decode cX4_init 1 = .ok (.invokespecial 1, 3) := by decide +kernel
theorem dX4_init_4 : decode cX4_init 4 = .ok (.aload_n 0, 1) := by decide +kernel
theorem dX4_init_5 : decode cX4_init 5 = .ok (.new 7, 3) := by decide +kernel
theorem dX4_init_8 : decode cX4_init 8 = .ok (.dup, 1) := by decide +kernel
theorem dX4_init_9 : decode cX4_init 9 = .ok (.invokespecial 9, 3) := by decide +kernel
theorem dX4_init_12 : decode cX4_init 12 = .ok (.putfield 10, 3) := by decide +kernel
theorem dX4_init_15 : decode cX4_init 15 = .ok (.aload_n 0, 1) := by decide +kernel
theorem dX4_init_16 : decode cX4_init 16 = .ok (.new 7, 3) := by decide +kernel
theorem dX4_init_19 : decode cX4_init 19 = .ok (.dup, 1) := by decide +kernel
theorem dX4_init_20 : decode cX4_init 20 = .ok (.invokespecial 9, 3) := by decide +kernel
theorem dX4_init_23 : decode cX4_init 23 = .ok (.putfield 16, 3) := by decide +kernel
theorem dX4_init_26 : decode cX4_init 26 = .ok (.aload_n 0, 1) := by decide +kernel
theorem dX4_init_27 : decode cX4_init 27 = .ok (.new 19, 3) := by decide +kernel
theorem dX4_init_30 : decode cX4_init 30 = .ok (.dup, 1) := by decide +kernel
theorem dX4_init_31 : decode cX4_init 31 = .ok (.invokespecial 21, 3) := by decide +kernel
theorem dX4_init_34 : decode cX4_init 34 = .ok (.putfield 22, 3) := by decide +kernel
theorem dX4_init_37 : decode cX4_init 37 = .ok (.aload_n 0, 1) := by decide +kernel
theorem dX4_init_38 : decode cX4_init 38 = .ok (.iconst 2, 1) := by decide +kernel
theorem dX4_init_39 : decode cX4_init 39 = .ok (.anewarray 7, 3) := by decide +kernel
theorem dX4_init_42 : decode cX4_init 42 = .ok (.dup, 1) := by decide +kernel
theorem dX4_init_43 : decode cX4_init 43 = .ok (.iconst 0, 1) := by decide +kernel
theorem dX4_init_44 : decode cX4_init 44 = .ok (.new 7, 3) := by decide +kernel
theorem dX4_init_47 : decode cX4_init 47 = .ok (.dup, 1) := by decide +kernel
theorem dX4_init_48 : decode cX4_init 48 = .ok (.invokespecial 9, 3) := by decide +kernel
theorem dX4_init_51 : decode cX4_init 51 = .ok (.aastore, 1) := by decide +kernel
theorem dX4_init_52 : decode cX4_init 52 = .ok (.dup, 1) := by decide +kernel
theorem dX4_init_53 : decode cX4_init 53 = .ok (.iconst 1, 1) := by decide +kernel
theorem dX4_init_54 : decode cX4_init 54 = .ok (.new 7, 3) := by decide +kernel
theorem dX4_init_57 : decode cX4_init 57 = .ok (.dup, 1) := by decide +kernel
theorem dX4_init_58 : decode cX4_init 58 = .ok (.invokespecial 9, 3) := by decide +kernel
theorem dX4_init_61 : decode cX4_init 61 = .ok (.aastore, 1) := by decide +kernel
theorem dX4_init_62 : decode cX4_init 62 = .ok (.putfield 26, 3) := by decide +kernel
theorem dX4_init_65 : decode cX4_init 65 = .ok (.aload_n 0, 1) := by decide +kernel
theorem dX4_init_66 : decode cX4_init 66 = .ok (.aload_n 0, 1) := by decide +kernel
theorem dX4_init_67 : decode cX4_init 67 = .ok (.getfield 26, 3) := by decide +kernel
theorem dX4_init_70 : decode cX4_init 70 = .ok (.arraylength, 1) := by decide +kernel
theorem dX4_init_71 : decode cX4_init 71 = .ok (.newarray .boolean, 2) := by decide +kernel
theorem dX4_init_73 : decode cX4_init 73 = .ok (.putfield 30, 3) := by decide +kernel
theorem dX4_init_76 : decode cX4_init 76 = .ok (.aload_n 0, 1) := by decide +kernel
theorem dX4_init_77 : decode cX4_init 77 = .ok (.new 34, 3) := by decide +kernel
theorem dX4_init_80 : decode cX4_init 80 = .ok (.dup, 1) := by decide +kernel
theorem dX4_init_81 : decode cX4_init 81 = .ok (.invokespecial 36, 3) := by decide +kernel
theorem dX4_init_84 : decode cX4_init 84 = .ok (.putfield 37, 3) := by decide +kernel
theorem dX4_init_87 : decode cX4_init 87 = .ok (.return_, 1) := by decide +kernel
set_option maxRecDepth 20000 in
theorem ggX4_set_X2_note : GoodIn wsX4_set wsX2_note := goodIn_r _ [7, 8, 9, 10, 11, 6, 12, 13, 14, 15, 16, 17, 18, 19, 20, 21, 22, 23, 24, 25, 26, 27, 28, 29, 30, 31, 32, 33, 34, 35, 36, 37, 38, 39, 40, 41, 42, 43, 44, 45, 46, 47, 48, 49, 71, 72, 73, 74, 75, 76, 77, 78, 79, 80, 81, 82, 83, 84, 85, 86, 87, 88, 89, 90] (by decide +kernel) (by decide +kernel)
set_option maxRecDepth 20000 in
theorem gX4_set_X2_note : GoodIn wsX4_set (wsV RX4 41 RX2 yX2_note wsX2_note) := goodIn_app (goodIn_of _ (by decide +kernel)) ggX4_set_X2_note
set_option maxRecDepth 20000 in
theorem ggX4_set_X0_choose : GoodIn wsX4_set wsX0_choose := goodIn_r _ [53, 24, 54, 55, 74, 75, 76, 77, 78, 79, 80, 81, 82, 83] (by decide +kernel) (by decide +kernel)
set_option maxRecDepth 20000 in
theorem gX4_set_X0_choose : GoodIn wsX4_set (wsV RX4 45 RX0 yX0_choose wsX0_choose) := goodIn_app (goodIn_of _ (by decide +kernel)) ggX4_set_X0_choose
set_option maxRecDepth 20000 in
theorem ggX4_set_X4_recorded : GoodIn wsX4_set wsX4_recorded := goodIn_r _ [60, 1, 61, 62, 63, 6, 64, 8, 14, 15, 16, 17, 18, 65, 66, 67, 68, 69, 70, 71, 72, 73] (by decide +kernel) (by decide +kernel)
set_option maxRecDepth 20000 in
theorem gX4_set_X4_recorded : GoodIn wsX4_set (wsV RX4 49 RX4 yX4_recorded wsX4_recorded) := goodIn_app (goodIn_of _ (by decide +kernel)) ggX4_set_X4_recorded
theorem dX4_set_0 : decode cX4_set 0 = .ok (.aload_n 0, 1) := by decide +kernel
theorem dX4_set_1 : decode cX4_set 1 = .ok (.getfield 22, 3) := by decide +kernel
theorem dX4_set_4 : decode cX4_set 4 = .ok (.aload_n 0, 1) := by decide +kernel
theorem dX4_set_5 : decode cX4_set 5 = .ok (.getfield 10, 3) := by decide +kernel
theorem dX4_set_8 : decode cX4_set 8 = .ok (.invokevirtual 41, 3) := by decide +kernel
theorem dX4_set_11 : decode cX4_set 11 = .ok (.aload_n 0, 1) := by decide +kernel
theorem dX4_set_12 : decode cX4_set 12 = .ok (.aload_n 0, 1) := by decide +kernel
theorem dX4_set_13 : decode cX4_set 13 = .ok (.getfield 10, 3) := by decide +kernel
theorem dX4_set_16 : decode cX4_set 16 = .ok (.iload_n 1, 1) := by decide +kernel
theorem dX4_set_17 : decode cX4_set 17 = .ok (.iload_n 2, 1) := by decide +kernel
theorem dX4_set_18 : decode cX4_set 18 = .ok (.invokevirtual 45, 3) := by decide +kernel
theorem dX4_set_21 : decode cX4_set 21 = .ok (.invokevirtual 49, 3) := by decide +kernel
theorem dX4_set_24 : decode cX4_set 24 = .ok (.ireturn, 1) := by decide +kernel
set_option maxRecDepth 20000 in
theorem ggX4_arrive_X2_note : GoodIn wsX4_arrive wsX2_note := goodIn_r _ [7, 8, 9, 10, 11, 6, 12, 13, 14, 15, 16, 17, 18, 19, 20, 21, 22, 23, 24, 25, 26, 27, 28, 29, 30, 31, 32, 33, 34, 35, 36, 37, 38, 39, 40, 41, 42, 43, 44, 45, 46, 47, 48, 49, 80, 81, 82, 83, 84, 85, 86, 87, 88, 89, 90, 91, 92, 93, 94, 95, 96, 97, 98, 99] (by decide +kernel) (by decide +kernel)
set_option maxRecDepth 20000 in
theorem gX4_arrive_X2_note : GoodIn wsX4_arrive (wsV RX4 41 RX2 yX2_note wsX2_note) := goodIn_app (goodIn_of _ (by decide +kernel)) ggX4_arrive_X2_note
set_option maxRecDepth 20000 in
theorem ggX4_arrive_X0_takeBox : GoodIn wsX4_arrive wsX0_takeBox := goodIn_r _ [53, 30, 31, 29, 54, 55, 41, 56, 57, 58, 59, 60, 43, 44, 61, 62, 63, 64, 45, 46, 47, 48, 49, 83, 84, 85, 86, 87, 88, 89, 90, 91, 92, 93, 94, 95, 96, 97, 98, 99] (by decide +kernel) (by decide +kernel)
set_option maxRecDepth 20000 in
theorem gX4_arrive_X0_takeBox : GoodIn wsX4_arrive (wsV RX4 53 RX0 yX0_takeBox wsX0_takeBox) := goodIn_app (goodIn_of _ (by decide +kernel)) ggX4_arrive_X0_takeBox
set_option maxRecDepth 20000 in
theorem ggX4_arrive_X4_recorded : GoodIn wsX4_arrive wsX4_recorded := goodIn_r _ [69, 1, 70, 71, 72, 6, 73, 8, 14, 15, 16, 17, 18, 74, 75, 76, 77, 78, 79, 80, 81, 82] (by decide +kernel) (by decide +kernel)
set_option maxRecDepth 20000 in
theorem gX4_arrive_X4_recorded : GoodIn wsX4_arrive (wsV RX4 49 RX4 yX4_recorded wsX4_recorded) := goodIn_app (goodIn_of _ (by decide +kernel)) ggX4_arrive_X4_recorded
theorem dX4_arrive_0 : decode cX4_arrive 0 = .ok (.aload_n 0, 1) := by decide +kernel
theorem dX4_arrive_1 : decode cX4_arrive 1 = .ok (.getfield 22, 3) := by decide +kernel
theorem dX4_arrive_4 : decode cX4_arrive 4 = .ok (.aload_n 0, 1) := by decide +kernel
theorem dX4_arrive_5 : decode cX4_arrive 5 = .ok (.getfield 10, 3) := by decide +kernel
theorem dX4_arrive_8 : decode cX4_arrive 8 = .ok (.invokevirtual 41, 3) := by decide +kernel
theorem dX4_arrive_11 : decode cX4_arrive 11 = .ok (.aload_n 0, 1) := by decide +kernel
theorem dX4_arrive_12 : decode cX4_arrive 12 = .ok (.aload_n 0, 1) := by decide +kernel
theorem dX4_arrive_13 : decode cX4_arrive 13 = .ok (.getfield 10, 3) := by decide +kernel
theorem dX4_arrive_16 : decode cX4_arrive 16 = .ok (.iload_n 1, 1) := by decide +kernel
theorem dX4_arrive_17 : decode cX4_arrive 17 = .ok (.invokevirtual 53, 3) := by decide +kernel
theorem dX4_arrive_20 : decode cX4_arrive 20 = .ok (.invokevirtual 49, 3) := by decide +kernel
theorem dX4_arrive_23 : decode cX4_arrive 23 = .ok (.ireturn, 1) := by decide +kernel
set_option maxRecDepth 20000 in
theorem ggX4_turn_X2_note : GoodIn wsX4_turn wsX2_note := goodIn_r _ [7, 8, 9, 10, 11, 6, 12, 13, 14, 15, 16, 17, 18, 19, 20, 21, 22, 23, 24, 25, 26, 27, 28, 29, 30, 31, 32, 33, 34, 35, 36, 37, 38, 39, 40, 41, 42, 43, 44, 45, 46, 47, 48, 49, 89, 90, 91, 92, 93, 94, 95, 96, 97, 98, 99, 100, 101, 102, 103, 104, 105, 106, 107, 108] (by decide +kernel) (by decide +kernel)
set_option maxRecDepth 20000 in
theorem gX4_turn_X2_note : GoodIn wsX4_turn (wsV RX4 41 RX2 yX2_note wsX2_note) := goodIn_app (goodIn_of _ (by decide +kernel)) ggX4_turn_X2_note
set_option maxRecDepth 20000 in
theorem ggX4_turn_X0_turnBox : GoodIn wsX4_turn wsX0_turnBox := goodIn_r _ [53, 31, 54, 55, 56, 57, 58, 22, 59, 30, 60, 61, 41, 62, 63, 64, 17, 65, 66, 67, 68, 69, 70, 71, 72, 73, 43, 44, 92, 93, 94, 95, 96, 97, 98, 99, 100, 101, 102, 103, 104, 105, 106, 107, 108] (by decide +kernel) (by decide +kernel)
set_option maxRecDepth 20000 in
theorem gX4_turn_X0_turnBox : GoodIn wsX4_turn (wsV RX4 56 RX0 yX0_turnBox wsX0_turnBox) := goodIn_app (goodIn_of _ (by decide +kernel)) ggX4_turn_X0_turnBox
set_option maxRecDepth 20000 in
theorem ggX4_turn_X4_recorded : GoodIn wsX4_turn wsX4_recorded := goodIn_r _ [78, 1, 79, 80, 81, 6, 82, 8, 14, 15, 16, 17, 18, 83, 84, 85, 86, 87, 88, 89, 90, 91] (by decide +kernel) (by decide +kernel)
set_option maxRecDepth 20000 in
theorem gX4_turn_X4_recorded : GoodIn wsX4_turn (wsV RX4 49 RX4 yX4_recorded wsX4_recorded) := goodIn_app (goodIn_of _ (by decide +kernel)) ggX4_turn_X4_recorded
theorem dX4_turn_0 : decode cX4_turn 0 = .ok (.aload_n 0, 1) := by decide +kernel
theorem dX4_turn_1 : decode cX4_turn 1 = .ok (.getfield 22, 3) := by decide +kernel
theorem dX4_turn_4 : decode cX4_turn 4 = .ok (.aload_n 0, 1) := by decide +kernel
theorem dX4_turn_5 : decode cX4_turn 5 = .ok (.getfield 10, 3) := by decide +kernel
theorem dX4_turn_8 : decode cX4_turn 8 = .ok (.invokevirtual 41, 3) := by decide +kernel
theorem dX4_turn_11 : decode cX4_turn 11 = .ok (.aload_n 0, 1) := by decide +kernel
theorem dX4_turn_12 : decode cX4_turn 12 = .ok (.aload_n 0, 1) := by decide +kernel
theorem dX4_turn_13 : decode cX4_turn 13 = .ok (.getfield 10, 3) := by decide +kernel
theorem dX4_turn_16 : decode cX4_turn 16 = .ok (.iload_n 1, 1) := by decide +kernel
theorem dX4_turn_17 : decode cX4_turn 17 = .ok (.iload_n 2, 1) := by decide +kernel
theorem dX4_turn_18 : decode cX4_turn 18 = .ok (.invokevirtual 56, 3) := by decide +kernel
theorem dX4_turn_21 : decode cX4_turn 21 = .ok (.invokevirtual 49, 3) := by decide +kernel
theorem dX4_turn_24 : decode cX4_turn 24 = .ok (.ireturn, 1) := by decide +kernel
set_option maxRecDepth 20000 in
theorem ggX4_pass_X2_note : GoodIn wsX4_pass wsX2_note := goodIn_r _ [7, 8, 9, 10, 11, 6, 12, 13, 14, 15, 16, 17, 18, 19, 20, 21, 22, 23, 24, 25, 26, 27, 28, 29, 30, 31, 32, 33, 34, 35, 36, 37, 38, 39, 40, 41, 42, 43, 44, 45, 46, 47, 48, 49, 149, 150, 151, 152, 153, 154, 155, 156, 157, 158, 159, 160, 161, 162, 163, 164, 165, 166, 167, 168] (by decide +kernel) (by decide +kernel)
set_option maxRecDepth 20000 in
theorem gX4_pass_X2_note : GoodIn wsX4_pass (wsV RX4 41 RX2 yX2_note wsX2_note) := goodIn_app (goodIn_of _ (by decide +kernel)) ggX4_pass_X2_note
set_option maxRecDepth 20000 in
theorem ggX4_pass_X0_letPass : GoodIn wsX4_pass wsX0_letPass := goodIn_r _ [53, 29, 54, 55, 56, 22, 57, 58, 59, 60, 61, 62, 63, 64, 65, 24, 30, 31, 66, 37, 67, 68, 69, 70, 71, 72, 73, 74, 75, 32, 33, 34, 76, 77, 78, 79, 35, 36, 80, 81, 82, 83, 84, 85, 86, 87, 88, 89, 90, 91, 92, 93, 94, 95, 96, 97, 98, 99, 100, 101, 102, 41, 103, 43, 44, 104, 105, 106, 107, 108, 109, 110, 111, 112, 113, 114, 115, 116, 117, 118, 119, 120, 121, 122, 123, 124, 125, 126, 127, 128, 129, 130, 131, 132, 133, 152, 153, 154, 155, 156, 157, 158, 159, 160, 161, 162, 163, 164, 165, 166, 167, 168] (by decide +kernel) (by decide +kernel)
set_option maxRecDepth 20000 in
theorem gX4_pass_X0_letPass : GoodIn wsX4_pass (wsV RX4 59 RX0 yX0_letPass wsX0_letPass) := goodIn_app (goodIn_of _ (by decide +kernel)) ggX4_pass_X0_letPass
set_option maxRecDepth 20000 in
theorem ggX4_pass_X4_recorded : GoodIn wsX4_pass wsX4_recorded := goodIn_r _ [138, 1, 139, 140, 141, 6, 142, 8, 14, 15, 16, 17, 18, 143, 144, 145, 146, 147, 148, 149, 150, 151] (by decide +kernel) (by decide +kernel)
set_option maxRecDepth 20000 in
theorem gX4_pass_X4_recorded : GoodIn wsX4_pass (wsV RX4 49 RX4 yX4_recorded wsX4_recorded) := goodIn_app (goodIn_of _ (by decide +kernel)) ggX4_pass_X4_recorded
theorem dX4_pass_0 : decode cX4_pass 0 = .ok (.aload_n 0, 1) := by decide +kernel
theorem dX4_pass_1 : decode cX4_pass 1 = .ok (.getfield 22, 3) := by decide +kernel
theorem dX4_pass_4 : decode cX4_pass 4 = .ok (.aload_n 0, 1) := by decide +kernel
theorem dX4_pass_5 : decode cX4_pass 5 = .ok (.getfield 10, 3) := by decide +kernel
theorem dX4_pass_8 : decode cX4_pass 8 = .ok (.invokevirtual 41, 3) := by decide +kernel
theorem dX4_pass_11 : decode cX4_pass 11 = .ok (.aload_n 0, 1) := by decide +kernel
theorem dX4_pass_12 : decode cX4_pass 12 = .ok (.aload_n 0, 1) := by decide +kernel
theorem dX4_pass_13 : decode cX4_pass 13 = .ok (.getfield 10, 3) := by decide +kernel
theorem dX4_pass_16 : decode cX4_pass 16 = .ok (.iload_n 1, 1) := by decide +kernel
theorem dX4_pass_17 : decode cX4_pass 17 = .ok (.invokevirtual 59, 3) := by decide +kernel
theorem dX4_pass_20 : decode cX4_pass 20 = .ok (.invokevirtual 49, 3) := by decide +kernel
theorem dX4_pass_23 : decode cX4_pass 23 = .ok (.ireturn, 1) := by decide +kernel
set_option maxRecDepth 20000 in
theorem ggX4_recorded_X2_keepNoted : GoodIn wsX4_recorded wsX2_keepNoted := goodIn_r _ [6, 7, 8, 9, 10, 11, 12, 19, 20, 21] (by decide +kernel) (by decide +kernel)
set_option maxRecDepth 20000 in
theorem gX4_recorded_X2_keepNoted : GoodIn wsX4_recorded (wsV RX4 62 RX2 yX2_keepNoted wsX2_keepNoted) := goodIn_app (goodIn_of _ (by decide +kernel)) ggX4_recorded_X2_keepNoted
theorem dX4_recorded_0 : decode cX4_recorded 0 = .ok (.iload_n 1, 1) := by decide +kernel
theorem dX4_recorded_1 : decode cX4_recorded 1 = .ok (.ifCond .lt 10, 3) := by decide +kernel
theorem dX4_recorded_4 : decode cX4_recorded 4 = .ok (.aload_n 0, 1) := by decide +kernel
theorem dX4_recorded_5 : decode cX4_recorded 5 = .ok (.getfield 22, 3) := by decide +kernel
theorem dX4_recorded_8 : decode cX4_recorded 8 = .ok (.invokevirtual 62, 3) := by decide +kernel
theorem dX4_recorded_11 : decode cX4_recorded 11 = .ok (.iload_n 1, 1) := by decide +kernel
theorem dX4_recorded_12 : decode cX4_recorded 12 = .ok (.ireturn, 1) := by decide +kernel
set_option maxRecDepth 20000 in
theorem ggX4_box_X0_aboutBox : GoodIn wsX4_box wsX0_aboutBox := goodIn_r _ [6, 7, 8, 9, 10, 5, 11, 12, 13, 14, 15, 16, 17, 18, 19, 20, 21, 22, 23, 24, 31, 32, 33, 34, 35, 36, 37, 38, 39, 40, 41, 42, 43, 44, 45, 46, 47] (by decide +kernel) (by decide +kernel)
set_option maxRecDepth 20000 in
theorem gX4_box_X0_aboutBox : GoodIn wsX4_box (wsV RX4 65 RX0 yX0_aboutBox wsX0_aboutBox) := goodIn_app (goodIn_of _ (by decide +kernel)) ggX4_box_X0_aboutBox
theorem dX4_box_0 : decode cX4_box 0 = .ok (.aload_n 0, 1) := by decide +kernel
theorem dX4_box_1 : decode cX4_box 1 = .ok (.getfield 10, 3) := by decide +kernel
theorem dX4_box_4 : decode cX4_box 4 = .ok (.iload_n 1, 1) := by decide +kernel
theorem dX4_box_5 : decode cX4_box 5 = .ok (.iload_n 2, 1) := by decide +kernel
theorem dX4_box_6 : decode cX4_box 6 = .ok (.invokevirtual 65, 3) := by decide +kernel
theorem dX4_box_9 : decode cX4_box 9 = .ok (.ireturn, 1) := by decide +kernel
set_option maxRecDepth 20000 in
theorem ggX4_plan_X0_planAt : GoodIn wsX4_plan wsX0_planAt := goodIn_r _ [6, 7, 8, 15, 16, 17, 18, 19, 20, 21, 22, 23, 24] (by decide +kernel) (by decide +kernel)
set_option maxRecDepth 20000 in
theorem gX4_plan_X0_planAt : GoodIn wsX4_plan (wsV RX4 68 RX0 yX0_planAt wsX0_planAt) := goodIn_app (goodIn_of _ (by decide +kernel)) ggX4_plan_X0_planAt
theorem dX4_plan_0 : decode cX4_plan 0 = .ok (.aload_n 0, 1) := by decide +kernel
theorem dX4_plan_1 : decode cX4_plan 1 = .ok (.getfield 10, 3) := by decide +kernel
theorem dX4_plan_4 : decode cX4_plan 4 = .ok (.iload_n 1, 1) := by decide +kernel
theorem dX4_plan_5 : decode cX4_plan 5 = .ok (.invokevirtual 68, 3) := by decide +kernel
theorem dX4_plan_8 : decode cX4_plan 8 = .ok (.ireturn, 1) := by decide +kernel
set_option maxRecDepth 20000 in
theorem ggX4_report_X0_aboutReport : GoodIn wsX4_report wsX0_aboutReport := goodIn_r _ [6, 7, 8, 9, 10, 17, 18, 19, 20, 21, 22, 23, 24, 25, 26] (by decide +kernel) (by decide +kernel)
set_option maxRecDepth 20000 in
theorem gX4_report_X0_aboutReport : GoodIn wsX4_report (wsV RX4 71 RX0 yX0_aboutReport wsX0_aboutReport) := goodIn_app (goodIn_of _ (by decide +kernel)) ggX4_report_X0_aboutReport
theorem dX4_report_0 : decode cX4_report 0 = .ok (.aload_n 0, 1) := by decide +kernel
theorem dX4_report_1 : decode cX4_report 1 = .ok (.getfield 10, 3) := by decide +kernel
theorem dX4_report_4 : decode cX4_report 4 = .ok (.iload_n 1, 1) := by decide +kernel
theorem dX4_report_5 : decode cX4_report 5 = .ok (.iload_n 2, 1) := by decide +kernel
theorem dX4_report_6 : decode cX4_report 6 = .ok (.invokevirtual 71, 3) := by decide +kernel
theorem dX4_report_9 : decode cX4_report 9 = .ok (.ireturn, 1) := by decide +kernel
set_option maxRecDepth 20000 in
theorem ggX4_count_X0_number : GoodIn wsX4_count wsX0_number := goodIn_r _ [10, 11, 12, 13, 14, 15, 27, 28, 29, 30, 31, 32, 33, 34, 35, 36] (by decide +kernel) (by decide +kernel)
set_option maxRecDepth 20000 in
theorem gX4_count_X0_number : GoodIn wsX4_count (wsV RX4 81 RX0 yX0_number wsX0_number) := goodIn_app (goodIn_of _ (by decide +kernel)) ggX4_count_X0_number
theorem dX4_count_0 : decode cX4_count 0 = .ok (.iload_n 1, 1) := by decide +kernel
theorem dX4_count_1 : decode cX4_count 1 = .ok (.ifCond .lt 9, 3) := by decide +kernel
theorem dX4_count_4 : decode cX4_count 4 = .ok (.iload_n 1, 1) := by decide +kernel
theorem dX4_count_5 : decode cX4_count 5 = .ok (.bipush 23, 2) := by decide +kernel
theorem dX4_count_7 : decode cX4_count 7 = .ok (.if_icmp .le 6, 3) := by decide +kernel
theorem dX4_count_10 : decode cX4_count 10 = .ok (.bipush (-2), 2) := by decide +kernel
theorem dX4_count_12 : decode cX4_count 12 = .ok (.ireturn, 1) := by decide +kernel
theorem dX4_count_13 : decode cX4_count 13 = .ok (.iload_n 1, 1) := by decide +kernel
theorem dX4_count_14 : decode cX4_count 14 = .ok (.bipush 22, 2) := by decide +kernel
theorem dX4_count_16 : decode cX4_count 16 = .ok (.if_icmp .ne 11, 3) := by decide +kernel
theorem dX4_count_19 : decode cX4_count 19 = .ok (.aload_n 0, 1) := by decide +kernel
theorem dX4_count_20 : decode cX4_count 20 = .ok (.getfield 37, 3) := by decide +kernel
theorem dX4_count_23 : decode cX4_count 23 = .ok (.getfield 74, 3) := by decide +kernel
theorem dX4_count_26 : decode cX4_count 26 = .ok (.ireturn, 1) := by decide +kernel
theorem dX4_count_27 : decode cX4_count 27 = .ok (.iload_n 1, 1) := by decide +kernel
theorem dX4_count_28 : decode cX4_count 28 = .ok (.bipush 23, 2) := by decide +kernel
theorem dX4_count_30 : decode cX4_count 30 = .ok (.if_icmp .ne 11, 3) := by decide +kernel
theorem dX4_count_33 : decode cX4_count 33 = .ok (.aload_n 0, 1) := by decide +kernel
theorem dX4_count_34 : decode cX4_count 34 = .ok (.getfield 22, 3) := by decide +kernel
theorem dX4_count_37 : decode cX4_count 37 = .ok (.getfield 78, 3) := by decide +kernel
theorem dX4_count_40 : decode cX4_count 40 = .ok (.ireturn, 1) := by decide +kernel
theorem dX4_count_41 : decode cX4_count 41 = .ok (.aload_n 0, 1) := by decide +kernel
theorem dX4_count_42 : decode cX4_count 42 = .ok (.getfield 10, 3) := by decide +kernel
theorem dX4_count_45 : decode cX4_count 45 = .ok (.iload_n 1, 1) := by decide +kernel
theorem dX4_count_46 : decode cX4_count 46 = .ok (.invokevirtual 81, 3) := by decide +kernel
theorem dX4_count_49 : decode cX4_count 49 = .ok (.ireturn, 1) := by decide +kernel
set_option maxRecDepth 20000 in
theorem ggX4_ifPass_X4_canTry : GoodIn wsX4_ifPass wsX4_canTry := goodIn_r _ [7] (by decide +kernel) (by decide +kernel)
set_option maxRecDepth 20000 in
theorem gX4_ifPass_X4_canTry : GoodIn wsX4_ifPass (va_wsS RX4 84 yX4_canTry wsX4_canTry) := goodIn_app (goodIn_of _ (by decide +kernel)) ggX4_ifPass_X4_canTry
set_option maxRecDepth 20000 in
theorem ggX4_ifPass_X0_copyFrom : GoodIn wsX4_ifPass wsX0_copyFrom := goodIn_r _ [12, 13, 14, 15, 16, 17, 18, 19, 20, 21, 22, 23, 24, 25, 26, 27, 28, 29, 30, 31, 32, 33, 34, 35, 36, 37, 38, 125, 126, 127, 128, 129, 130, 131, 132, 133, 134, 135, 136, 137, 138, 139, 140, 141] (by decide +kernel) (by decide +kernel)
set_option maxRecDepth 20000 in
theorem gX4_ifPass_X0_copyFrom : GoodIn wsX4_ifPass (wsV RX4 92 RX0 yX0_copyFrom wsX0_copyFrom) := goodIn_app (goodIn_of _ (by decide +kernel)) ggX4_ifPass_X0_copyFrom
set_option maxRecDepth 20000 in
theorem ggX4_ifPass_X0_tickOn : GoodIn wsX4_ifPass wsX0_tickOn := goodIn_r _ [42, 18, 43, 44, 45, 11, 46, 13, 19, 20, 47, 26, 48, 49, 50, 51, 52, 53, 54, 55, 56, 21, 22, 23, 57, 58, 59, 60, 24, 25, 61, 62, 63, 64, 65, 66, 67, 68, 69, 70, 71, 72, 73, 74, 75, 76, 77, 78, 79, 80, 81, 82, 83, 30, 84, 32, 33, 85, 86, 87, 88, 89, 90, 91, 92, 93, 94, 95, 96, 97, 98, 99, 100, 101, 102, 103, 104, 105, 106, 107, 108, 109, 110, 111, 112, 113, 114, 125, 126, 127, 128, 129, 130, 131, 132, 133, 134, 135, 136, 137, 138, 139, 140, 141] (by decide +kernel) (by decide +kernel)
set_option maxRecDepth 20000 in
theorem gX4_ifPass_X0_tickOn : GoodIn wsX4_ifPass (wsV RX4 95 RX0 yX0_tickOn wsX0_tickOn) := goodIn_app (goodIn_of _ (by decide +kernel)) ggX4_ifPass_X0_tickOn
set_option maxRecDepth 20000 in
theorem ggX4_ifPass_X0_number : GoodIn wsX4_ifPass wsX0_number := goodIn_r _ [118, 19, 21, 24, 18, 13, 125, 126, 127, 128, 129, 130, 131, 132, 133, 134] (by decide +kernel) (by decide +kernel)
set_option maxRecDepth 20000 in
theorem gX4_ifPass_X0_number : GoodIn wsX4_ifPass (wsV RX4 81 RX0 yX0_number wsX0_number) := goodIn_app (goodIn_of _ (by decide +kernel)) ggX4_ifPass_X0_number
theorem dX4_ifPass_0 : decode cX4_ifPass 0 = .ok (.iload_n 1, 1) := by decide +kernel
theorem dX4_ifPass_1 : decode cX4_ifPass 1 = .ok (.invokestatic 84, 3) := by decide +kernel
theorem dX4_ifPass_4 : decode cX4_ifPass 4 = .ok (.ifCond .eq 15, 3) := by decide +kernel
theorem dX4_ifPass_7 : decode cX4_ifPass 7 = .ok (.iload_n 2, 1) := by decide +kernel
theorem dX4_ifPass_8 : decode cX4_ifPass 8 = .ok (.ifCond .lt 11, 3) := by decide +kernel
theorem dX4_ifPass_11 : decode cX4_ifPass 11 = .ok (.iload_n 2, 1) := by decide +kernel
theorem dX4_ifPass_12 : decode cX4_ifPass 12 = .ok (.getstatic 88, 3) := by decide +kernel
theorem dX4_ifPass_15 : decode cX4_ifPass 15 = .ok (.arraylength, 1) := by decide +kernel
theorem dX4_ifPass_16 : decode cX4_ifPass 16 = .ok (.if_icmp .le 6, 3) := by decide +kernel
theorem dX4_ifPass_19 : decode cX4_ifPass 19 = .ok (.bipush (-2), 2) := by decide +kernel
theorem dX4_ifPass_21 : decode cX4_ifPass 21 = .ok (.ireturn, 1) := by decide +kernel
theorem dX4_ifPass_22 : decode cX4_ifPass 22 = .ok (.aload_n 0, 1) := by decide +kernel
theorem dX4_ifPass_23 : decode cX4_ifPass 23 = .ok (.getfield 16, 3) := by decide +kernel
theorem dX4_ifPass_26 : decode cX4_ifPass 26 = .ok (.aload_n 0, 1) := by decide +kernel
theorem dX4_ifPass_27 : decode cX4_ifPass 27 = .ok (.getfield 10, 3) := by decide +kernel
theorem dX4_ifPass_30 : decode cX4_ifPass 30 = .ok (.invokevirtual 92, 3) := by decide +kernel
theorem dX4_ifPass_33 : decode cX4_ifPass 33 = .ok (.aload_n 0, 1) := by decide +kernel
theorem dX4_ifPass_34 : decode cX4_ifPass 34 = .ok (.getfield 16, 3) := by decide +kernel
theorem dX4_ifPass_37 : decode cX4_ifPass 37 = .ok (.iload_n 1, 1) := by decide +kernel
theorem dX4_ifPass_38 : decode cX4_ifPass 38 = .ok (.invokevirtual 95, 3) := by decide +kernel
theorem dX4_ifPass_41 : decode cX4_ifPass 41 = .ok (.iload_n 2, 1) := by decide +kernel
theorem dX4_ifPass_42 : decode cX4_ifPass 42 = .ok (.getstatic 88, 3) := by decide +kernel
theorem dX4_ifPass_45 : decode cX4_ifPass 45 = .ok (.arraylength, 1) := by decide +kernel
theorem dX4_ifPass_46 : decode cX4_ifPass 46 = .ok (.if_icmp .ne 13, 3) := by decide +kernel
theorem dX4_ifPass_49 : decode cX4_ifPass 49 = .ok (.aload_n 0, 1) := by decide +kernel
theorem dX4_ifPass_50 : decode cX4_ifPass 50 = .ok (.getfield 16, 3) := by decide +kernel
theorem dX4_ifPass_53 : decode cX4_ifPass 53 = .ok (.bipush 10, 2) := by decide +kernel
theorem dX4_ifPass_55 : decode cX4_ifPass 55 = .ok (.invokevirtual 81, 3) := by decide +kernel
theorem dX4_ifPass_58 : decode cX4_ifPass 58 = .ok (.ireturn, 1) := by decide +kernel
theorem dX4_ifPass_59 : decode cX4_ifPass 59 = .ok (.aload_n 0, 1) := by decide +kernel
theorem dX4_ifPass_60 : decode cX4_ifPass 60 = .ok (.getfield 16, 3) := by decide +kernel
theorem dX4_ifPass_63 : decode cX4_ifPass 63 = .ok (.getstatic 88, 3) := by decide +kernel
theorem dX4_ifPass_66 : decode cX4_ifPass 66 = .ok (.iload_n 2, 1) := by decide +kernel
theorem dX4_ifPass_67 : decode cX4_ifPass 67 = .ok (.iaload, 1) := by decide +kernel
theorem dX4_ifPass_68 : decode cX4_ifPass 68 = .ok (.invokevirtual 81, 3) := by decide +kernel
theorem dX4_ifPass_71 : decode cX4_ifPass 71 = .ok (.aload_n 0, 1) := by decide +kernel
theorem dX4_ifPass_72 : decode cX4_ifPass 72 = .ok (.getfield 10, 3) := by decide +kernel
theorem dX4_ifPass_75 : decode cX4_ifPass 75 = .ok (.getstatic 88, 3) := by decide +kernel
theorem dX4_ifPass_78 : decode cX4_ifPass 78 = .ok (.iload_n 2, 1) := by decide +kernel
theorem dX4_ifPass_79 : decode cX4_ifPass 79 = .ok (.iaload, 1) := by decide +kernel
theorem dX4_ifPass_80 : decode cX4_ifPass 80 = .ok (.invokevirtual 81, 3) := by decide +kernel
theorem dX4_ifPass_83 : decode cX4_ifPass 83 = .ok (.isub, 1) := by decide +kernel
theorem dX4_ifPass_84 : decode cX4_ifPass 84 = .ok (.ireturn, 1) := by decide +kernel
set_option maxRecDepth 20000 in
theorem ggX4_bestGuess_X4_canTry : GoodIn wsX4_bestGuess wsX4_canTry := goodIn_r _ [4] (by decide +kernel) (by decide +kernel)
set_option maxRecDepth 20000 in
theorem gX4_bestGuess_X4_canTry : GoodIn wsX4_bestGuess (va_wsS RX4 84 yX4_canTry wsX4_canTry) := goodIn_app (goodIn_of _ (by decide +kernel)) ggX4_bestGuess_X4_canTry
set_option maxRecDepth 20000 in
theorem ggX4_bestGuess_X4_goodWithGuess : GoodIn wsX4_bestGuess wsX4_goodWithGuess := goodIn_r _ [8, 9, 10, 11, 12, 13, 14, 15, 16, 17, 18, 19, 20, 21, 22, 23, 24, 25, 26, 27, 28, 29, 30, 31, 32, 33, 34, 35, 36, 37, 38, 39, 40, 41, 42, 43, 44, 45, 46, 47, 48, 49, 50, 51, 52, 53, 54, 55, 56, 57, 58, 59, 60, 61, 62, 63, 64, 65, 66, 67, 68, 69, 70, 71, 72, 73, 74, 75, 76, 77, 78, 79, 80, 81, 82, 83, 84, 85, 86, 87, 88, 89, 90, 91, 92, 93, 94, 95, 96, 97, 98, 99, 100, 101, 102, 103, 104, 105, 106, 107, 108, 109, 110, 111, 112, 113, 114, 115, 116, 117, 118, 119, 120, 121, 122, 123, 124, 125, 126, 127, 128, 129, 130, 131, 132, 133, 134, 135, 136, 137, 138, 139, 140, 141, 142, 143, 144, 145] (by decide +kernel) (by decide +kernel)
set_option maxRecDepth 20000 in
theorem gX4_bestGuess_X4_goodWithGuess : GoodIn wsX4_bestGuess (wsV RX4 99 RX4 yX4_goodWithGuess wsX4_goodWithGuess) := goodIn_app (goodIn_of _ (by decide +kernel)) ggX4_bestGuess_X4_goodWithGuess
theorem dX4_bestGuess_0 : decode cX4_bestGuess 0 = .ok (.iload_n 1, 1) := by decide +kernel
theorem dX4_bestGuess_1 : decode cX4_bestGuess 1 = .ok (.invokestatic 84, 3) := by decide +kernel
theorem dX4_bestGuess_4 : decode cX4_bestGuess 4 = .ok (.ifCond .eq 12, 3) := by decide +kernel
theorem dX4_bestGuess_7 : decode cX4_bestGuess 7 = .ok (.iload_n 2, 1) := by decide +kernel
theorem dX4_bestGuess_8 : decode cX4_bestGuess 8 = .ok (.ifCond .lt 8, 3) := by decide +kernel
theorem dX4_bestGuess_11 : decode cX4_bestGuess 11 = .ok (.iload_n 2, 1) := by decide +kernel
theorem dX4_bestGuess_12 : decode cX4_bestGuess 12 = .ok (.iconst 1, 1) := by decide +kernel
theorem dX4_bestGuess_13 : decode cX4_bestGuess 13 = .ok (.if_icmp .le 6, 3) := by decide +kernel
theorem dX4_bestGuess_16 : decode cX4_bestGuess 16 = .ok (.bipush (-2), 2) := by decide +kernel
theorem dX4_bestGuess_18 : decode cX4_bestGuess 18 = .ok (.ireturn, 1) := by decide +kernel
theorem dX4_bestGuess_19 : decode cX4_bestGuess 19 = .ok (.iconst 0, 1) := by decide +kernel
theorem dX4_bestGuess_20 : decode cX4_bestGuess 20 = .ok (.istore_n 3, 1) := by decide +kernel
theorem dX4_bestGuess_21 : decode cX4_bestGuess 21 = .ok (.iconst (-1), 1) := by decide +kernel
theorem dX4_bestGuess_22 : decode cX4_bestGuess 22 = .ok (.istore 4, 2) := by decide +kernel
theorem dX4_bestGuess_24 : decode cX4_bestGuess 24 = .ok (.iconst 0, 1) := by decide +kernel
theorem dX4_bestGuess_25 : decode cX4_bestGuess 25 = .ok (.istore 5, 2) := by decide +kernel
theorem dX4_bestGuess_27 : decode cX4_bestGuess 27 = .ok (.iload 5, 2) := by decide +kernel
theorem dX4_bestGuess_29 : decode cX4_bestGuess 29 = .ok (.iconst 5, 1) := by decide +kernel
theorem dX4_bestGuess_30 : decode cX4_bestGuess 30 = .ok (.if_icmp .gt 32, 3) := by decide +kernel
theorem dX4_bestGuess_33 : decode cX4_bestGuess 33 = .ok (.aload_n 0, 1) := by decide +kernel
theorem dX4_bestGuess_34 : decode cX4_bestGuess 34 = .ok (.iload 5, 2) := by decide +kernel
theorem dX4_bestGuess_36 : decode cX4_bestGuess 36 = .ok (.iload_n 1, 1) := by decide +kernel
theorem dX4_bestGuess_37 : decode cX4_bestGuess 37 = .ok (.invokevirtual 99, 3) := by decide +kernel
theorem dX4_bestGuess_40 : decode cX4_bestGuess 40 = .ok (.istore 6, 2) := by decide +kernel
theorem dX4_bestGuess_42 : decode cX4_bestGuess 42 = .ok (.iload 6, 2) := by decide +kernel
theorem dX4_bestGuess_44 : decode cX4_bestGuess 44 = .ok (.iload 4, 2) := by decide +kernel
theorem dX4_bestGuess_46 : decode cX4_bestGuess 46 = .ok (.if_icmp .le 10, 3) := by decide +kernel
theorem dX4_bestGuess_49 : decode cX4_bestGuess 49 = .ok (.iload 5, 2) := by decide +kernel
theorem dX4_bestGuess_51 : decode cX4_bestGuess 51 = .ok (.istore_n 3, 1) := by decide +kernel
theorem dX4_bestGuess_52 : decode cX4_bestGuess 52 = .ok (.iload 6, 2) := by decide +kernel
theorem dX4_bestGuess_54 : decode cX4_bestGuess 54 = .ok (.istore 4, 2) := by decide +kernel
theorem dX4_bestGuess_56 : decode cX4_bestGuess 56 = .ok (.iinc 5 1, 3) := by decide +kernel
theorem dX4_bestGuess_59 : decode cX4_bestGuess 59 = .ok (.goto (-32), 3) := by decide +kernel
theorem dX4_bestGuess_62 : decode cX4_bestGuess 62 = .ok (.iload_n 2, 1) := by decide +kernel
theorem dX4_bestGuess_63 : decode cX4_bestGuess 63 = .ok (.ifCond .ne 7, 3) := by decide +kernel
theorem dX4_bestGuess_66 : decode cX4_bestGuess 66 = .ok (.iload_n 3, 1) := by decide +kernel
theorem dX4_bestGuess_67 : decode cX4_bestGuess 67 = .ok (.goto 5, 3) := by decide +kernel
theorem dX4_bestGuess_70 : decode cX4_bestGuess 70 = .ok (.iload 4, 2) := by decide +kernel
theorem dX4_bestGuess_72 : decode cX4_bestGuess 72 = .ok (.ireturn, 1) := by decide +kernel
set_option maxRecDepth 20000 in
theorem ggX4_neededSlack_X4_canTry : GoodIn wsX4_neededSlack wsX4_canTry := goodIn_r _ [4] (by decide +kernel) (by decide +kernel)
set_option maxRecDepth 20000 in
theorem gX4_neededSlack_X4_canTry : GoodIn wsX4_neededSlack (va_wsS RX4 84 yX4_canTry wsX4_canTry) := goodIn_app (goodIn_of _ (by decide +kernel)) ggX4_neededSlack_X4_canTry
set_option maxRecDepth 20000 in
theorem ggX4_neededSlack_X4_starvesWithSlack : GoodIn wsX4_neededSlack wsX4_starvesWithSlack := goodIn_r _ [8, 9, 10, 11, 12, 13, 14, 15, 16, 17, 18, 19, 20, 21, 22, 23, 24, 25, 26, 27, 28, 29, 30, 31, 32, 33, 34, 35, 36, 37, 38, 39, 40, 41, 42, 43, 44, 45, 46, 47, 48, 49, 50, 51, 52, 53, 54, 55, 56, 57, 58, 59, 60, 61, 62, 63, 64, 65, 66, 67, 68, 69, 70, 71, 72, 73, 74, 75, 76, 77, 78, 79, 80, 81, 82, 83, 84, 85, 86, 87, 88, 89, 90, 91, 92, 93, 94, 95, 96, 97, 98, 99, 100, 101, 102, 103, 104, 105, 106, 107, 108, 109, 110, 111, 112, 113, 114, 115, 116, 117, 118, 119, 120, 121, 122, 123, 124, 125, 126, 127, 128, 129, 130, 131, 132, 133, 134, 135, 136, 137, 138, 139, 140, 141, 142, 143, 144, 145] (by decide +kernel) (by decide +kernel)
set_option maxRecDepth 20000 in
theorem gX4_neededSlack_X4_starvesWithSlack : GoodIn wsX4_neededSlack (wsV RX4 102 RX4 yX4_starvesWithSlack wsX4_starvesWithSlack) := goodIn_app (goodIn_of _ (by decide +kernel)) ggX4_neededSlack_X4_starvesWithSlack
theorem dX4_neededSlack_0 : decode cX4_neededSlack 0 = .ok (.iload_n 1, 1) := by decide +kernel
theorem dX4_neededSlack_1 : decode cX4_neededSlack 1 = .ok (.invokestatic 84, 3) := by decide +kernel
theorem dX4_neededSlack_4 : decode cX4_neededSlack 4 = .ok (.ifCond .ne 6, 3) := by decide +kernel
theorem dX4_neededSlack_7 : decode cX4_neededSlack 7 = .ok (.bipush (-2), 2) := by decide +kernel
theorem dX4_neededSlack_9 : decode cX4_neededSlack 9 = .ok (.ireturn, 1) := by decide +kernel
theorem dX4_neededSlack_10 : decode cX4_neededSlack 10 = .ok (.iconst 0, 1) := by decide +kernel
theorem dX4_neededSlack_11 : decode cX4_neededSlack 11 = .ok (.istore_n 2, 1) := by decide +kernel
theorem dX4_neededSlack_12 : decode cX4_neededSlack 12 = .ok (.bipush 32, 2) := by decide +kernel
theorem dX4_neededSlack_14 : decode cX4_neededSlack 14 = .ok (.istore_n 3, 1) := by decide +kernel
theorem dX4_neededSlack_15 : decode cX4_neededSlack 15 = .ok (.iload_n 3, 1) := by decide +kernel
theorem dX4_neededSlack_16 : decode cX4_neededSlack 16 = .ok (.ifCond .le 38, 3) := by decide +kernel
theorem dX4_neededSlack_19 : decode cX4_neededSlack 19 = .ok (.iload_n 2, 1) := by decide +kernel
theorem dX4_neededSlack_20 : decode cX4_neededSlack 20 = .ok (.iload_n 3, 1) := by decide +kernel
theorem dX4_neededSlack_21 : decode cX4_neededSlack 21 = .ok (.iadd, 1) := by decide +kernel
theorem dX4_neededSlack_22 : decode cX4_neededSlack 22 = .ok (.iconst 1, 1) := by decide +kernel
theorem dX4_neededSlack_23 : decode cX4_neededSlack 23 = .ok (.isub, 1) := by decide +kernel
theorem dX4_neededSlack_24 : decode cX4_neededSlack 24 = .ok (.istore 4, 2) := by decide +kernel
theorem dX4_neededSlack_26 : decode cX4_neededSlack 26 = .ok (.iload 4, 2) := by decide +kernel
theorem dX4_neededSlack_28 : decode cX4_neededSlack 28 = .ok (.bipush 60, 2) := by decide +kernel
theorem dX4_neededSlack_30 : decode cX4_neededSlack 30 = .ok (.if_icmp .gt 17, 3) := by decide +kernel
theorem dX4_neededSlack_33 : decode cX4_neededSlack 33 = .ok (.aload_n 0, 1) := by decide +kernel
theorem dX4_neededSlack_34 : decode cX4_neededSlack 34 = .ok (.iload 4, 2) := by decide +kernel
theorem dX4_neededSlack_36 : decode cX4_neededSlack 36 = .ok (.iload_n 1, 1) := by decide +kernel
theorem dX4_neededSlack_37 : decode cX4_neededSlack 37 = .ok (.invokevirtual 102, 3) := by decide +kernel
theorem dX4_neededSlack_40 : decode cX4_neededSlack 40 = .ok (.ifCond .eq 7, 3) := by decide +kernel
theorem dX4_neededSlack_43 : decode cX4_neededSlack 43 = .ok (.iload_n 2, 1) := by decide +kernel
theorem dX4_neededSlack_44 : decode cX4_neededSlack 44 = .ok (.iload_n 3, 1) := by decide +kernel
theorem dX4_neededSlack_45 : decode cX4_neededSlack 45 = .ok (.iadd, 1) := by decide +kernel
theorem dX4_neededSlack_46 : decode cX4_neededSlack 46 = .ok (.istore_n 2, 1) := by decide +kernel
theorem dX4_neededSlack_47 : decode cX4_neededSlack 47 = .ok (.iload_n 3, 1) := by decide +kernel
theorem dX4_neededSlack_48 : decode cX4_neededSlack 48 = .ok (.iconst 2, 1) := by decide +kernel
theorem dX4_neededSlack_49 : decode cX4_neededSlack 49 = .ok (.idiv, 1) := by decide +kernel
theorem dX4_neededSlack_50 : decode cX4_neededSlack 50 = .ok (.istore_n 3, 1) := by decide +kernel
theorem dX4_neededSlack_51 : decode cX4_neededSlack 51 = .ok (.goto (-36), 3) := by decide +kernel
theorem dX4_neededSlack_54 : decode cX4_neededSlack 54 = .ok (.iload_n 2, 1) := by decide +kernel
theorem dX4_neededSlack_55 : decode cX4_neededSlack 55 = .ok (.bipush 60, 2) := by decide +kernel
theorem dX4_neededSlack_57 : decode cX4_neededSlack 57 = .ok (.if_icmp .le 8, 3) := by decide +kernel
theorem dX4_neededSlack_60 : decode cX4_neededSlack 60 = .ok (.bipush (-6), 2) := by decide +kernel
theorem dX4_neededSlack_62 : decode cX4_neededSlack 62 = .ok (.goto 4, 3) := by decide +kernel
theorem dX4_neededSlack_65 : decode cX4_neededSlack 65 = .ok (.iload_n 2, 1) := by decide +kernel
theorem dX4_neededSlack_66 : decode cX4_neededSlack 66 = .ok (.ireturn, 1) := by decide +kernel
theorem dX4_canTry_0 : decode cX4_canTry 0 = .ok (.iload_n 0, 1) := by decide +kernel
theorem dX4_canTry_1 : decode cX4_canTry 1 = .ok (.iconst 1, 1) := by decide +kernel
theorem dX4_canTry_2 : decode cX4_canTry 2 = .ok (.if_icmp .lt 13, 3) := by decide +kernel
theorem dX4_canTry_5 : decode cX4_canTry 5 = .ok (.iload_n 0, 1) := by decide +kernel
theorem dX4_canTry_6 : decode cX4_canTry 6 = .ok (.bipush 99, 2) := by decide +kernel
theorem dX4_canTry_8 : decode cX4_canTry 8 = .ok (.if_icmp .gt 7, 3) := by decide +kernel
theorem dX4_canTry_11 : decode cX4_canTry 11 = .ok (.iconst 1, 1) := by decide +kernel
theorem dX4_canTry_12 : decode cX4_canTry 12 = .ok (.goto 4, 3) := by decide +kernel
theorem dX4_canTry_15 : decode cX4_canTry 15 = .ok (.iconst 0, 1) := by decide +kernel
theorem dX4_canTry_16 : decode cX4_canTry 16 = .ok (.ireturn, 1) := by decide +kernel
set_option maxRecDepth 20000 in
theorem ggX4_goodWithGuess_X0_copyFrom : GoodIn wsX4_goodWithGuess wsX0_copyFrom := goodIn_r _ [8, 9, 10, 11, 12, 13, 14, 15, 16, 17, 18, 19, 20, 21, 22, 23, 24, 25, 26, 27, 28, 29, 30, 31, 32, 33, 34, 121, 122, 123, 124, 125, 126, 127, 128, 129, 130, 131, 132, 133, 134, 135, 136, 137] (by decide +kernel) (by decide +kernel)
set_option maxRecDepth 20000 in
theorem gX4_goodWithGuess_X0_copyFrom : GoodIn wsX4_goodWithGuess (wsV RX4 92 RX0 yX0_copyFrom wsX0_copyFrom) := goodIn_app (goodIn_of _ (by decide +kernel)) ggX4_goodWithGuess_X0_copyFrom
set_option maxRecDepth 20000 in
theorem ggX4_goodWithGuess_X0_tickOn : GoodIn wsX4_goodWithGuess wsX0_tickOn := goodIn_r _ [38, 14, 39, 40, 41, 7, 42, 9, 15, 16, 43, 22, 44, 45, 46, 47, 48, 49, 50, 51, 52, 17, 18, 19, 53, 54, 55, 56, 20, 21, 57, 58, 59, 60, 61, 62, 63, 64, 65, 66, 67, 68, 69, 70, 71, 72, 73, 74, 75, 76, 77, 78, 79, 26, 80, 28, 29, 81, 82, 83, 84, 85, 86, 87, 88, 89, 90, 91, 92, 93, 94, 95, 96, 97, 98, 99, 100, 101, 102, 103, 104, 105, 106, 107, 108, 109, 110, 121, 122, 123, 124, 125, 126, 127, 128, 129, 130, 131, 132, 133, 134, 135, 136, 137] (by decide +kernel) (by decide +kernel)
set_option maxRecDepth 20000 in
theorem gX4_goodWithGuess_X0_tickOn : GoodIn wsX4_goodWithGuess (wsV RX4 95 RX0 yX0_tickOn wsX0_tickOn) := goodIn_app (goodIn_of _ (by decide +kernel)) ggX4_goodWithGuess_X0_tickOn
set_option maxRecDepth 20000 in
theorem ggX4_goodWithGuess_X0_number : GoodIn wsX4_goodWithGuess wsX0_number := goodIn_r _ [114, 15, 17, 20, 14, 9, 121, 122, 123, 124, 125, 126, 127, 128, 129, 130] (by decide +kernel) (by decide +kernel)
set_option maxRecDepth 20000 in
theorem gX4_goodWithGuess_X0_number : GoodIn wsX4_goodWithGuess (wsV RX4 81 RX0 yX0_number wsX0_number) := goodIn_app (goodIn_of _ (by decide +kernel)) ggX4_goodWithGuess_X0_number
theorem dX4_goodWithGuess_0 : decode cX4_goodWithGuess 0 = .ok (.aload_n 0, 1) := by decide +kernel
theorem dX4_goodWithGuess_1 : decode cX4_goodWithGuess 1 = .ok (.getfield 16, 3) := by decide +kernel
theorem dX4_goodWithGuess_4 : decode cX4_goodWithGuess 4 = .ok (.aload_n 0, 1) := by decide +kernel
theorem dX4_goodWithGuess_5 : decode cX4_goodWithGuess 5 = .ok (.getfield 10, 3) := by decide +kernel
theorem dX4_goodWithGuess_8 : decode cX4_goodWithGuess 8 = .ok (.invokevirtual 92, 3) := by decide +kernel
theorem dX4_goodWithGuess_11 : decode cX4_goodWithGuess 11 = .ok (.aload_n 0, 1) := by decide +kernel
theorem dX4_goodWithGuess_12 : decode cX4_goodWithGuess 12 = .ok (.getfield 16, 3) := by decide +kernel
theorem dX4_goodWithGuess_15 : decode cX4_goodWithGuess 15 = .ok (.getfield 106, 3) := by decide +kernel
theorem dX4_goodWithGuess_18 : decode cX4_goodWithGuess 18 = .ok (.iconst 2, 1) := by decide +kernel
theorem dX4_goodWithGuess_19 : decode cX4_goodWithGuess 19 = .ok (.iload_n 1, 1) := by decide +kernel
theorem dX4_goodWithGuess_20 : decode cX4_goodWithGuess 20 = .ok (.iastore, 1) := by decide +kernel
theorem dX4_goodWithGuess_21 : decode cX4_goodWithGuess 21 = .ok (.aload_n 0, 1) := by decide +kernel
theorem dX4_goodWithGuess_22 : decode cX4_goodWithGuess 22 = .ok (.getfield 16, 3) := by decide +kernel
theorem dX4_goodWithGuess_25 : decode cX4_goodWithGuess 25 = .ok (.iload_n 2, 1) := by decide +kernel
theorem dX4_goodWithGuess_26 : decode cX4_goodWithGuess 26 = .ok (.invokevirtual 95, 3) := by decide +kernel
theorem dX4_goodWithGuess_29 : decode cX4_goodWithGuess 29 = .ok (.aload_n 0, 1) := by decide +kernel
theorem dX4_goodWithGuess_30 : decode cX4_goodWithGuess 30 = .ok (.getfield 16, 3) := by decide +kernel
theorem dX4_goodWithGuess_33 : decode cX4_goodWithGuess 33 = .ok (.iconst 3, 1) := by decide +kernel
theorem dX4_goodWithGuess_34 : decode cX4_goodWithGuess 34 = .ok (.invokevirtual 81, 3) := by decide +kernel
theorem dX4_goodWithGuess_37 : decode cX4_goodWithGuess 37 = .ok (.aload_n 0, 1) := by decide +kernel
theorem dX4_goodWithGuess_38 : decode cX4_goodWithGuess 38 = .ok (.getfield 10, 3) := by decide +kernel
theorem dX4_goodWithGuess_41 : decode cX4_goodWithGuess 41 = .ok (.iconst 3, 1) := by decide +kernel
theorem dX4_goodWithGuess_42 : decode cX4_goodWithGuess 42 = .ok (.invokevirtual 81, 3) := by decide +kernel
theorem dX4_goodWithGuess_45 : decode cX4_goodWithGuess 45 = .ok (.isub, 1) := by decide +kernel
theorem dX4_goodWithGuess_46 : decode cX4_goodWithGuess 46 = .ok (.ireturn, 1) := by decide +kernel
set_option maxRecDepth 20000 in
theorem ggX4_starvesWithSlack_X0_copyFrom : GoodIn wsX4_starvesWithSlack wsX0_copyFrom := goodIn_r _ [8, 9, 10, 11, 12, 13, 14, 15, 16, 17, 18, 19, 20, 21, 22, 23, 24, 25, 26, 27, 28, 29, 30, 31, 32, 33, 34, 121, 122, 123, 124, 125, 126, 127, 128, 129, 130, 131, 132, 133, 134, 135, 136, 137] (by decide +kernel) (by decide +kernel)
set_option maxRecDepth 20000 in
theorem gX4_starvesWithSlack_X0_copyFrom : GoodIn wsX4_starvesWithSlack (wsV RX4 92 RX0 yX0_copyFrom wsX0_copyFrom) := goodIn_app (goodIn_of _ (by decide +kernel)) ggX4_starvesWithSlack_X0_copyFrom
set_option maxRecDepth 20000 in
theorem ggX4_starvesWithSlack_X0_tickOn : GoodIn wsX4_starvesWithSlack wsX0_tickOn := goodIn_r _ [38, 14, 39, 40, 41, 7, 42, 9, 15, 16, 43, 22, 44, 45, 46, 47, 48, 49, 50, 51, 52, 17, 18, 19, 53, 54, 55, 56, 20, 21, 57, 58, 59, 60, 61, 62, 63, 64, 65, 66, 67, 68, 69, 70, 71, 72, 73, 74, 75, 76, 77, 78, 79, 26, 80, 28, 29, 81, 82, 83, 84, 85, 86, 87, 88, 89, 90, 91, 92, 93, 94, 95, 96, 97, 98, 99, 100, 101, 102, 103, 104, 105, 106, 107, 108, 109, 110, 121, 122, 123, 124, 125, 126, 127, 128, 129, 130, 131, 132, 133, 134, 135, 136, 137] (by decide +kernel) (by decide +kernel)
set_option maxRecDepth 20000 in
theorem gX4_starvesWithSlack_X0_tickOn : GoodIn wsX4_starvesWithSlack (wsV RX4 95 RX0 yX0_tickOn wsX0_tickOn) := goodIn_app (goodIn_of _ (by decide +kernel)) ggX4_starvesWithSlack_X0_tickOn
set_option maxRecDepth 20000 in
theorem ggX4_starvesWithSlack_X0_number : GoodIn wsX4_starvesWithSlack wsX0_number := goodIn_r _ [114, 15, 17, 20, 14, 9, 121, 122, 123, 124, 125, 126, 127, 128, 129, 130] (by decide +kernel) (by decide +kernel)
set_option maxRecDepth 20000 in
theorem gX4_starvesWithSlack_X0_number : GoodIn wsX4_starvesWithSlack (wsV RX4 81 RX0 yX0_number wsX0_number) := goodIn_app (goodIn_of _ (by decide +kernel)) ggX4_starvesWithSlack_X0_number
theorem dX4_starvesWithSlack_0 : decode cX4_starvesWithSlack 0 = .ok (.aload_n 0, 1) := by decide +kernel
theorem dX4_starvesWithSlack_1 : decode cX4_starvesWithSlack 1 = .ok (.getfield 16, 3) := by decide +kernel
theorem dX4_starvesWithSlack_4 : decode cX4_starvesWithSlack 4 = .ok (.aload_n 0, 1) := by decide +kernel
theorem dX4_starvesWithSlack_5 : decode cX4_starvesWithSlack 5 = .ok (.getfield 10, 3) := by decide +kernel
theorem dX4_starvesWithSlack_8 : decode cX4_starvesWithSlack 8 = .ok (.invokevirtual 92, 3) := by decide +kernel
theorem dX4_starvesWithSlack_11 : decode cX4_starvesWithSlack 11 = .ok (.aload_n 0, 1) := by decide +kernel
theorem dX4_starvesWithSlack_12 : decode cX4_starvesWithSlack 12 = .ok (.getfield 16, 3) := by decide +kernel
theorem dX4_starvesWithSlack_15 : decode cX4_starvesWithSlack 15 = .ok (.getfield 109, 3) := by decide +kernel
theorem dX4_starvesWithSlack_18 : decode cX4_starvesWithSlack 18 = .ok (.bipush 10, 2) := by decide +kernel
theorem dX4_starvesWithSlack_20 : decode cX4_starvesWithSlack 20 = .ok (.iload_n 1, 1) := by decide +kernel
theorem dX4_starvesWithSlack_21 : decode cX4_starvesWithSlack 21 = .ok (.iastore, 1) := by decide +kernel
theorem dX4_starvesWithSlack_22 : decode cX4_starvesWithSlack 22 = .ok (.aload_n 0, 1) := by decide +kernel
theorem dX4_starvesWithSlack_23 : decode cX4_starvesWithSlack 23 = .ok (.getfield 16, 3) := by decide +kernel
theorem dX4_starvesWithSlack_26 : decode cX4_starvesWithSlack 26 = .ok (.iload_n 2, 1) := by decide +kernel
theorem dX4_starvesWithSlack_27 : decode cX4_starvesWithSlack 27 = .ok (.invokevirtual 95, 3) := by decide +kernel
theorem dX4_starvesWithSlack_30 : decode cX4_starvesWithSlack 30 = .ok (.aload_n 0, 1) := by decide +kernel
theorem dX4_starvesWithSlack_31 : decode cX4_starvesWithSlack 31 = .ok (.getfield 16, 3) := by decide +kernel
theorem dX4_starvesWithSlack_34 : decode cX4_starvesWithSlack 34 = .ok (.bipush 9, 2) := by decide +kernel
theorem dX4_starvesWithSlack_36 : decode cX4_starvesWithSlack 36 = .ok (.invokevirtual 81, 3) := by decide +kernel
theorem dX4_starvesWithSlack_39 : decode cX4_starvesWithSlack 39 = .ok (.aload_n 0, 1) := by decide +kernel
theorem dX4_starvesWithSlack_40 : decode cX4_starvesWithSlack 40 = .ok (.getfield 10, 3) := by decide +kernel
theorem dX4_starvesWithSlack_43 : decode cX4_starvesWithSlack 43 = .ok (.bipush 9, 2) := by decide +kernel
theorem dX4_starvesWithSlack_45 : decode cX4_starvesWithSlack 45 = .ok (.invokevirtual 81, 3) := by decide +kernel
theorem dX4_starvesWithSlack_48 : decode cX4_starvesWithSlack 48 = .ok (.if_icmp .le 7, 3) := by decide +kernel
theorem dX4_starvesWithSlack_51 : decode cX4_starvesWithSlack 51 = .ok (.iconst 1, 1) := by decide +kernel
theorem dX4_starvesWithSlack_52 : decode cX4_starvesWithSlack 52 = .ok (.goto 4, 3) := by decide +kernel
theorem dX4_starvesWithSlack_55 : decode cX4_starvesWithSlack 55 = .ok (.iconst 0, 1) := by decide +kernel
theorem dX4_starvesWithSlack_56 : decode cX4_starvesWithSlack 56 = .ok (.ireturn, 1) := by decide +kernel
set_option maxRecDepth 20000 in
theorem ggX4_put_X3_append : GoodIn wsX4_put wsX3_append := goodIn_r _ [6, 7, 8, 9, 10, 5, 11, 12, 13, 14, 21, 22] (by decide +kernel) (by decide +kernel)
set_option maxRecDepth 20000 in
theorem gX4_put_X3_append : GoodIn wsX4_put (wsV RX4 112 RX3 yX3_append wsX3_append) := goodIn_app (goodIn_of _ (by decide +kernel)) ggX4_put_X3_append
theorem dX4_put_0 : decode cX4_put 0 = .ok (.aload_n 0, 1) := by decide +kernel
theorem dX4_put_1 : decode cX4_put 1 = .ok (.getfield 37, 3) := by decide +kernel
theorem dX4_put_4 : decode cX4_put 4 = .ok (.lload_n 1, 1) := by decide +kernel
theorem dX4_put_5 : decode cX4_put 5 = .ok (.invokevirtual 112, 3) := by decide +kernel
theorem dX4_put_8 : decode cX4_put 8 = .ok (.ireturn, 1) := by decide +kernel
set_option maxRecDepth 20000 in
theorem ggX4_wipe_X3_empty : GoodIn wsX4_wipe wsX3_empty := goodIn_r _ [6, 7, 14, 15] (by decide +kernel) (by decide +kernel)
set_option maxRecDepth 20000 in
theorem gX4_wipe_X3_empty : GoodIn wsX4_wipe (wsV RX4 116 RX3 yX3_empty wsX3_empty) := goodIn_app (goodIn_of _ (by decide +kernel)) ggX4_wipe_X3_empty
theorem dX4_wipe_0 : decode cX4_wipe 0 = .ok (.aload_n 0, 1) := by decide +kernel
theorem dX4_wipe_1 : decode cX4_wipe 1 = .ok (.getfield 37, 3) := by decide +kernel
theorem dX4_wipe_4 : decode cX4_wipe 4 = .ok (.invokevirtual 116, 3) := by decide +kernel
theorem dX4_wipe_7 : decode cX4_wipe 7 = .ok (.ireturn, 1) := by decide +kernel
set_option maxRecDepth 20000 in
theorem ggX4_fault_X3_firstFault : GoodIn wsX4_fault wsX3_firstFault := goodIn_r _ [6, 7, 8, 9, 10, 5, 11, 12, 13, 14, 15, 16, 17, 24, 25] (by decide +kernel) (by decide +kernel)
set_option maxRecDepth 20000 in
theorem gX4_fault_X3_firstFault : GoodIn wsX4_fault (wsV RX4 120 RX3 yX3_firstFault wsX3_firstFault) := goodIn_app (goodIn_of _ (by decide +kernel)) ggX4_fault_X3_firstFault
theorem dX4_fault_0 : decode cX4_fault 0 = .ok (.aload_n 0, 1) := by decide +kernel
theorem dX4_fault_1 : decode cX4_fault 1 = .ok (.getfield 37, 3) := by decide +kernel
theorem dX4_fault_4 : decode cX4_fault 4 = .ok (.invokevirtual 120, 3) := by decide +kernel
theorem dX4_fault_7 : decode cX4_fault 7 = .ok (.ireturn, 1) := by decide +kernel
set_option maxRecDepth 20000 in
theorem ggX4_carryOut_X3_firstFault : GoodIn wsX4_carryOut wsX3_firstFault := goodIn_r _ [9, 10, 11, 12, 13, 8, 14, 15, 16, 17, 18, 19, 20, 221, 222] (by decide +kernel) (by decide +kernel)
set_option maxRecDepth 20000 in
theorem gX4_carryOut_X3_firstFault : GoodIn wsX4_carryOut (wsV RX4 120 RX3 yX3_firstFault wsX3_firstFault) := goodIn_app (goodIn_of _ (by decide +kernel)) ggX4_carryOut_X3_firstFault
set_option maxRecDepth 20000 in
theorem ggX4_carryOut_X2_note : GoodIn wsX4_carryOut wsX2_note := goodIn_r _ [25, 26, 27, 28, 29, 24, 30, 31, 32, 33, 34, 35, 36, 37, 38, 39, 40, 41, 42, 43, 44, 45, 46, 47, 48, 49, 50, 51, 52, 53, 54, 55, 56, 57, 58, 59, 60, 61, 62, 63, 64, 65, 66, 67, 223, 224, 225, 226, 227, 228, 229, 230, 231, 232, 233, 234, 235, 236, 237, 238, 239, 240, 241, 242] (by decide +kernel) (by decide +kernel)
set_option maxRecDepth 20000 in
theorem gX4_carryOut_X2_note : GoodIn wsX4_carryOut (wsV RX4 41 RX2 yX2_note wsX2_note) := goodIn_app (goodIn_of _ (by decide +kernel)) ggX4_carryOut_X2_note
set_option maxRecDepth 20000 in
theorem ggX4_carryOut_X3_isOrder : GoodIn wsX4_carryOut wsX3_isOrder := goodIn_r _ [71, 72, 73, 74, 8, 75, 10, 11, 221, 222] (by decide +kernel) (by decide +kernel)
set_option maxRecDepth 20000 in
theorem gX4_carryOut_X3_isOrder : GoodIn wsX4_carryOut (wsV RX4 123 RX3 yX3_isOrder wsX3_isOrder) := goodIn_app (goodIn_of _ (by decide +kernel)) ggX4_carryOut_X3_isOrder
set_option maxRecDepth 20000 in
theorem ggX4_carryOut_X4_follow : GoodIn wsX4_carryOut wsX4_follow := goodIn_r _ [80, 1, 3, 81, 73, 74, 8, 75, 10, 11, 82, 83, 84, 85, 72, 18, 19, 20, 86, 87, 88, 40, 89, 48, 49, 47, 90, 91, 59, 92, 93, 94, 95, 96, 61, 62, 97, 98, 99, 100, 63, 64, 65, 66, 67, 101, 102, 103, 104, 105, 106, 107, 108, 109, 110, 111, 112, 113, 114, 115, 116, 42, 117, 55, 118, 119, 120, 121, 122, 123, 124, 125, 126, 50, 51, 52, 127, 128, 129, 130, 53, 54, 131, 132, 133, 134, 135, 136, 137, 138, 139, 140, 141, 142, 143, 144, 145, 146, 147, 148, 149, 150, 151, 152, 153, 154, 155, 156, 157, 158, 159, 160, 161, 162, 163, 164, 165, 166, 167, 168, 169, 170, 171, 172, 173, 174, 175, 176, 177, 178, 179, 180, 181, 182, 183, 184, 185, 186, 187, 188, 189, 190, 191, 192, 193, 194, 195, 196, 197, 35, 198, 199, 200, 201, 202, 215, 216, 217, 218, 219, 220, 221, 222, 226, 227, 228, 229, 230, 231, 232, 233, 234, 235, 236, 237, 238, 239, 240, 241, 242] (by decide +kernel) (by decide +kernel)
set_option maxRecDepth 20000 in
theorem gX4_carryOut_X4_follow : GoodIn wsX4_carryOut (wsV RX4 126 RX4 yX4_follow wsX4_follow) := goodIn_app (goodIn_of _ (by decide +kernel)) ggX4_carryOut_X4_follow
set_option maxRecDepth 20000 in
theorem ggX4_carryOut_X3_empty : GoodIn wsX4_carryOut wsX3_empty := goodIn_r _ [206, 10, 221, 222] (by decide +kernel) (by decide +kernel)
set_option maxRecDepth 20000 in
theorem gX4_carryOut_X3_empty : GoodIn wsX4_carryOut (wsV RX4 116 RX3 yX3_empty wsX3_empty) := goodIn_app (goodIn_of _ (by decide +kernel)) ggX4_carryOut_X3_empty
set_option maxRecDepth 20000 in
theorem ggX4_carryOut_X4_recorded : GoodIn wsX4_carryOut wsX4_recorded := goodIn_r _ [210, 2, 211, 212, 213, 24, 214, 26, 32, 33, 34, 35, 36, 215, 216, 217, 218, 219, 220, 223, 224, 225] (by decide +kernel) (by decide +kernel)
set_option maxRecDepth 20000 in
theorem gX4_carryOut_X4_recorded : GoodIn wsX4_carryOut (wsV RX4 49 RX4 yX4_recorded wsX4_recorded) := goodIn_app (goodIn_of _ (by decide +kernel)) ggX4_carryOut_X4_recorded
theorem dX4_carryOut_0 : decode cX4_carryOut 0 = .ok (.aload_n 0, 1) := by decide +kernel
theorem dX4_carryOut_1 : decode cX4_carryOut 1 = .ok (.getfield 37, 3) := by decide +kernel
theorem dX4_carryOut_4 : decode cX4_carryOut 4 = .ok (.invokevirtual 120, 3) := by decide +kernel
theorem dX4_carryOut_7 : decode cX4_carryOut 7 = .ok (.bipush (-6), 2) := by decide +kernel
theorem dX4_carryOut_9 : decode cX4_carryOut 9 = .ok (.if_icmp .eq 6, 3) := by decide +kernel
theorem dX4_carryOut_12 : decode cX4_carryOut 12 = .ok (.bipush (-3), 2) := by decide +kernel
theorem dX4_carryOut_14 : decode cX4_carryOut 14 = .ok (.ireturn, 1) := by decide +kernel
theorem dX4_carryOut_15 : decode cX4_carryOut 15 = .ok (.aload_n 0, 1) := by decide +kernel
theorem dX4_carryOut_16 : decode cX4_carryOut 16 = .ok (.getfield 22, 3) := by decide +kernel
theorem dX4_carryOut_19 : decode cX4_carryOut 19 = .ok (.aload_n 0, 1) := by decide +kernel
theorem dX4_carryOut_20 : decode cX4_carryOut 20 = .ok (.getfield 10, 3) := by decide +kernel
theorem dX4_carryOut_23 : decode cX4_carryOut 23 = .ok (.invokevirtual 41, 3) := by decide +kernel
theorem dX4_carryOut_26 : decode cX4_carryOut 26 = .ok (.iconst 0, 1) := by decide +kernel
theorem dX4_carryOut_27 : decode cX4_carryOut 27 = .ok (.istore_n 1, 1) := by decide +kernel
theorem dX4_carryOut_28 : decode cX4_carryOut 28 = .ok (.iconst 0, 1) := by decide +kernel
theorem dX4_carryOut_29 : decode cX4_carryOut 29 = .ok (.istore_n 2, 1) := by decide +kernel
theorem dX4_carryOut_30 : decode cX4_carryOut 30 = .ok (.iload_n 2, 1) := by decide +kernel
theorem dX4_carryOut_31 : decode cX4_carryOut 31 = .ok (.aload_n 0, 1) := by decide +kernel
theorem dX4_carryOut_32 : decode cX4_carryOut 32 = .ok (.getfield 37, 3) := by decide +kernel
theorem dX4_carryOut_35 : decode cX4_carryOut 35 = .ok (.getfield 74, 3) := by decide +kernel
theorem dX4_carryOut_38 : decode cX4_carryOut 38 = .ok (.if_icmp .ge 34, 3) := by decide +kernel
theorem dX4_carryOut_41 : decode cX4_carryOut 41 = .ok (.aload_n 0, 1) := by decide +kernel
theorem dX4_carryOut_42 : decode cX4_carryOut 42 = .ok (.getfield 37, 3) := by decide +kernel
theorem dX4_carryOut_45 : decode cX4_carryOut 45 = .ok (.iload_n 2, 1) := by decide +kernel
theorem dX4_carryOut_46 : decode cX4_carryOut 46 = .ok (.invokevirtual 123, 3) := by decide +kernel
theorem dX4_carryOut_49 : decode cX4_carryOut 49 = .ok (.ifCond .eq 17, 3) := by decide +kernel
theorem dX4_carryOut_52 : decode cX4_carryOut 52 = .ok (.aload_n 0, 1) := by decide +kernel
theorem dX4_carryOut_53 : decode cX4_carryOut 53 = .ok (.iload_n 2, 1) := by decide +kernel
theorem dX4_carryOut_54 : decode cX4_carryOut 54 = .ok (.invokevirtual 126, 3) := by decide +kernel
theorem dX4_carryOut_57 : decode cX4_carryOut 57 = .ok (.ifCond .ge 6, 3) := by decide +kernel
theorem dX4_carryOut_60 : decode cX4_carryOut 60 = .ok (.goto 12, 3) := by decide +kernel
theorem dX4_carryOut_63 : decode cX4_carryOut 63 = .ok (.iinc 1 1, 3) := by decide +kernel
theorem dX4_carryOut_66 : decode cX4_carryOut 66 = .ok (.iinc 2 1, 3) := by decide +kernel
theorem dX4_carryOut_69 : decode cX4_carryOut 69 = .ok (.goto (-39), 3) := by decide +kernel
theorem dX4_carryOut_72 : decode cX4_carryOut 72 = .ok (.aload_n 0, 1) := by decide +kernel
theorem dX4_carryOut_73 : decode cX4_carryOut 73 = .ok (.getfield 37, 3) := by decide +kernel
theorem dX4_carryOut_76 : decode cX4_carryOut 76 = .ok (.invokevirtual 116, 3) := by decide +kernel
theorem dX4_carryOut_79 : decode cX4_carryOut 79 = .ok (.pop, 1) := by decide +kernel
theorem dX4_carryOut_80 : decode cX4_carryOut 80 = .ok (.aload_n 0, 1) := by decide +kernel
theorem dX4_carryOut_81 : decode cX4_carryOut 81 = .ok (.iload_n 1, 1) := by decide +kernel
theorem dX4_carryOut_82 : decode cX4_carryOut 82 = .ok (.invokevirtual 49, 3) := by decide +kernel
theorem dX4_carryOut_85 : decode cX4_carryOut 85 = .ok (.ireturn, 1) := by decide +kernel
set_option maxRecDepth 20000 in
theorem ggX4_follow_X3_signAt : GoodIn wsX4_follow wsX3_signAt := goodIn_r _ [7, 8, 9, 161, 162] (by decide +kernel) (by decide +kernel)
set_option maxRecDepth 20000 in
theorem gX4_follow_X3_signAt : GoodIn wsX4_follow (wsV RX4 129 RX3 yX3_signAt wsX3_signAt) := goodIn_app (goodIn_of _ (by decide +kernel)) ggX4_follow_X3_signAt
set_option maxRecDepth 20000 in
theorem ggX4_follow_X3_numberAt : GoodIn wsX4_follow wsX3_numberAt := goodIn_r _ [13, 8, 14, 4, 5, 6, 7, 9, 15, 16, 17, 161, 162] (by decide +kernel) (by decide +kernel)
set_option maxRecDepth 20000 in
theorem gX4_follow_X3_numberAt : GoodIn wsX4_follow (wsV RX4 133 RX3 yX3_numberAt wsX3_numberAt) := goodIn_app (goodIn_of _ (by decide +kernel)) ggX4_follow_X3_numberAt
set_option maxRecDepth 20000 in
theorem ggX4_follow_X0_takeBox : GoodIn wsX4_follow wsX0_takeBox := goodIn_r _ [22, 23, 24, 25, 26, 27, 28, 29, 30, 31, 32, 33, 34, 35, 36, 37, 38, 39, 40, 41, 42, 43, 44, 163, 164, 165, 166, 167, 168, 169, 170, 171, 172, 173, 174, 175, 176, 177, 178, 179] (by decide +kernel) (by decide +kernel)
set_option maxRecDepth 20000 in
theorem gX4_follow_X0_takeBox : GoodIn wsX4_follow (wsV RX4 53 RX0 yX0_takeBox wsX0_takeBox) := goodIn_app (goodIn_of _ (by decide +kernel)) ggX4_follow_X0_takeBox
set_option maxRecDepth 20000 in
theorem ggX4_follow_X0_letPass : GoodIn wsX4_follow wsX0_letPass := goodIn_r _ [48, 25, 49, 50, 51, 21, 52, 53, 54, 55, 56, 57, 58, 59, 60, 61, 23, 24, 62, 63, 64, 65, 66, 67, 68, 69, 70, 71, 72, 73, 74, 75, 76, 77, 78, 79, 80, 81, 82, 83, 84, 85, 86, 87, 88, 89, 90, 91, 92, 93, 94, 95, 96, 97, 98, 99, 100, 101, 102, 103, 104, 28, 105, 34, 35, 106, 107, 108, 109, 110, 111, 112, 113, 114, 115, 116, 117, 118, 119, 120, 121, 122, 123, 124, 30, 31, 32, 33, 125, 126, 127, 128, 129, 130, 131, 163, 164, 165, 166, 167, 168, 169, 170, 171, 172, 173, 174, 175, 176, 177, 178, 179] (by decide +kernel) (by decide +kernel)
set_option maxRecDepth 20000 in
theorem gX4_follow_X0_letPass : GoodIn wsX4_follow (wsV RX4 59 RX0 yX0_letPass wsX0_letPass) := goodIn_app (goodIn_of _ (by decide +kernel)) ggX4_follow_X0_letPass
set_option maxRecDepth 20000 in
theorem ggX4_follow_X0_choose : GoodIn wsX4_follow wsX0_choose := goodIn_r _ [135, 61, 136, 137, 163, 164, 165, 166, 167, 168, 169, 170, 171, 172] (by decide +kernel) (by decide +kernel)
set_option maxRecDepth 20000 in
theorem gX4_follow_X0_choose : GoodIn wsX4_follow (wsV RX4 45 RX0 yX0_choose wsX0_choose) := goodIn_app (goodIn_of _ (by decide +kernel)) ggX4_follow_X0_choose
set_option maxRecDepth 20000 in
theorem ggX4_follow_X0_turnBox : GoodIn wsX4_follow wsX0_turnBox := goodIn_r _ [141, 24, 62, 142, 143, 144, 145, 21, 146, 23, 26, 27, 28, 29, 147, 148, 149, 150, 151, 152, 153, 154, 30, 31, 32, 33, 34, 35, 163, 164, 165, 166, 167, 168, 169, 170, 171, 172, 173, 174, 175, 176, 177, 178, 179] (by decide +kernel) (by decide +kernel)
set_option maxRecDepth 20000 in
theorem gX4_follow_X0_turnBox : GoodIn wsX4_follow (wsV RX4 56 RX0 yX0_turnBox wsX0_turnBox) := goodIn_app (goodIn_of _ (by decide +kernel)) ggX4_follow_X0_turnBox
theorem dX4_follow_0 : decode cX4_follow 0 = .ok (.aload_n 0, 1) := by decide +kernel
theorem dX4_follow_1 : decode cX4_follow 1 = .ok (.getfield 37, 3) := by decide +kernel
theorem dX4_follow_4 : decode cX4_follow 4 = .ok (.iload_n 1, 1) := by decide +kernel
theorem dX4_follow_5 : decode cX4_follow 5 = .ok (.invokevirtual 129, 3) := by decide +kernel
theorem dX4_follow_8 : decode cX4_follow 8 = .ok (.lookupswitch 91 #[(98, 36), (115, 72), (119, 54)], 36) := by decide +kernel
theorem dX4_follow_44 : decode cX4_follow 44 = .ok (.aload_n 0, 1) := by decide +kernel
theorem dX4_follow_45 : decode cX4_follow 45 = .ok (.getfield 10, 3) := by decide +kernel
theorem dX4_follow_48 : decode cX4_follow 48 = .ok (.aload_n 0, 1) := by decide +kernel
theorem dX4_follow_49 : decode cX4_follow 49 = .ok (.getfield 37, 3) := by decide +kernel
theorem dX4_follow_52 : decode cX4_follow 52 = .ok (.iload_n 1, 1) := by decide +kernel
theorem dX4_follow_53 : decode cX4_follow 53 = .ok (.iconst 1, 1) := by decide +kernel
theorem dX4_follow_54 : decode cX4_follow 54 = .ok (.iadd, 1) := by decide +kernel
theorem dX4_follow_55 : decode cX4_follow 55 = .ok (.invokevirtual 133, 3) := by decide +kernel
theorem dX4_follow_58 : decode cX4_follow 58 = .ok (.invokevirtual 53, 3) := by decide +kernel
theorem dX4_follow_61 : decode cX4_follow 61 = .ok (.ireturn, 1) := by decide +kernel
theorem dX4_follow_62 : decode cX4_follow 62 = .ok (.aload_n 0, 1) := by decide +kernel
theorem dX4_follow_63 : decode cX4_follow 63 = .ok (.getfield 10, 3) := by decide +kernel
theorem dX4_follow_66 : decode cX4_follow 66 = .ok (.aload_n 0, 1) := by decide +kernel
theorem dX4_follow_67 : decode cX4_follow 67 = .ok (.getfield 37, 3) := by decide +kernel
theorem dX4_follow_70 : decode cX4_follow 70 = .ok (.iload_n 1, 1) := by decide +kernel
theorem dX4_follow_71 : decode cX4_follow 71 = .ok (.iconst 1, 1) := by decide +kernel
theorem dX4_follow_72 : decode cX4_follow 72 = .ok (.iadd, 1) := by decide +kernel
theorem dX4_follow_73 : decode cX4_follow 73 = .ok (.invokevirtual 133, 3) := by decide +kernel
theorem dX4_follow_76 : decode cX4_follow 76 = .ok (.invokevirtual 59, 3) := by decide +kernel
theorem dX4_follow_79 : decode cX4_follow 79 = .ok (.ireturn, 1) := by decide +kernel
theorem dX4_follow_80 : decode cX4_follow 80 = .ok (.aload_n 0, 1) := by decide +kernel
theorem dX4_follow_81 : decode cX4_follow 81 = .ok (.getfield 10, 3) := by decide +kernel
theorem dX4_follow_84 : decode cX4_follow 84 = .ok (.iconst 0, 1) := by decide +kernel
theorem dX4_follow_85 : decode cX4_follow 85 = .ok (.aload_n 0, 1) := by decide +kernel
theorem dX4_follow_86 : decode cX4_follow 86 = .ok (.getfield 37, 3) := by decide +kernel
theorem dX4_follow_89 : decode cX4_follow 89 = .ok (.iload_n 1, 1) := by decide +kernel
theorem dX4_follow_90 : decode cX4_follow 90 = .ok (.iconst 1, 1) := by decide +kernel
theorem dX4_follow_91 : decode cX4_follow 91 = .ok (.iadd, 1) := by decide +kernel
theorem dX4_follow_92 : decode cX4_follow 92 = .ok (.invokevirtual 133, 3) := by decide +kernel
theorem dX4_follow_95 : decode cX4_follow 95 = .ok (.invokevirtual 45, 3) := by decide +kernel
theorem dX4_follow_98 : decode cX4_follow 98 = .ok (.ireturn, 1) := by decide +kernel
theorem dX4_follow_99 : decode cX4_follow 99 = .ok (.aload_n 0, 1) := by decide +kernel
theorem dX4_follow_100 : decode cX4_follow 100 = .ok (.getfield 10, 3) := by decide +kernel
theorem dX4_follow_103 : decode cX4_follow 103 = .ok (.aload_n 0, 1) := by decide +kernel
theorem dX4_follow_104 : decode cX4_follow 104 = .ok (.getfield 37, 3) := by decide +kernel
theorem dX4_follow_107 : decode cX4_follow 107 = .ok (.iload_n 1, 1) := by decide +kernel
theorem dX4_follow_108 : decode cX4_follow 108 = .ok (.iconst 1, 1) := by decide +kernel
theorem dX4_follow_109 : decode cX4_follow 109 = .ok (.iadd, 1) := by decide +kernel
theorem dX4_follow_110 : decode cX4_follow 110 = .ok (.invokevirtual 129, 3) := by decide +kernel
theorem dX4_follow_113 : decode cX4_follow 113 = .ok (.bipush 48, 2) := by decide +kernel
theorem dX4_follow_115 : decode cX4_follow 115 = .ok (.isub, 1) := by decide +kernel
theorem dX4_follow_116 : decode cX4_follow 116 = .ok (.aload_n 0, 1) := by decide +kernel
theorem dX4_follow_117 : decode cX4_follow 117 = .ok (.getfield 37, 3) := by decide +kernel
theorem dX4_follow_120 : decode cX4_follow 120 = .ok (.iload_n 1, 1) := by decide +kernel
theorem dX4_follow_121 : decode cX4_follow 121 = .ok (.iconst 3, 1) := by decide +kernel
theorem dX4_follow_122 : decode cX4_follow 122 = .ok (.iadd, 1) := by decide +kernel
theorem dX4_follow_123 : decode cX4_follow 123 = .ok (.invokevirtual 133, 3) := by decide +kernel
theorem dX4_follow_126 : decode cX4_follow 126 = .ok (.invokevirtual 56, 3) := by decide +kernel
theorem dX4_follow_129 : decode cX4_follow 129 = .ok (.ireturn, 1) := by decide +kernel
set_option maxRecDepth 20000 in
theorem ggX4_undo_X2_takeBack : GoodIn wsX4_undo wsX2_takeBack := goodIn_r _ [8, 9, 10, 11, 12, 7, 13, 14, 15, 16, 17, 18, 19, 20, 21, 22, 23, 24, 25, 26, 27, 28, 29, 30, 31, 32, 33, 34, 35, 36, 37, 38, 39, 40, 41, 42, 43, 44, 45, 46, 47, 48, 49, 50, 57, 58, 59, 60, 61, 62, 63, 64, 65, 66, 67, 68, 69, 70, 71, 72, 73, 74, 75, 76] (by decide +kernel) (by decide +kernel)
set_option maxRecDepth 20000 in
theorem gX4_undo_X2_takeBack : GoodIn wsX4_undo (wsV RX4 136 RX2 yX2_takeBack wsX2_takeBack) := goodIn_app (goodIn_of _ (by decide +kernel)) ggX4_undo_X2_takeBack
theorem dX4_undo_0 : decode cX4_undo 0 = .ok (.aload_n 0, 1) := by decide +kernel
theorem dX4_undo_1 : decode cX4_undo 1 = .ok (.getfield 22, 3) := by decide +kernel
theorem dX4_undo_4 : decode cX4_undo 4 = .ok (.getfield 78, 3) := by decide +kernel
theorem dX4_undo_7 : decode cX4_undo 7 = .ok (.ifCond .ne 6, 3) := by decide +kernel
theorem dX4_undo_10 : decode cX4_undo 10 = .ok (.bipush (-5), 2) := by decide +kernel
theorem dX4_undo_12 : decode cX4_undo 12 = .ok (.ireturn, 1) := by decide +kernel
theorem dX4_undo_13 : decode cX4_undo 13 = .ok (.aload_n 0, 1) := by decide +kernel
theorem dX4_undo_14 : decode cX4_undo 14 = .ok (.getfield 22, 3) := by decide +kernel
theorem dX4_undo_17 : decode cX4_undo 17 = .ok (.aload_n 0, 1) := by decide +kernel
theorem dX4_undo_18 : decode cX4_undo 18 = .ok (.getfield 10, 3) := by decide +kernel
theorem dX4_undo_21 : decode cX4_undo 21 = .ok (.invokevirtual 136, 3) := by decide +kernel
theorem dX4_undo_24 : decode cX4_undo 24 = .ok (.aload_n 0, 1) := by decide +kernel
theorem dX4_undo_25 : decode cX4_undo 25 = .ok (.getfield 22, 3) := by decide +kernel
theorem dX4_undo_28 : decode cX4_undo 28 = .ok (.getfield 78, 3) := by decide +kernel
theorem dX4_undo_31 : decode cX4_undo 31 = .ok (.ireturn, 1) := by decide +kernel
set_option maxRecDepth 20000 in
theorem ggX4_save_X4_isSlot : GoodIn wsX4_save wsX4_isSlot := goodIn_r _ [8, 1, 44, 45, 46, 47, 48, 49] (by decide +kernel) (by decide +kernel)
set_option maxRecDepth 20000 in
theorem gX4_save_X4_isSlot : GoodIn wsX4_save (wsV RX4 139 RX4 yX4_isSlot wsX4_isSlot) := goodIn_app (goodIn_of _ (by decide +kernel)) ggX4_save_X4_isSlot
set_option maxRecDepth 20000 in
theorem ggX4_save_X0_copyFrom : GoodIn wsX4_save wsX0_copyFrom := goodIn_r _ [13, 14, 15, 16, 17, 18, 19, 20, 21, 22, 23, 24, 25, 26, 27, 28, 29, 30, 31, 32, 33, 34, 35, 36, 37, 38, 39, 50, 51, 52, 53, 54, 55, 56, 57, 58, 59, 60, 61, 62, 63, 64, 65, 66] (by decide +kernel) (by decide +kernel)
set_option maxRecDepth 20000 in
theorem gX4_save_X0_copyFrom : GoodIn wsX4_save (wsV RX4 92 RX0 yX0_copyFrom wsX0_copyFrom) := goodIn_app (goodIn_of _ (by decide +kernel)) ggX4_save_X0_copyFrom
set_option maxRecDepth 20000 in
theorem ggX4_save_X0_number : GoodIn wsX4_save wsX0_number := goodIn_r _ [43, 20, 22, 25, 19, 14, 50, 51, 52, 53, 54, 55, 56, 57, 58, 59] (by decide +kernel) (by decide +kernel)
set_option maxRecDepth 20000 in
theorem gX4_save_X0_number : GoodIn wsX4_save (wsV RX4 81 RX0 yX0_number wsX0_number) := goodIn_app (goodIn_of _ (by decide +kernel)) ggX4_save_X0_number
theorem dX4_save_0 : decode cX4_save 0 = .ok (.aload_n 0, 1) := by decide +kernel
theorem dX4_save_1 : decode cX4_save 1 = .ok (.iload_n 1, 1) := by decide +kernel
theorem dX4_save_2 : decode cX4_save 2 = .ok (.invokevirtual 139, 3) := by decide +kernel
theorem dX4_save_5 : decode cX4_save 5 = .ok (.ifCond .ne 6, 3) := by decide +kernel
theorem dX4_save_8 : decode cX4_save 8 = .ok (.bipush (-2), 2) := by decide +kernel
theorem dX4_save_10 : decode cX4_save 10 = .ok (.ireturn, 1) := by decide +kernel
theorem dX4_save_11 : decode cX4_save 11 = .ok (.aload_n 0, 1) := by decide +kernel
theorem dX4_save_12 : decode cX4_save 12 = .ok (.getfield 26, 3) := by decide +kernel
theorem dX4_save_15 : decode cX4_save 15 = .ok (.iload_n 1, 1) := by decide +kernel
theorem dX4_save_16 : decode cX4_save 16 = .ok (.aaload, 1) := by decide +kernel
theorem dX4_save_17 : decode cX4_save 17 = .ok (.aload_n 0, 1) := by decide +kernel
theorem dX4_save_18 : decode cX4_save 18 = .ok (.getfield 10, 3) := by decide +kernel
theorem dX4_save_21 : decode cX4_save 21 = .ok (.invokevirtual 92, 3) := by decide +kernel
theorem dX4_save_24 : decode cX4_save 24 = .ok (.aload_n 0, 1) := by decide +kernel
theorem dX4_save_25 : decode cX4_save 25 = .ok (.getfield 30, 3) := by decide +kernel
theorem dX4_save_28 : decode cX4_save 28 = .ok (.iload_n 1, 1) := by decide +kernel
theorem dX4_save_29 : decode cX4_save 29 = .ok (.iconst 1, 1) := by decide +kernel
theorem dX4_save_30 : decode cX4_save 30 = .ok (.bastore, 1) := by decide +kernel
theorem dX4_save_31 : decode cX4_save 31 = .ok (.aload_n 0, 1) := by decide +kernel
theorem dX4_save_32 : decode cX4_save 32 = .ok (.getfield 10, 3) := by decide +kernel
theorem dX4_save_35 : decode cX4_save 35 = .ok (.iconst 0, 1) := by decide +kernel
theorem dX4_save_36 : decode cX4_save 36 = .ok (.invokevirtual 81, 3) := by decide +kernel
theorem dX4_save_39 : decode cX4_save 39 = .ok (.ireturn, 1) := by decide +kernel
set_option maxRecDepth 20000 in
theorem ggX4_restore_X4_isSlot : GoodIn wsX4_restore wsX4_isSlot := goodIn_r _ [9, 4, 70, 71, 72, 73, 74, 75] (by decide +kernel) (by decide +kernel)
set_option maxRecDepth 20000 in
theorem gX4_restore_X4_isSlot : GoodIn wsX4_restore (wsV RX4 139 RX4 yX4_isSlot wsX4_isSlot) := goodIn_app (goodIn_of _ (by decide +kernel)) ggX4_restore_X4_isSlot
set_option maxRecDepth 20000 in
theorem ggX4_restore_X2_note : GoodIn wsX4_restore wsX2_note := goodIn_r _ [14, 15, 16, 17, 18, 13, 19, 20, 21, 22, 23, 24, 25, 26, 27, 28, 29, 30, 31, 32, 33, 34, 35, 36, 37, 38, 39, 40, 41, 42, 43, 44, 45, 46, 47, 48, 49, 50, 51, 52, 53, 54, 55, 56, 76, 77, 78, 79, 80, 81, 82, 83, 84, 85, 86, 87, 88, 89, 90, 91, 92, 93, 94, 95] (by decide +kernel) (by decide +kernel)
set_option maxRecDepth 20000 in
theorem gX4_restore_X2_note : GoodIn wsX4_restore (wsV RX4 41 RX2 yX2_note wsX2_note) := goodIn_app (goodIn_of _ (by decide +kernel)) ggX4_restore_X2_note
set_option maxRecDepth 20000 in
theorem ggX4_restore_X0_copyFrom : GoodIn wsX4_restore wsX0_copyFrom := goodIn_r _ [30, 31, 32, 33, 34, 35, 36, 37, 38, 39, 40, 41, 42, 43, 44, 45, 46, 47, 48, 49, 50, 51, 52, 53, 54, 55, 56, 79, 80, 81, 82, 83, 84, 85, 86, 87, 88, 89, 90, 91, 92, 93, 94, 95] (by decide +kernel) (by decide +kernel)
set_option maxRecDepth 20000 in
theorem gX4_restore_X0_copyFrom : GoodIn wsX4_restore (wsV RX4 92 RX0 yX0_copyFrom wsX0_copyFrom) := goodIn_app (goodIn_of _ (by decide +kernel)) ggX4_restore_X0_copyFrom
set_option maxRecDepth 20000 in
theorem ggX4_restore_X0_number : GoodIn wsX4_restore wsX0_number := goodIn_r _ [61, 37, 39, 42, 36, 31, 79, 80, 81, 82, 83, 84, 85, 86, 87, 88] (by decide +kernel) (by decide +kernel)
set_option maxRecDepth 20000 in
theorem gX4_restore_X0_number : GoodIn wsX4_restore (wsV RX4 81 RX0 yX0_number wsX0_number) := goodIn_app (goodIn_of _ (by decide +kernel)) ggX4_restore_X0_number
set_option maxRecDepth 20000 in
theorem ggX4_restore_X4_recorded : GoodIn wsX4_restore wsX4_recorded := goodIn_r _ [65, 2, 66, 67, 68, 13, 69, 15, 21, 22, 23, 24, 25, 70, 71, 72, 73, 74, 75, 76, 77, 78] (by decide +kernel) (by decide +kernel)
set_option maxRecDepth 20000 in
theorem gX4_restore_X4_recorded : GoodIn wsX4_restore (wsV RX4 49 RX4 yX4_recorded wsX4_recorded) := goodIn_app (goodIn_of _ (by decide +kernel)) ggX4_restore_X4_recorded
theorem dX4_restore_0 : decode cX4_restore 0 = .ok (.aload_n 0, 1) := by decide +kernel
theorem dX4_restore_1 : decode cX4_restore 1 = .ok (.iload_n 1, 1) := by decide +kernel
theorem dX4_restore_2 : decode cX4_restore 2 = .ok (.invokevirtual 139, 3) := by decide +kernel
theorem dX4_restore_5 : decode cX4_restore 5 = .ok (.ifCond .ne 6, 3) := by decide +kernel
theorem dX4_restore_8 : decode cX4_restore 8 = .ok (.bipush (-2), 2) := by decide +kernel
theorem dX4_restore_10 : decode cX4_restore 10 = .ok (.ireturn, 1) := by decide +kernel
theorem dX4_restore_11 : decode cX4_restore 11 = .ok (.aload_n 0, 1) := by decide +kernel
theorem dX4_restore_12 : decode cX4_restore 12 = .ok (.getfield 30, 3) := by decide +kernel
theorem dX4_restore_15 : decode cX4_restore 15 = .ok (.iload_n 1, 1) := by decide +kernel
theorem dX4_restore_16 : decode cX4_restore 16 = .ok (.baload, 1) := by decide +kernel
theorem dX4_restore_17 : decode cX4_restore 17 = .ok (.ifCond .ne 6, 3) := by decide +kernel
theorem dX4_restore_20 : decode cX4_restore 20 = .ok (.bipush (-5), 2) := by decide +kernel
theorem dX4_restore_22 : decode cX4_restore 22 = .ok (.ireturn, 1) := by decide +kernel
theorem dX4_restore_23 : decode cX4_restore 23 = .ok (.aload_n 0, 1) := by decide +kernel
theorem dX4_restore_24 : decode cX4_restore 24 = .ok (.getfield 22, 3) := by decide +kernel
theorem dX4_restore_27 : decode cX4_restore 27 = .ok (.aload_n 0, 1) := by decide +kernel
theorem dX4_restore_28 : decode cX4_restore 28 = .ok (.getfield 10, 3) := by decide +kernel
theorem dX4_restore_31 : decode cX4_restore 31 = .ok (.invokevirtual 41, 3) := by decide +kernel
theorem dX4_restore_34 : decode cX4_restore 34 = .ok (.aload_n 0, 1) := by decide +kernel
theorem dX4_restore_35 : decode cX4_restore 35 = .ok (.getfield 10, 3) := by decide +kernel
theorem dX4_restore_38 : decode cX4_restore 38 = .ok (.aload_n 0, 1) := by decide +kernel
theorem dX4_restore_39 : decode cX4_restore 39 = .ok (.getfield 26, 3) := by decide +kernel
theorem dX4_restore_42 : decode cX4_restore 42 = .ok (.iload_n 1, 1) := by decide +kernel
theorem dX4_restore_43 : decode cX4_restore 43 = .ok (.aaload, 1) := by decide +kernel
theorem dX4_restore_44 : decode cX4_restore 44 = .ok (.invokevirtual 92, 3) := by decide +kernel
theorem dX4_restore_47 : decode cX4_restore 47 = .ok (.aload_n 0, 1) := by decide +kernel
theorem dX4_restore_48 : decode cX4_restore 48 = .ok (.aload_n 0, 1) := by decide +kernel
theorem dX4_restore_49 : decode cX4_restore 49 = .ok (.getfield 10, 3) := by decide +kernel
theorem dX4_restore_52 : decode cX4_restore 52 = .ok (.iconst 0, 1) := by decide +kernel
theorem dX4_restore_53 : decode cX4_restore 53 = .ok (.invokevirtual 81, 3) := by decide +kernel
theorem dX4_restore_56 : decode cX4_restore 56 = .ok (.invokevirtual 49, 3) := by decide +kernel
theorem dX4_restore_59 : decode cX4_restore 59 = .ok (.ireturn, 1) := by decide +kernel
theorem dX4_isSlot_0 : decode cX4_isSlot 0 = .ok (.iload_n 1, 1) := by decide +kernel
theorem dX4_isSlot_1 : decode cX4_isSlot 1 = .ok (.ifCond .lt 16, 3) := by decide +kernel
theorem dX4_isSlot_4 : decode cX4_isSlot 4 = .ok (.iload_n 1, 1) := by decide +kernel
theorem dX4_isSlot_5 : decode cX4_isSlot 5 = .ok (.aload_n 0, 1) := by decide +kernel
theorem dX4_isSlot_6 : decode cX4_isSlot 6 = .ok (.getfield 26, 3) := by decide +kernel
theorem dX4_isSlot_9 : decode cX4_isSlot 9 = .ok (.arraylength, 1) := by decide +kernel
theorem dX4_isSlot_10 : decode cX4_isSlot 10 = .ok (.if_icmp .ge 7, 3) := by decide +kernel
theorem dX4_isSlot_13 : decode cX4_isSlot 13 = .ok (.iconst 1, 1) := by decide +kernel
theorem dX4_isSlot_14 : decode cX4_isSlot 14 = .ok (.goto 4, 3) := by decide +kernel
theorem dX4_isSlot_17 : decode cX4_isSlot 17 = .ok (.iconst 0, 1) := by decide +kernel
theorem dX4_isSlot_18 : decode cX4_isSlot 18 = .ok (.ireturn, 1) := by decide +kernel
