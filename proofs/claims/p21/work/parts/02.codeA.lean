set_option maxRecDepth 20000 in
theorem ggX0_init_X1_init : GoodIn wsX0_init wsX1_init := goodIn_r _ [23, 24, 2, 3] (by decide +kernel) (by decide +kernel)
set_option maxRecDepth 20000 in
theorem gX0_init_X1_init_n44 : GoodIn wsX0_init (wsX1_init) := ggX0_init_X1_init
theorem dX0_init_0 : decode cX0_init 0 = .ok (.aload_n 0, 1) := by decide +kernel
theorem dX0_init_1 : decode cX0_init 1 = .ok (.invokespecial 5, 3) := by decide +kernel
theorem dX0_init_4 : decode cX0_init 4 = .ok (.aload_n 0, 1) := by decide +kernel
theorem dX0_init_5 : decode cX0_init 5 = .ok (.getstatic 11, 3) := by decide +kernel
theorem dX0_init_8 : decode cX0_init 8 = .ok (.invokevirtual 15, 3) := by decide +kernel
theorem dX0_init_11 : decode cX0_init 11 = .ok (.checkcast 16, 3) := by decide +kernel
theorem dX0_init_14 : decode cX0_init 14 = .ok (.putfield 20, 3) := by decide +kernel
theorem dX0_init_17 : decode cX0_init 17 = .ok (.aload_n 0, 1) := by decide +kernel
theorem dX0_init_18 : decode cX0_init 18 = .ok (.bipush 14, 2) := by decide +kernel
theorem dX0_init_20 : decode cX0_init 20 = .ok (.newarray .int, 2) := by decide +kernel
theorem dX0_init_22 : decode cX0_init 22 = .ok (.putfield 23, 3) := by decide +kernel
theorem dX0_init_25 : decode cX0_init 25 = .ok (.aload_n 0, 1) := by decide +kernel
theorem dX0_init_26 : decode cX0_init 26 = .ok (.bipush 8, 2) := by decide +kernel
theorem dX0_init_28 : decode cX0_init 28 = .ok (.anewarray 26, 3) := by decide +kernel
theorem dX0_init_31 : decode cX0_init 31 = .ok (.putfield 28, 3) := by decide +kernel
theorem dX0_init_34 : decode cX0_init 34 = .ok (.aload_n 0, 1) := by decide +kernel
theorem dX0_init_35 : decode cX0_init 35 = .ok (.bipush 32, 2) := by decide +kernel
theorem dX0_init_37 : decode cX0_init 37 = .ok (.newarray .int, 2) := by decide +kernel
theorem dX0_init_39 : decode cX0_init 39 = .ok (.putfield 32, 3) := by decide +kernel
theorem dX0_init_42 : decode cX0_init 42 = .ok (.aload_n 0, 1) := by decide +kernel
theorem dX0_init_43 : decode cX0_init 43 = .ok (.bipush 32, 2) := by decide +kernel
theorem dX0_init_45 : decode cX0_init 45 = .ok (.newarray .int, 2) := by decide +kernel
theorem dX0_init_47 : decode cX0_init 47 = .ok (.putfield 35, 3) := by decide +kernel
theorem dX0_init_50 : decode cX0_init 50 = .ok (.aload_n 0, 1) := by decide +kernel
theorem dX0_init_51 : decode cX0_init 51 = .ok (.bipush 32, 2) := by decide +kernel
theorem dX0_init_53 : decode cX0_init 53 = .ok (.newarray .int, 2) := by decide +kernel
theorem dX0_init_55 : decode cX0_init 55 = .ok (.putfield 38, 3) := by decide +kernel
theorem dX0_init_58 : decode cX0_init 58 = .ok (.aload_n 0, 1) := by decide +kernel
theorem dX0_init_59 : decode cX0_init 59 = .ok (.iconst 5, 1) := by decide +kernel
theorem dX0_init_60 : decode cX0_init 60 = .ok (.newarray .int, 2) := by decide +kernel
theorem dX0_init_62 : decode cX0_init 62 = .ok (.putfield 41, 3) := by decide +kernel
theorem dX0_init_65 : decode cX0_init 65 = .ok (.iconst 0, 1) := by decide +kernel
theorem dX0_init_66 : decode cX0_init 66 = .ok (.istore_n 1, 1) := by decide +kernel
theorem dX0_init_67 : decode cX0_init 67 = .ok (.iload_n 1, 1) := by decide +kernel
theorem dX0_init_68 : decode cX0_init 68 = .ok (.bipush 8, 2) := by decide +kernel
theorem dX0_init_70 : decode cX0_init 70 = .ok (.if_icmp .ge 22, 3) := by decide +kernel
theorem dX0_init_73 : decode cX0_init 73 = .ok (.aload_n 0, 1) := by decide +kernel
theorem dX0_init_74 : decode cX0_init 74 = .ok (.getfield 28, 3) := by decide +kernel
theorem dX0_init_77 : decode cX0_init 77 = .ok (.iload_n 1, 1) := by decide +kernel
theorem dX0_init_78 : decode cX0_init 78 = .ok (.new 26, 3) := by decide +kernel
theorem dX0_init_81 : decode cX0_init 81 = .ok (.dup, 1) := by decide +kernel
theorem dX0_init_82 : decode cX0_init 82 = .ok (.invokespecial 44, 3) := by decide +kernel
theorem dX0_init_85 : decode cX0_init 85 = .ok (.aastore, 1) := by decide +kernel
theorem dX0_init_86 : decode cX0_init 86 = .ok (.iinc 1 1, 3) := by decide +kernel
theorem dX0_init_89 : decode cX0_init 89 = .ok (.goto (-22), 3) := by decide +kernel
theorem dX0_init_92 : decode cX0_init 92 = .ok (.aload_n 0, 1) := by decide +kernel
theorem dX0_init_93 : decode cX0_init 93 = .ok (.getfield 23, 3) := by decide +kernel
theorem dX0_init_96 : decode cX0_init 96 = .ok (.bipush 10, 2) := by decide +kernel
theorem dX0_init_98 : decode cX0_init 98 = .ok (.bipush 20, 2) := by decide +kernel
theorem dX0_init_100 : decode cX0_init 100 = .ok (.iastore, 1) := by decide +kernel
theorem dX0_init_101 : decode cX0_init 101 = .ok (.return_, 1) := by decide +kernel
set_option maxRecDepth 20000 in
theorem ggX0_copyFrom_X1_copyFrom : GoodIn wsX0_copyFrom wsX1_copyFrom := goodIn_r _ [19, 20, 21, 22, 23, 24, 25, 26, 37, 38, 39, 40, 41, 42, 43] (by decide +kernel) (by decide +kernel)
set_option maxRecDepth 20000 in
theorem gX0_copyFrom_X1_copyFrom : GoodIn wsX0_copyFrom (wsV RX0 55 RX1 yX1_copyFrom wsX1_copyFrom) := goodIn_app (goodIn_of _ (by decide +kernel)) ggX0_copyFrom_X1_copyFrom
theorem dX0_copyFrom_0 : decode cX0_copyFrom 0 = .ok (.aload_n 1, 1) := by decide +kernel
theorem dX0_copyFrom_1 : decode cX0_copyFrom 1 = .ok (.getfield 20, 3) := by decide +kernel
theorem dX0_copyFrom_4 : decode cX0_copyFrom 4 = .ok (.iconst 0, 1) := by decide +kernel
theorem dX0_copyFrom_5 : decode cX0_copyFrom 5 = .ok (.aload_n 0, 1) := by decide +kernel
theorem dX0_copyFrom_6 : decode cX0_copyFrom 6 = .ok (.getfield 20, 3) := by decide +kernel
theorem dX0_copyFrom_9 : decode cX0_copyFrom 9 = .ok (.iconst 0, 1) := by decide +kernel
theorem dX0_copyFrom_10 : decode cX0_copyFrom 10 = .ok (.aload_n 0, 1) := by decide +kernel
theorem dX0_copyFrom_11 : decode cX0_copyFrom 11 = .ok (.getfield 20, 3) := by decide +kernel
theorem dX0_copyFrom_14 : decode cX0_copyFrom 14 = .ok (.arraylength, 1) := by decide +kernel
theorem dX0_copyFrom_15 : decode cX0_copyFrom 15 = .ok (.invokestatic 45, 3) := by decide +kernel
theorem dX0_copyFrom_18 : decode cX0_copyFrom 18 = .ok (.aload_n 1, 1) := by decide +kernel
theorem dX0_copyFrom_19 : decode cX0_copyFrom 19 = .ok (.getfield 23, 3) := by decide +kernel
theorem dX0_copyFrom_22 : decode cX0_copyFrom 22 = .ok (.iconst 0, 1) := by decide +kernel
theorem dX0_copyFrom_23 : decode cX0_copyFrom 23 = .ok (.aload_n 0, 1) := by decide +kernel
theorem dX0_copyFrom_24 : decode cX0_copyFrom 24 = .ok (.getfield 23, 3) := by decide +kernel
theorem dX0_copyFrom_27 : decode cX0_copyFrom 27 = .ok (.iconst 0, 1) := by decide +kernel
theorem dX0_copyFrom_28 : decode cX0_copyFrom 28 = .ok (.aload_n 0, 1) := by decide +kernel
theorem dX0_copyFrom_29 : decode cX0_copyFrom 29 = .ok (.getfield 23, 3) := by decide +kernel
theorem dX0_copyFrom_32 : decode cX0_copyFrom 32 = .ok (.arraylength, 1) := by decide +kernel
theorem dX0_copyFrom_33 : decode cX0_copyFrom 33 = .ok (.invokestatic 45, 3) := by decide +kernel
theorem dX0_copyFrom_36 : decode cX0_copyFrom 36 = .ok (.aload_n 0, 1) := by decide +kernel
theorem dX0_copyFrom_37 : decode cX0_copyFrom 37 = .ok (.aload_n 1, 1) := by decide +kernel
theorem dX0_copyFrom_38 : decode cX0_copyFrom 38 = .ok (.getfield 51, 3) := by decide +kernel
theorem dX0_copyFrom_41 : decode cX0_copyFrom 41 = .ok (.putfield 51, 3) := by decide +kernel
theorem dX0_copyFrom_44 : decode cX0_copyFrom 44 = .ok (.iconst 0, 1) := by decide +kernel
theorem dX0_copyFrom_45 : decode cX0_copyFrom 45 = .ok (.istore_n 2, 1) := by decide +kernel
theorem dX0_copyFrom_46 : decode cX0_copyFrom 46 = .ok (.iload_n 2, 1) := by decide +kernel
theorem dX0_copyFrom_47 : decode cX0_copyFrom 47 = .ok (.aload_n 0, 1) := by decide +kernel
theorem dX0_copyFrom_48 : decode cX0_copyFrom 48 = .ok (.getfield 51, 3) := by decide +kernel
theorem dX0_copyFrom_51 : decode cX0_copyFrom 51 = .ok (.if_icmp .ge 24, 3) := by decide +kernel
theorem dX0_copyFrom_54 : decode cX0_copyFrom 54 = .ok (.aload_n 0, 1) := by decide +kernel
theorem dX0_copyFrom_55 : decode cX0_copyFrom 55 = .ok (.getfield 28, 3) := by decide +kernel
theorem dX0_copyFrom_58 : decode cX0_copyFrom 58 = .ok (.iload_n 2, 1) := by decide +kernel
theorem dX0_copyFrom_59 : decode cX0_copyFrom 59 = .ok (.aaload, 1) := by decide +kernel
theorem dX0_copyFrom_60 : decode cX0_copyFrom 60 = .ok (.aload_n 1, 1) := by decide +kernel
theorem dX0_copyFrom_61 : decode cX0_copyFrom 61 = .ok (.getfield 28, 3) := by decide +kernel
theorem dX0_copyFrom_64 : decode cX0_copyFrom 64 = .ok (.iload_n 2, 1) := by decide +kernel
theorem dX0_copyFrom_65 : decode cX0_copyFrom 65 = .ok (.aaload, 1) := by decide +kernel
theorem dX0_copyFrom_66 : decode cX0_copyFrom 66 = .ok (.invokevirtual 55, 3) := by decide +kernel
theorem dX0_copyFrom_69 : decode cX0_copyFrom 69 = .ok (.iinc 2 1, 3) := by decide +kernel
theorem dX0_copyFrom_72 : decode cX0_copyFrom 72 = .ok (.goto (-26), 3) := by decide +kernel
theorem dX0_copyFrom_75 : decode cX0_copyFrom 75 = .ok (.aload_n 0, 1) := by decide +kernel
theorem dX0_copyFrom_76 : decode cX0_copyFrom 76 = .ok (.aload_n 1, 1) := by decide +kernel
theorem dX0_copyFrom_77 : decode cX0_copyFrom 77 = .ok (.getfield 59, 3) := by decide +kernel
theorem dX0_copyFrom_80 : decode cX0_copyFrom 80 = .ok (.putfield 59, 3) := by decide +kernel
theorem dX0_copyFrom_83 : decode cX0_copyFrom 83 = .ok (.aload_n 1, 1) := by decide +kernel
theorem dX0_copyFrom_84 : decode cX0_copyFrom 84 = .ok (.getfield 32, 3) := by decide +kernel
theorem dX0_copyFrom_87 : decode cX0_copyFrom 87 = .ok (.iconst 0, 1) := by decide +kernel
theorem dX0_copyFrom_88 : decode cX0_copyFrom 88 = .ok (.aload_n 0, 1) := by decide +kernel
theorem dX0_copyFrom_89 : decode cX0_copyFrom 89 = .ok (.getfield 32, 3) := by decide +kernel
theorem dX0_copyFrom_92 : decode cX0_copyFrom 92 = .ok (.iconst 0, 1) := by decide +kernel
theorem dX0_copyFrom_93 : decode cX0_copyFrom 93 = .ok (.aload_n 0, 1) := by decide +kernel
theorem dX0_copyFrom_94 : decode cX0_copyFrom 94 = .ok (.getfield 59, 3) := by decide +kernel
theorem dX0_copyFrom_97 : decode cX0_copyFrom 97 = .ok (.invokestatic 45, 3) := by decide +kernel
theorem dX0_copyFrom_100 : decode cX0_copyFrom 100 = .ok (.aload_n 1, 1) := by decide +kernel
theorem dX0_copyFrom_101 : decode cX0_copyFrom 101 = .ok (.getfield 35, 3) := by decide +kernel
theorem dX0_copyFrom_104 : decode cX0_copyFrom 104 = .ok (.iconst 0, 1) := by decide +kernel
theorem dX0_copyFrom_105 : decode cX0_copyFrom 105 = .ok (.aload_n 0, 1) := by decide +kernel
theorem dX0_copyFrom_106 : decode cX0_copyFrom 106 = .ok (.getfield 35, 3) := by decide +kernel
theorem dX0_copyFrom_109 : decode cX0_copyFrom 109 = .ok (.iconst 0, 1) := by decide +kernel
theorem dX0_copyFrom_110 : decode cX0_copyFrom 110 = .ok (.aload_n 0, 1) := by decide +kernel
theorem dX0_copyFrom_111 : decode cX0_copyFrom 111 = .ok (.getfield 59, 3) := by decide +kernel
theorem dX0_copyFrom_114 : decode cX0_copyFrom 114 = .ok (.invokestatic 45, 3) := by decide +kernel
theorem dX0_copyFrom_117 : decode cX0_copyFrom 117 = .ok (.aload_n 0, 1) := by decide +kernel
theorem dX0_copyFrom_118 : decode cX0_copyFrom 118 = .ok (.aload_n 1, 1) := by decide +kernel
theorem dX0_copyFrom_119 : decode cX0_copyFrom 119 = .ok (.getfield 62, 3) := by decide +kernel
theorem dX0_copyFrom_122 : decode cX0_copyFrom 122 = .ok (.putfield 62, 3) := by decide +kernel
theorem dX0_copyFrom_125 : decode cX0_copyFrom 125 = .ok (.aload_n 1, 1) := by decide +kernel
theorem dX0_copyFrom_126 : decode cX0_copyFrom 126 = .ok (.getfield 38, 3) := by decide +kernel
theorem dX0_copyFrom_129 : decode cX0_copyFrom 129 = .ok (.iconst 0, 1) := by decide +kernel
theorem dX0_copyFrom_130 : decode cX0_copyFrom 130 = .ok (.aload_n 0, 1) := by decide +kernel
theorem dX0_copyFrom_131 : decode cX0_copyFrom 131 = .ok (.getfield 38, 3) := by decide +kernel
theorem dX0_copyFrom_134 : decode cX0_copyFrom 134 = .ok (.iconst 0, 1) := by decide +kernel
theorem dX0_copyFrom_135 : decode cX0_copyFrom 135 = .ok (.aload_n 0, 1) := by decide +kernel
theorem dX0_copyFrom_136 : decode cX0_copyFrom 136 = .ok (.getfield 62, 3) := by decide +kernel
theorem dX0_copyFrom_139 : decode cX0_copyFrom 139 = .ok (.invokestatic 45, 3) := by decide +kernel
theorem dX0_copyFrom_142 : decode cX0_copyFrom 142 = .ok (.aload_n 1, 1) := by decide +kernel
theorem dX0_copyFrom_143 : decode cX0_copyFrom 143 = .ok (.getfield 41, 3) := by decide +kernel
theorem dX0_copyFrom_146 : decode cX0_copyFrom 146 = .ok (.iconst 0, 1) := by decide +kernel
theorem dX0_copyFrom_147 : decode cX0_copyFrom 147 = .ok (.aload_n 0, 1) := by decide +kernel
theorem dX0_copyFrom_148 : decode cX0_copyFrom 148 = .ok (.getfield 41, 3) := by decide +kernel
theorem dX0_copyFrom_151 : decode cX0_copyFrom 151 = .ok (.iconst 0, 1) := by decide +kernel
theorem dX0_copyFrom_152 : decode cX0_copyFrom 152 = .ok (.aload_n 0, 1) := by decide +kernel
theorem dX0_copyFrom_153 : decode cX0_copyFrom 153 = .ok (.getfield 41, 3) := by decide +kernel
theorem dX0_copyFrom_156 : decode cX0_copyFrom 156 = .ok (.arraylength, 1) := by decide +kernel
theorem dX0_copyFrom_157 : decode cX0_copyFrom 157 = .ok (.invokestatic 45, 3) := by decide +kernel
theorem dX0_copyFrom_160 : decode cX0_copyFrom 160 = .ok (.return_, 1) := by decide +kernel
theorem dX0_choose_0 : decode cX0_choose 0 = .ok (.iload_n 1, 1) := by decide +kernel
theorem dX0_choose_1 : decode cX0_choose 1 = .ok (.ifCond .lt 12, 3) := by decide +kernel
theorem dX0_choose_4 : decode cX0_choose 4 = .ok (.iload_n 1, 1) := by decide +kernel
theorem dX0_choose_5 : decode cX0_choose 5 = .ok (.aload_n 0, 1) := by decide +kernel
theorem dX0_choose_6 : decode cX0_choose 6 = .ok (.getfield 20, 3) := by decide +kernel
theorem dX0_choose_9 : decode cX0_choose 9 = .ok (.arraylength, 1) := by decide +kernel
theorem dX0_choose_10 : decode cX0_choose 10 = .ok (.if_icmp .lt 6, 3) := by decide +kernel
theorem dX0_choose_13 : decode cX0_choose 13 = .ok (.bipush (-2), 2) := by decide +kernel
theorem dX0_choose_15 : decode cX0_choose 15 = .ok (.ireturn, 1) := by decide +kernel
theorem dX0_choose_16 : decode cX0_choose 16 = .ok (.iload_n 2, 1) := by decide +kernel
theorem dX0_choose_17 : decode cX0_choose 17 = .ok (.getstatic 65, 3) := by decide +kernel
theorem dX0_choose_20 : decode cX0_choose 20 = .ok (.iload_n 1, 1) := by decide +kernel
theorem dX0_choose_21 : decode cX0_choose 21 = .ok (.iaload, 1) := by decide +kernel
theorem dX0_choose_22 : decode cX0_choose 22 = .ok (.if_icmp .lt 12, 3) := by decide +kernel
theorem dX0_choose_25 : decode cX0_choose 25 = .ok (.iload_n 2, 1) := by decide +kernel
theorem dX0_choose_26 : decode cX0_choose 26 = .ok (.getstatic 68, 3) := by decide +kernel
theorem dX0_choose_29 : decode cX0_choose 29 = .ok (.iload_n 1, 1) := by decide +kernel
theorem dX0_choose_30 : decode cX0_choose 30 = .ok (.iaload, 1) := by decide +kernel
theorem dX0_choose_31 : decode cX0_choose 31 = .ok (.if_icmp .le 6, 3) := by decide +kernel
theorem dX0_choose_34 : decode cX0_choose 34 = .ok (.bipush (-2), 2) := by decide +kernel
theorem dX0_choose_36 : decode cX0_choose 36 = .ok (.ireturn, 1) := by decide +kernel
theorem dX0_choose_37 : decode cX0_choose 37 = .ok (.aload_n 0, 1) := by decide +kernel
theorem dX0_choose_38 : decode cX0_choose 38 = .ok (.getfield 20, 3) := by decide +kernel
theorem dX0_choose_41 : decode cX0_choose 41 = .ok (.iload_n 1, 1) := by decide +kernel
theorem dX0_choose_42 : decode cX0_choose 42 = .ok (.iaload, 1) := by decide +kernel
theorem dX0_choose_43 : decode cX0_choose 43 = .ok (.istore_n 3, 1) := by decide +kernel
theorem dX0_choose_44 : decode cX0_choose 44 = .ok (.aload_n 0, 1) := by decide +kernel
theorem dX0_choose_45 : decode cX0_choose 45 = .ok (.getfield 20, 3) := by decide +kernel
theorem dX0_choose_48 : decode cX0_choose 48 = .ok (.iload_n 1, 1) := by decide +kernel
theorem dX0_choose_49 : decode cX0_choose 49 = .ok (.iload_n 2, 1) := by decide +kernel
theorem dX0_choose_50 : decode cX0_choose 50 = .ok (.iastore, 1) := by decide +kernel
theorem dX0_choose_51 : decode cX0_choose 51 = .ok (.iload_n 3, 1) := by decide +kernel
theorem dX0_choose_52 : decode cX0_choose 52 = .ok (.ireturn, 1) := by decide +kernel
set_option maxRecDepth 20000 in
theorem ggX0_takeBox_X1_canHave : GoodIn wsX0_takeBox wsX1_canHave := goodIn_r _ [7] (by decide +kernel) (by decide +kernel)
set_option maxRecDepth 20000 in
theorem gX0_takeBox_X1_canHave : GoodIn wsX0_takeBox (va_wsS RX0 71 yX1_canHave wsX1_canHave) := goodIn_app (goodIn_of _ (by decide +kernel)) ggX0_takeBox_X1_canHave
set_option maxRecDepth 20000 in
theorem ggX0_takeBox_X1_back : GoodIn wsX0_takeBox wsX1_back := goodIn_r _ [11, 12, 13, 33, 34, 35, 36, 37, 38, 39] (by decide +kernel) (by decide +kernel)
set_option maxRecDepth 20000 in
theorem gX0_takeBox_X1_back : GoodIn wsX0_takeBox (wsV RX0 75 RX1 yX1_back wsX1_back) := goodIn_app (goodIn_of _ (by decide +kernel)) ggX0_takeBox_X1_back
set_option maxRecDepth 20000 in
theorem ggX0_takeBox_X1_begin : GoodIn wsX0_takeBox wsX1_begin := goodIn_r _ [17, 12, 13, 18, 19, 20, 21, 22, 33, 34, 35, 36, 37, 38, 39] (by decide +kernel) (by decide +kernel)
set_option maxRecDepth 20000 in
theorem gX0_takeBox_X1_begin : GoodIn wsX0_takeBox (wsV RX0 79 RX1 yX1_begin wsX1_begin) := goodIn_app (goodIn_of _ (by decide +kernel)) ggX0_takeBox_X1_begin
theorem dX0_takeBox_0 : decode cX0_takeBox 0 = .ok (.iload_n 1, 1) := by decide +kernel
theorem dX0_takeBox_1 : decode cX0_takeBox 1 = .ok (.invokestatic 71, 3) := by decide +kernel
theorem dX0_takeBox_4 : decode cX0_takeBox 4 = .ok (.ifCond .ne 6, 3) := by decide +kernel
theorem dX0_takeBox_7 : decode cX0_takeBox 7 = .ok (.bipush (-2), 2) := by decide +kernel
theorem dX0_takeBox_9 : decode cX0_takeBox 9 = .ok (.ireturn, 1) := by decide +kernel
theorem dX0_takeBox_10 : decode cX0_takeBox 10 = .ok (.aload_n 0, 1) := by decide +kernel
theorem dX0_takeBox_11 : decode cX0_takeBox 11 = .ok (.getfield 51, 3) := by decide +kernel
theorem dX0_takeBox_14 : decode cX0_takeBox 14 = .ok (.bipush 8, 2) := by decide +kernel
theorem dX0_takeBox_16 : decode cX0_takeBox 16 = .ok (.if_icmp .lt 6, 3) := by decide +kernel
theorem dX0_takeBox_19 : decode cX0_takeBox 19 = .ok (.bipush (-4), 2) := by decide +kernel
theorem dX0_takeBox_21 : decode cX0_takeBox 21 = .ok (.ireturn, 1) := by decide +kernel
theorem dX0_takeBox_22 : decode cX0_takeBox 22 = .ok (.aload_n 0, 1) := by decide +kernel
theorem dX0_takeBox_23 : decode cX0_takeBox 23 = .ok (.getfield 51, 3) := by decide +kernel
theorem dX0_takeBox_26 : decode cX0_takeBox 26 = .ok (.ifCond .le 24, 3) := by decide +kernel
theorem dX0_takeBox_29 : decode cX0_takeBox 29 = .ok (.aload_n 0, 1) := by decide +kernel
theorem dX0_takeBox_30 : decode cX0_takeBox 30 = .ok (.getfield 28, 3) := by decide +kernel
theorem dX0_takeBox_33 : decode cX0_takeBox 33 = .ok (.aload_n 0, 1) := by decide +kernel
theorem dX0_takeBox_34 : decode cX0_takeBox 34 = .ok (.getfield 51, 3) := by decide +kernel
theorem dX0_takeBox_37 : decode cX0_takeBox 37 = .ok (.iconst 1, 1) := by decide +kernel
theorem dX0_takeBox_38 : decode cX0_takeBox 38 = .ok (.isub, 1) := by decide +kernel
theorem dX0_takeBox_39 : decode cX0_takeBox 39 = .ok (.aaload, 1) := by decide +kernel
theorem dX0_takeBox_40 : decode cX0_takeBox 40 = .ok (.invokevirtual 75, 3) := by decide +kernel
theorem dX0_takeBox_43 : decode cX0_takeBox 43 = .ok (.iconst 1, 1) := by decide +kernel
theorem dX0_takeBox_44 : decode cX0_takeBox 44 = .ok (.if_icmp .ge 6, 3) := by decide +kernel
theorem dX0_takeBox_47 : decode cX0_takeBox 47 = .ok (.bipush (-5), 2) := by decide +kernel
theorem dX0_takeBox_49 : decode cX0_takeBox 49 = .ok (.ireturn, 1) := by decide +kernel
theorem dX0_takeBox_50 : decode cX0_takeBox 50 = .ok (.aload_n 0, 1) := by decide +kernel
theorem dX0_takeBox_51 : decode cX0_takeBox 51 = .ok (.getfield 28, 3) := by decide +kernel
theorem dX0_takeBox_54 : decode cX0_takeBox 54 = .ok (.aload_n 0, 1) := by decide +kernel
theorem dX0_takeBox_55 : decode cX0_takeBox 55 = .ok (.getfield 51, 3) := by decide +kernel
theorem dX0_takeBox_58 : decode cX0_takeBox 58 = .ok (.aaload, 1) := by decide +kernel
theorem dX0_takeBox_59 : decode cX0_takeBox 59 = .ok (.iload_n 1, 1) := by decide +kernel
theorem dX0_takeBox_60 : decode cX0_takeBox 60 = .ok (.aload_n 0, 1) := by decide +kernel
theorem dX0_takeBox_61 : decode cX0_takeBox 61 = .ok (.getfield 23, 3) := by decide +kernel
theorem dX0_takeBox_64 : decode cX0_takeBox 64 = .ok (.iconst 2, 1) := by decide +kernel
theorem dX0_takeBox_65 : decode cX0_takeBox 65 = .ok (.iaload, 1) := by decide +kernel
theorem dX0_takeBox_66 : decode cX0_takeBox 66 = .ok (.invokevirtual 79, 3) := by decide +kernel
theorem dX0_takeBox_69 : decode cX0_takeBox 69 = .ok (.aload_n 0, 1) := by decide +kernel
theorem dX0_takeBox_70 : decode cX0_takeBox 70 = .ok (.getfield 23, 3) := by decide +kernel
theorem dX0_takeBox_73 : decode cX0_takeBox 73 = .ok (.iconst 2, 1) := by decide +kernel
theorem dX0_takeBox_74 : decode cX0_takeBox 74 = .ok (.dup2, 1) := by decide +kernel
theorem dX0_takeBox_75 : decode cX0_takeBox 75 = .ok (.iaload, 1) := by decide +kernel
theorem dX0_takeBox_76 : decode cX0_takeBox 76 = .ok (.iconst 1, 1) := by decide +kernel
theorem dX0_takeBox_77 : decode cX0_takeBox 77 = .ok (.iadd, 1) := by decide +kernel
theorem dX0_takeBox_78 : decode cX0_takeBox 78 = .ok (.iastore, 1) := by decide +kernel
theorem dX0_takeBox_79 : decode cX0_takeBox 79 = .ok (.aload_n 0, 1) := by decide +kernel
theorem dX0_takeBox_80 : decode cX0_takeBox 80 = .ok (.dup, 1) := by decide +kernel
theorem dX0_takeBox_81 : decode cX0_takeBox 81 = .ok (.getfield 51, 3) := by decide +kernel
theorem dX0_takeBox_84 : decode cX0_takeBox 84 = .ok (.iconst 1, 1) := by decide +kernel
theorem dX0_takeBox_85 : decode cX0_takeBox 85 = .ok (.iadd, 1) := by decide +kernel
theorem dX0_takeBox_86 : decode cX0_takeBox 86 = .ok (.putfield 51, 3) := by decide +kernel
theorem dX0_takeBox_89 : decode cX0_takeBox 89 = .ok (.aload_n 0, 1) := by decide +kernel
theorem dX0_takeBox_90 : decode cX0_takeBox 90 = .ok (.getfield 51, 3) := by decide +kernel
theorem dX0_takeBox_93 : decode cX0_takeBox 93 = .ok (.iconst 1, 1) := by decide +kernel
theorem dX0_takeBox_94 : decode cX0_takeBox 94 = .ok (.isub, 1) := by decide +kernel
theorem dX0_takeBox_95 : decode cX0_takeBox 95 = .ok (.ireturn, 1) := by decide +kernel
set_option maxRecDepth 20000 in
theorem ggX0_turnBox_X0_isBox : GoodIn wsX0_turnBox wsX0_isBox := goodIn_r _ [8, 9, 28, 29, 30, 31, 32, 33, 34, 35, 36, 37] (by decide +kernel) (by decide +kernel)
set_option maxRecDepth 20000 in
theorem gX0_turnBox_X0_isBox : GoodIn wsX0_turnBox (wsV RX0 83 RX0 yX0_isBox wsX0_isBox) := goodIn_app (goodIn_of _ (by decide +kernel)) ggX0_turnBox_X0_isBox
set_option maxRecDepth 20000 in
theorem ggX0_turnBox_X1_canHave : GoodIn wsX0_turnBox wsX1_canHave := goodIn_r _ [13] (by decide +kernel) (by decide +kernel)
set_option maxRecDepth 20000 in
theorem gX0_turnBox_X1_canHave : GoodIn wsX0_turnBox (va_wsS RX0 71 yX1_canHave wsX1_canHave) := goodIn_app (goodIn_of _ (by decide +kernel)) ggX0_turnBox_X1_canHave
set_option maxRecDepth 20000 in
theorem ggX0_turnBox_J9_floorDiv_7cf53 : GoodIn wsX0_turnBox wsJ9_floorDiv_7cf53 := goodIn_r _ [17] (by decide +kernel) (by decide +kernel)
set_option maxRecDepth 20000 in
theorem gX0_turnBox_J9_floorDiv_7cf53 : GoodIn wsX0_turnBox (va_wsS RX0 92 yJ9_floorDiv_7cf53 wsJ9_floorDiv_7cf53) := goodIn_app (goodIn_of _ (by decide +kernel)) ggX0_turnBox_J9_floorDiv_7cf53
set_option maxRecDepth 20000 in
theorem ggX0_turnBox_X0_hasRoom : GoodIn wsX0_turnBox wsX0_hasRoom := goodIn_r _ [21, 1, 9, 2, 22, 23, 24, 12, 25, 26, 27, 28, 29, 30, 31, 32, 33, 34, 35, 36, 37, 38, 39, 40, 41, 42, 43, 44] (by decide +kernel) (by decide +kernel)
set_option maxRecDepth 20000 in
theorem gX0_turnBox_X0_hasRoom : GoodIn wsX0_turnBox (wsV RX0 98 RX0 yX0_hasRoom wsX0_hasRoom) := goodIn_app (goodIn_of _ (by decide +kernel)) ggX0_turnBox_X0_hasRoom
theorem dX0_turnBox_0 : decode cX0_turnBox 0 = .ok (.aload_n 0, 1) := by decide +kernel
theorem dX0_turnBox_1 : decode cX0_turnBox 1 = .ok (.iload_n 1, 1) := by decide +kernel
theorem dX0_turnBox_2 : decode cX0_turnBox 2 = .ok (.invokevirtual 83, 3) := by decide +kernel
theorem dX0_turnBox_5 : decode cX0_turnBox 5 = .ok (.ifCond .ne 5, 3) := by decide +kernel
theorem dX0_turnBox_8 : decode cX0_turnBox 8 = .ok (.iconst (-1), 1) := by decide +kernel
theorem dX0_turnBox_9 : decode cX0_turnBox 9 = .ok (.ireturn, 1) := by decide +kernel
theorem dX0_turnBox_10 : decode cX0_turnBox 10 = .ok (.iload_n 2, 1) := by decide +kernel
theorem dX0_turnBox_11 : decode cX0_turnBox 11 = .ok (.invokestatic 71, 3) := by decide +kernel
theorem dX0_turnBox_14 : decode cX0_turnBox 14 = .ok (.ifCond .ne 6, 3) := by decide +kernel
theorem dX0_turnBox_17 : decode cX0_turnBox 17 = .ok (.bipush (-2), 2) := by decide +kernel
theorem dX0_turnBox_19 : decode cX0_turnBox 19 = .ok (.ireturn, 1) := by decide +kernel
theorem dX0_turnBox_20 : decode cX0_turnBox 20 = .ok (.aload_n 0, 1) := by decide +kernel
theorem dX0_turnBox_21 : decode cX0_turnBox 21 = .ok (.getfield 28, 3) := by decide +kernel
theorem dX0_turnBox_24 : decode cX0_turnBox 24 = .ok (.iload_n 1, 1) := by decide +kernel
theorem dX0_turnBox_25 : decode cX0_turnBox 25 = .ok (.aaload, 1) := by decide +kernel
theorem dX0_turnBox_26 : decode cX0_turnBox 26 = .ok (.astore_n 3, 1) := by decide +kernel
theorem dX0_turnBox_27 : decode cX0_turnBox 27 = .ok (.aload_n 3, 1) := by decide +kernel
theorem dX0_turnBox_28 : decode cX0_turnBox 28 = .ok (.getfield 86, 3) := by decide +kernel
theorem dX0_turnBox_31 : decode cX0_turnBox 31 = .ok (.iload_n 2, 1) := by decide +kernel
theorem dX0_turnBox_32 : decode cX0_turnBox 32 = .ok (.aload_n 3, 1) := by decide +kernel
theorem dX0_turnBox_33 : decode cX0_turnBox 33 = .ok (.getfield 89, 3) := by decide +kernel
theorem dX0_turnBox_36 : decode cX0_turnBox 36 = .ok (.isub, 1) := by decide +kernel
theorem dX0_turnBox_37 : decode cX0_turnBox 37 = .ok (.iconst 2, 1) := by decide +kernel
theorem dX0_turnBox_38 : decode cX0_turnBox 38 = .ok (.invokestatic 92, 3) := by decide +kernel
theorem dX0_turnBox_41 : decode cX0_turnBox 41 = .ok (.iadd, 1) := by decide +kernel
theorem dX0_turnBox_42 : decode cX0_turnBox 42 = .ok (.istore 4, 2) := by decide +kernel
theorem dX0_turnBox_44 : decode cX0_turnBox 44 = .ok (.aload_n 0, 1) := by decide +kernel
theorem dX0_turnBox_45 : decode cX0_turnBox 45 = .ok (.iload_n 1, 1) := by decide +kernel
theorem dX0_turnBox_46 : decode cX0_turnBox 46 = .ok (.iload 4, 2) := by decide +kernel
theorem dX0_turnBox_48 : decode cX0_turnBox 48 = .ok (.iload 4, 2) := by decide +kernel
theorem dX0_turnBox_50 : decode cX0_turnBox 50 = .ok (.iload_n 2, 1) := by decide +kernel
theorem dX0_turnBox_51 : decode cX0_turnBox 51 = .ok (.isub, 1) := by decide +kernel
theorem dX0_turnBox_52 : decode cX0_turnBox 52 = .ok (.invokevirtual 98, 3) := by decide +kernel
theorem dX0_turnBox_55 : decode cX0_turnBox 55 = .ok (.ifCond .ne 6, 3) := by decide +kernel
theorem dX0_turnBox_58 : decode cX0_turnBox 58 = .ok (.bipush (-5), 2) := by decide +kernel
theorem dX0_turnBox_60 : decode cX0_turnBox 60 = .ok (.ireturn, 1) := by decide +kernel
theorem dX0_turnBox_61 : decode cX0_turnBox 61 = .ok (.aload_n 3, 1) := by decide +kernel
theorem dX0_turnBox_62 : decode cX0_turnBox 62 = .ok (.iload 4, 2) := by decide +kernel
theorem dX0_turnBox_64 : decode cX0_turnBox 64 = .ok (.putfield 86, 3) := by decide +kernel
theorem dX0_turnBox_67 : decode cX0_turnBox 67 = .ok (.aload_n 3, 1) := by decide +kernel
theorem dX0_turnBox_68 : decode cX0_turnBox 68 = .ok (.iload_n 2, 1) := by decide +kernel
theorem dX0_turnBox_69 : decode cX0_turnBox 69 = .ok (.putfield 89, 3) := by decide +kernel
theorem dX0_turnBox_72 : decode cX0_turnBox 72 = .ok (.iload 4, 2) := by decide +kernel
theorem dX0_turnBox_74 : decode cX0_turnBox 74 = .ok (.sipush 1000, 3) := by decide +kernel
theorem dX0_turnBox_77 : decode cX0_turnBox 77 = .ok (.iadd, 1) := by decide +kernel
theorem dX0_turnBox_78 : decode cX0_turnBox 78 = .ok (.ireturn, 1) := by decide +kernel
set_option maxRecDepth 20000 in
theorem ggX0_hasRoom_X1_back : GoodIn wsX0_hasRoom wsX1_back := goodIn_r _ [8, 9, 10, 21, 22, 23, 24, 25, 26, 27] (by decide +kernel) (by decide +kernel)
set_option maxRecDepth 20000 in
theorem gX0_hasRoom_X1_back : GoodIn wsX0_hasRoom (wsV RX0 75 RX1 yX1_back wsX1_back) := goodIn_app (goodIn_of _ (by decide +kernel)) ggX0_hasRoom_X1_back
theorem dX0_hasRoom_0 : decode cX0_hasRoom 0 = .ok (.iload_n 1, 1) := by decide +kernel
theorem dX0_hasRoom_1 : decode cX0_hasRoom 1 = .ok (.ifCond .le 22, 3) := by decide +kernel
theorem dX0_hasRoom_4 : decode cX0_hasRoom 4 = .ok (.aload_n 0, 1) := by decide +kernel
theorem dX0_hasRoom_5 : decode cX0_hasRoom 5 = .ok (.getfield 28, 3) := by decide +kernel
theorem dX0_hasRoom_8 : decode cX0_hasRoom 8 = .ok (.iload_n 1, 1) := by decide +kernel
theorem dX0_hasRoom_9 : decode cX0_hasRoom 9 = .ok (.iconst 1, 1) := by decide +kernel
theorem dX0_hasRoom_10 : decode cX0_hasRoom 10 = .ok (.isub, 1) := by decide +kernel
theorem dX0_hasRoom_11 : decode cX0_hasRoom 11 = .ok (.aaload, 1) := by decide +kernel
theorem dX0_hasRoom_12 : decode cX0_hasRoom 12 = .ok (.invokevirtual 75, 3) := by decide +kernel
theorem dX0_hasRoom_15 : decode cX0_hasRoom 15 = .ok (.iload_n 2, 1) := by decide +kernel
theorem dX0_hasRoom_16 : decode cX0_hasRoom 16 = .ok (.isub, 1) := by decide +kernel
theorem dX0_hasRoom_17 : decode cX0_hasRoom 17 = .ok (.iconst 1, 1) := by decide +kernel
theorem dX0_hasRoom_18 : decode cX0_hasRoom 18 = .ok (.if_icmp .ge 5, 3) := by decide +kernel
theorem dX0_hasRoom_21 : decode cX0_hasRoom 21 = .ok (.iconst 0, 1) := by decide +kernel
theorem dX0_hasRoom_22 : decode cX0_hasRoom 22 = .ok (.ireturn, 1) := by decide +kernel
theorem dX0_hasRoom_23 : decode cX0_hasRoom 23 = .ok (.iload_n 1, 1) := by decide +kernel
theorem dX0_hasRoom_24 : decode cX0_hasRoom 24 = .ok (.iconst 1, 1) := by decide +kernel
theorem dX0_hasRoom_25 : decode cX0_hasRoom 25 = .ok (.iadd, 1) := by decide +kernel
theorem dX0_hasRoom_26 : decode cX0_hasRoom 26 = .ok (.aload_n 0, 1) := by decide +kernel
theorem dX0_hasRoom_27 : decode cX0_hasRoom 27 = .ok (.getfield 51, 3) := by decide +kernel
theorem dX0_hasRoom_30 : decode cX0_hasRoom 30 = .ok (.if_icmp .ge 20, 3) := by decide +kernel
theorem dX0_hasRoom_33 : decode cX0_hasRoom 33 = .ok (.iload_n 3, 1) := by decide +kernel
theorem dX0_hasRoom_34 : decode cX0_hasRoom 34 = .ok (.aload_n 0, 1) := by decide +kernel
theorem dX0_hasRoom_35 : decode cX0_hasRoom 35 = .ok (.getfield 28, 3) := by decide +kernel
theorem dX0_hasRoom_38 : decode cX0_hasRoom 38 = .ok (.iload_n 1, 1) := by decide +kernel
theorem dX0_hasRoom_39 : decode cX0_hasRoom 39 = .ok (.iconst 1, 1) := by decide +kernel
theorem dX0_hasRoom_40 : decode cX0_hasRoom 40 = .ok (.iadd, 1) := by decide +kernel
theorem dX0_hasRoom_41 : decode cX0_hasRoom 41 = .ok (.aaload, 1) := by decide +kernel
theorem dX0_hasRoom_42 : decode cX0_hasRoom 42 = .ok (.getfield 86, 3) := by decide +kernel
theorem dX0_hasRoom_45 : decode cX0_hasRoom 45 = .ok (.isub, 1) := by decide +kernel
theorem dX0_hasRoom_46 : decode cX0_hasRoom 46 = .ok (.iconst 1, 1) := by decide +kernel
theorem dX0_hasRoom_47 : decode cX0_hasRoom 47 = .ok (.if_icmp .lt 7, 3) := by decide +kernel
theorem dX0_hasRoom_50 : decode cX0_hasRoom 50 = .ok (.iconst 1, 1) := by decide +kernel
theorem dX0_hasRoom_51 : decode cX0_hasRoom 51 = .ok (.goto 4, 3) := by decide +kernel
theorem dX0_hasRoom_54 : decode cX0_hasRoom 54 = .ok (.iconst 0, 1) := by decide +kernel
theorem dX0_hasRoom_55 : decode cX0_hasRoom 55 = .ok (.ireturn, 1) := by decide +kernel
set_option maxRecDepth 20000 in
theorem ggX0_letPass_X0_howManyLeft : GoodIn wsX0_letPass wsX0_howManyLeft := goodIn_r _ [6, 1, 95, 96, 97, 98, 99, 100, 101, 102, 103, 104] (by decide +kernel) (by decide +kernel)
set_option maxRecDepth 20000 in
theorem gX0_letPass_X0_howManyLeft : GoodIn wsX0_letPass (wsV RX0 102 RX0 yX0_howManyLeft wsX0_howManyLeft) := goodIn_app (goodIn_of _ (by decide +kernel)) ggX0_letPass_X0_howManyLeft
set_option maxRecDepth 20000 in
theorem ggX0_letPass_X0_tickOn : GoodIn wsX0_letPass wsX0_tickOn := goodIn_r _ [10, 1, 11, 12, 13, 5, 14, 15, 16, 17, 18, 19, 20, 21, 22, 23, 24, 25, 26, 27, 28, 29, 30, 31, 32, 33, 34, 35, 36, 37, 38, 39, 40, 41, 42, 43, 44, 45, 46, 47, 48, 49, 50, 51, 52, 53, 54, 55, 56, 57, 58, 59, 60, 61, 62, 63, 64, 65, 66, 67, 68, 69, 70, 71, 72, 73, 74, 75, 76, 77, 78, 79, 80, 81, 82, 83, 84, 85, 86, 87, 88, 89, 90, 91, 92, 93, 94, 95, 96, 97, 98, 99, 100, 101, 102, 103, 104, 105, 106, 107, 108, 109, 110, 111] (by decide +kernel) (by decide +kernel)
set_option maxRecDepth 20000 in
theorem gX0_letPass_X0_tickOn : GoodIn wsX0_letPass (wsV RX0 105 RX0 yX0_tickOn wsX0_tickOn) := goodIn_app (goodIn_of _ (by decide +kernel)) ggX0_letPass_X0_tickOn
theorem dX0_letPass_0 : decode cX0_letPass 0 = .ok (.iload_n 1, 1) := by decide +kernel
theorem dX0_letPass_1 : decode cX0_letPass 1 = .ok (.iconst 1, 1) := by decide +kernel
theorem dX0_letPass_2 : decode cX0_letPass 2 = .ok (.if_icmp .lt 9, 3) := by decide +kernel
theorem dX0_letPass_5 : decode cX0_letPass 5 = .ok (.iload_n 1, 1) := by decide +kernel
theorem dX0_letPass_6 : decode cX0_letPass 6 = .ok (.bipush 99, 2) := by decide +kernel
theorem dX0_letPass_8 : decode cX0_letPass 8 = .ok (.if_icmp .le 6, 3) := by decide +kernel
theorem dX0_letPass_11 : decode cX0_letPass 11 = .ok (.bipush (-2), 2) := by decide +kernel
theorem dX0_letPass_13 : decode cX0_letPass 13 = .ok (.ireturn, 1) := by decide +kernel
theorem dX0_letPass_14 : decode cX0_letPass 14 = .ok (.aload_n 0, 1) := by decide +kernel
theorem dX0_letPass_15 : decode cX0_letPass 15 = .ok (.getfield 23, 3) := by decide +kernel
theorem dX0_letPass_18 : decode cX0_letPass 18 = .ok (.iconst 0, 1) := by decide +kernel
theorem dX0_letPass_19 : decode cX0_letPass 19 = .ok (.iaload, 1) := by decide +kernel
theorem dX0_letPass_20 : decode cX0_letPass 20 = .ok (.iload_n 1, 1) := by decide +kernel
theorem dX0_letPass_21 : decode cX0_letPass 21 = .ok (.iadd, 1) := by decide +kernel
theorem dX0_letPass_22 : decode cX0_letPass 22 = .ok (.sipush 20000, 3) := by decide +kernel
theorem dX0_letPass_25 : decode cX0_letPass 25 = .ok (.if_icmp .le 6, 3) := by decide +kernel
theorem dX0_letPass_28 : decode cX0_letPass 28 = .ok (.bipush (-4), 2) := by decide +kernel
theorem dX0_letPass_30 : decode cX0_letPass 30 = .ok (.ireturn, 1) := by decide +kernel
theorem dX0_letPass_31 : decode cX0_letPass 31 = .ok (.aload_n 0, 1) := by decide +kernel
theorem dX0_letPass_32 : decode cX0_letPass 32 = .ok (.invokevirtual 102, 3) := by decide +kernel
theorem dX0_letPass_35 : decode cX0_letPass 35 = .ok (.istore_n 2, 1) := by decide +kernel
theorem dX0_letPass_36 : decode cX0_letPass 36 = .ok (.aload_n 0, 1) := by decide +kernel
theorem dX0_letPass_37 : decode cX0_letPass 37 = .ok (.iload_n 1, 1) := by decide +kernel
theorem dX0_letPass_38 : decode cX0_letPass 38 = .ok (.invokevirtual 105, 3) := by decide +kernel
theorem dX0_letPass_41 : decode cX0_letPass 41 = .ok (.aload_n 0, 1) := by decide +kernel
theorem dX0_letPass_42 : decode cX0_letPass 42 = .ok (.invokevirtual 102, 3) := by decide +kernel
theorem dX0_letPass_45 : decode cX0_letPass 45 = .ok (.iload_n 2, 1) := by decide +kernel
theorem dX0_letPass_46 : decode cX0_letPass 46 = .ok (.isub, 1) := by decide +kernel
theorem dX0_letPass_47 : decode cX0_letPass 47 = .ok (.ireturn, 1) := by decide +kernel
theorem dX0_howManyLeft_0 : decode cX0_howManyLeft 0 = .ok (.aload_n 0, 1) := by decide +kernel
theorem dX0_howManyLeft_1 : decode cX0_howManyLeft 1 = .ok (.getfield 23, 3) := by decide +kernel
theorem dX0_howManyLeft_4 : decode cX0_howManyLeft 4 = .ok (.iconst 3, 1) := by decide +kernel
theorem dX0_howManyLeft_5 : decode cX0_howManyLeft 5 = .ok (.iaload, 1) := by decide +kernel
theorem dX0_howManyLeft_6 : decode cX0_howManyLeft 6 = .ok (.aload_n 0, 1) := by decide +kernel
theorem dX0_howManyLeft_7 : decode cX0_howManyLeft 7 = .ok (.getfield 23, 3) := by decide +kernel
theorem dX0_howManyLeft_10 : decode cX0_howManyLeft 10 = .ok (.iconst 4, 1) := by decide +kernel
theorem dX0_howManyLeft_11 : decode cX0_howManyLeft 11 = .ok (.iaload, 1) := by decide +kernel
theorem dX0_howManyLeft_12 : decode cX0_howManyLeft 12 = .ok (.iadd, 1) := by decide +kernel
theorem dX0_howManyLeft_13 : decode cX0_howManyLeft 13 = .ok (.aload_n 0, 1) := by decide +kernel
theorem dX0_howManyLeft_14 : decode cX0_howManyLeft 14 = .ok (.getfield 23, 3) := by decide +kernel
theorem dX0_howManyLeft_17 : decode cX0_howManyLeft 17 = .ok (.iconst 5, 1) := by decide +kernel
theorem dX0_howManyLeft_18 : decode cX0_howManyLeft 18 = .ok (.iaload, 1) := by decide +kernel
theorem dX0_howManyLeft_19 : decode cX0_howManyLeft 19 = .ok (.iadd, 1) := by decide +kernel
theorem dX0_howManyLeft_20 : decode cX0_howManyLeft 20 = .ok (.ireturn, 1) := by decide +kernel
theorem dX0_isBox_0 : decode cX0_isBox 0 = .ok (.iload_n 1, 1) := by decide +kernel
theorem dX0_isBox_1 : decode cX0_isBox 1 = .ok (.ifCond .lt 15, 3) := by decide +kernel
theorem dX0_isBox_4 : decode cX0_isBox 4 = .ok (.iload_n 1, 1) := by decide +kernel
theorem dX0_isBox_5 : decode cX0_isBox 5 = .ok (.aload_n 0, 1) := by decide +kernel
theorem dX0_isBox_6 : decode cX0_isBox 6 = .ok (.getfield 51, 3) := by decide +kernel
theorem dX0_isBox_9 : decode cX0_isBox 9 = .ok (.if_icmp .ge 7, 3) := by decide +kernel
theorem dX0_isBox_12 : decode cX0_isBox 12 = .ok (.iconst 1, 1) := by decide +kernel
theorem dX0_isBox_13 : decode cX0_isBox 13 = .ok (.goto 4, 3) := by decide +kernel
theorem dX0_isBox_16 : decode cX0_isBox 16 = .ok (.iconst 0, 1) := by decide +kernel
theorem dX0_isBox_17 : decode cX0_isBox 17 = .ok (.ireturn, 1) := by decide +kernel
set_option maxRecDepth 20000 in
theorem ggX0_aboutBox_X0_isBox : GoodIn wsX0_aboutBox wsX0_isBox := goodIn_r _ [6, 7, 20, 21, 22, 23, 24, 25, 26, 27, 28, 29] (by decide +kernel) (by decide +kernel)
set_option maxRecDepth 20000 in
theorem gX0_aboutBox_X0_isBox : GoodIn wsX0_aboutBox (wsV RX0 83 RX0 yX0_isBox wsX0_isBox) := goodIn_app (goodIn_of _ (by decide +kernel)) ggX0_aboutBox_X0_isBox
set_option maxRecDepth 20000 in
theorem ggX0_aboutBox_X1_tell : GoodIn wsX0_aboutBox wsX1_tell := goodIn_r _ [12, 13, 14, 15, 16, 17, 18, 19, 30, 31, 32, 33, 34, 35, 36] (by decide +kernel) (by decide +kernel)
set_option maxRecDepth 20000 in
theorem gX0_aboutBox_X1_tell : GoodIn wsX0_aboutBox (wsV RX0 109 RX1 yX1_tell wsX1_tell) := goodIn_app (goodIn_of _ (by decide +kernel)) ggX0_aboutBox_X1_tell
theorem dX0_aboutBox_0 : decode cX0_aboutBox 0 = .ok (.aload_n 0, 1) := by decide +kernel
theorem dX0_aboutBox_1 : decode cX0_aboutBox 1 = .ok (.iload_n 1, 1) := by decide +kernel
theorem dX0_aboutBox_2 : decode cX0_aboutBox 2 = .ok (.invokevirtual 83, 3) := by decide +kernel
theorem dX0_aboutBox_5 : decode cX0_aboutBox 5 = .ok (.ifCond .eq 16, 3) := by decide +kernel
theorem dX0_aboutBox_8 : decode cX0_aboutBox 8 = .ok (.aload_n 0, 1) := by decide +kernel
theorem dX0_aboutBox_9 : decode cX0_aboutBox 9 = .ok (.getfield 28, 3) := by decide +kernel
theorem dX0_aboutBox_12 : decode cX0_aboutBox 12 = .ok (.iload_n 1, 1) := by decide +kernel
theorem dX0_aboutBox_13 : decode cX0_aboutBox 13 = .ok (.aaload, 1) := by decide +kernel
theorem dX0_aboutBox_14 : decode cX0_aboutBox 14 = .ok (.iload_n 2, 1) := by decide +kernel
theorem dX0_aboutBox_15 : decode cX0_aboutBox 15 = .ok (.invokevirtual 109, 3) := by decide +kernel
theorem dX0_aboutBox_18 : decode cX0_aboutBox 18 = .ok (.goto 4, 3) := by decide +kernel
theorem dX0_aboutBox_21 : decode cX0_aboutBox 21 = .ok (.iconst (-1), 1) := by decide +kernel
theorem dX0_aboutBox_22 : decode cX0_aboutBox 22 = .ok (.ireturn, 1) := by decide +kernel
theorem dX0_planAt_0 : decode cX0_planAt 0 = .ok (.iload_n 1, 1) := by decide +kernel
theorem dX0_planAt_1 : decode cX0_planAt 1 = .ok (.ifCond .lt 24, 3) := by decide +kernel
theorem dX0_planAt_4 : decode cX0_planAt 4 = .ok (.iload_n 1, 1) := by decide +kernel
theorem dX0_planAt_5 : decode cX0_planAt 5 = .ok (.aload_n 0, 1) := by decide +kernel
theorem dX0_planAt_6 : decode cX0_planAt 6 = .ok (.getfield 62, 3) := by decide +kernel
theorem dX0_planAt_9 : decode cX0_planAt 9 = .ok (.if_icmp .ge 16, 3) := by decide +kernel
theorem dX0_planAt_12 : decode cX0_planAt 12 = .ok (.aload_n 0, 1) := by decide +kernel
theorem dX0_planAt_13 : decode cX0_planAt 13 = .ok (.getfield 38, 3) := by decide +kernel
theorem dX0_planAt_16 : decode cX0_planAt 16 = .ok (.iload_n 1, 1) := by decide +kernel
theorem dX0_planAt_17 : decode cX0_planAt 17 = .ok (.iaload, 1) := by decide +kernel
theorem dX0_planAt_18 : decode cX0_planAt 18 = .ok (.sipush 1000, 3) := by decide +kernel
theorem dX0_planAt_21 : decode cX0_planAt 21 = .ok (.iadd, 1) := by decide +kernel
theorem dX0_planAt_22 : decode cX0_planAt 22 = .ok (.goto 4, 3) := by decide +kernel
theorem dX0_planAt_25 : decode cX0_planAt 25 = .ok (.iconst (-1), 1) := by decide +kernel
theorem dX0_planAt_26 : decode cX0_planAt 26 = .ok (.ireturn, 1) := by decide +kernel
theorem dX0_aboutReport_0 : decode cX0_aboutReport 0 = .ok (.iload_n 1, 1) := by decide +kernel
theorem dX0_aboutReport_1 : decode cX0_aboutReport 1 = .ok (.ifCond .lt 11, 3) := by decide +kernel
theorem dX0_aboutReport_4 : decode cX0_aboutReport 4 = .ok (.iload_n 1, 1) := by decide +kernel
theorem dX0_aboutReport_5 : decode cX0_aboutReport 5 = .ok (.aload_n 0, 1) := by decide +kernel
theorem dX0_aboutReport_6 : decode cX0_aboutReport 6 = .ok (.getfield 59, 3) := by decide +kernel
theorem dX0_aboutReport_9 : decode cX0_aboutReport 9 = .ok (.if_icmp .lt 5, 3) := by decide +kernel
theorem dX0_aboutReport_12 : decode cX0_aboutReport 12 = .ok (.iconst (-1), 1) := by decide +kernel
theorem dX0_aboutReport_13 : decode cX0_aboutReport 13 = .ok (.ireturn, 1) := by decide +kernel
theorem dX0_aboutReport_14 : decode cX0_aboutReport 14 = .ok (.iload_n 2, 1) := by decide +kernel
theorem dX0_aboutReport_15 : decode cX0_aboutReport 15 = .ok (.ifCond .ne 19, 3) := by decide +kernel
theorem dX0_aboutReport_18 : decode cX0_aboutReport 18 = .ok (.aload_n 0, 1) := by decide +kernel
theorem dX0_aboutReport_19 : decode cX0_aboutReport 19 = .ok (.getfield 32, 3) := by decide +kernel
theorem dX0_aboutReport_22 : decode cX0_aboutReport 22 = .ok (.iload_n 1, 1) := by decide +kernel
theorem dX0_aboutReport_23 : decode cX0_aboutReport 23 = .ok (.iaload, 1) := by decide +kernel
theorem dX0_aboutReport_24 : decode cX0_aboutReport 24 = .ok (.aload_n 0, 1) := by decide +kernel
theorem dX0_aboutReport_25 : decode cX0_aboutReport 25 = .ok (.getfield 23, 3) := by decide +kernel
theorem dX0_aboutReport_28 : decode cX0_aboutReport 28 = .ok (.iconst 0, 1) := by decide +kernel
theorem dX0_aboutReport_29 : decode cX0_aboutReport 29 = .ok (.iaload, 1) := by decide +kernel
theorem dX0_aboutReport_30 : decode cX0_aboutReport 30 = .ok (.isub, 1) := by decide +kernel
theorem dX0_aboutReport_31 : decode cX0_aboutReport 31 = .ok (.iconst 1, 1) := by decide +kernel
theorem dX0_aboutReport_32 : decode cX0_aboutReport 32 = .ok (.iadd, 1) := by decide +kernel
theorem dX0_aboutReport_33 : decode cX0_aboutReport 33 = .ok (.ireturn, 1) := by decide +kernel
theorem dX0_aboutReport_34 : decode cX0_aboutReport 34 = .ok (.iload_n 2, 1) := by decide +kernel
theorem dX0_aboutReport_35 : decode cX0_aboutReport 35 = .ok (.iconst 1, 1) := by decide +kernel
theorem dX0_aboutReport_36 : decode cX0_aboutReport 36 = .ok (.if_icmp .ne 12, 3) := by decide +kernel
theorem dX0_aboutReport_39 : decode cX0_aboutReport 39 = .ok (.aload_n 0, 1) := by decide +kernel
theorem dX0_aboutReport_40 : decode cX0_aboutReport 40 = .ok (.getfield 35, 3) := by decide +kernel
theorem dX0_aboutReport_43 : decode cX0_aboutReport 43 = .ok (.iload_n 1, 1) := by decide +kernel
theorem dX0_aboutReport_44 : decode cX0_aboutReport 44 = .ok (.iaload, 1) := by decide +kernel
theorem dX0_aboutReport_45 : decode cX0_aboutReport 45 = .ok (.goto 5, 3) := by decide +kernel
theorem dX0_aboutReport_48 : decode cX0_aboutReport 48 = .ok (.bipush (-2), 2) := by decide +kernel
theorem dX0_aboutReport_50 : decode cX0_aboutReport 50 = .ok (.ireturn, 1) := by decide +kernel
theorem dX0_number_0 : decode cX0_number 0 = .ok (.iload_n 1, 1) := by decide +kernel
theorem dX0_number_1 : decode cX0_number 1 = .ok (.lookupswitch 50 #[(1, 35), (11, 40), (12, 45)], 35) := by decide +kernel
theorem dX0_number_36 : decode cX0_number 36 = .ok (.aload_n 0, 1) := by decide +kernel
theorem dX0_number_37 : decode cX0_number 37 = .ok (.getfield 51, 3) := by decide +kernel
theorem dX0_number_40 : decode cX0_number 40 = .ok (.ireturn, 1) := by decide +kernel
theorem dX0_number_41 : decode cX0_number 41 = .ok (.aload_n 0, 1) := by decide +kernel
theorem dX0_number_42 : decode cX0_number 42 = .ok (.getfield 59, 3) := by decide +kernel
theorem dX0_number_45 : decode cX0_number 45 = .ok (.ireturn, 1) := by decide +kernel
theorem dX0_number_46 : decode cX0_number 46 = .ok (.aload_n 0, 1) := by decide +kernel
theorem dX0_number_47 : decode cX0_number 47 = .ok (.getfield 62, 3) := by decide +kernel
theorem dX0_number_50 : decode cX0_number 50 = .ok (.ireturn, 1) := by decide +kernel
theorem dX0_number_51 : decode cX0_number 51 = .ok (.iload_n 1, 1) := by decide +kernel
theorem dX0_number_52 : decode cX0_number 52 = .ok (.ifCond .lt 19, 3) := by decide +kernel
theorem dX0_number_55 : decode cX0_number 55 = .ok (.iload_n 1, 1) := by decide +kernel
theorem dX0_number_56 : decode cX0_number 56 = .ok (.aload_n 0, 1) := by decide +kernel
theorem dX0_number_57 : decode cX0_number 57 = .ok (.getfield 23, 3) := by decide +kernel
theorem dX0_number_60 : decode cX0_number 60 = .ok (.arraylength, 1) := by decide +kernel
theorem dX0_number_61 : decode cX0_number 61 = .ok (.if_icmp .ge 10, 3) := by decide +kernel
theorem dX0_number_64 : decode cX0_number 64 = .ok (.aload_n 0, 1) := by decide +kernel
theorem dX0_number_65 : decode cX0_number 65 = .ok (.getfield 23, 3) := by decide +kernel
theorem dX0_number_68 : decode cX0_number 68 = .ok (.iload_n 1, 1) := by decide +kernel
theorem dX0_number_69 : decode cX0_number 69 = .ok (.iaload, 1) := by decide +kernel
theorem dX0_number_70 : decode cX0_number 70 = .ok (.ireturn, 1) := by decide +kernel
theorem dX0_number_71 : decode cX0_number 71 = .ok (.iload_n 1, 1) := by decide +kernel
theorem dX0_number_72 : decode cX0_number 72 = .ok (.bipush 14, 2) := by decide +kernel
theorem dX0_number_74 : decode cX0_number 74 = .ok (.isub, 1) := by decide +kernel
theorem dX0_number_75 : decode cX0_number 75 = .ok (.istore_n 2, 1) := by decide +kernel
theorem dX0_number_76 : decode cX0_number 76 = .ok (.iload_n 2, 1) := by decide +kernel
theorem dX0_number_77 : decode cX0_number 77 = .ok (.ifCond .lt 21, 3) := by decide +kernel
theorem dX0_number_80 : decode cX0_number 80 = .ok (.iload_n 2, 1) := by decide +kernel
theorem dX0_number_81 : decode cX0_number 81 = .ok (.aload_n 0, 1) := by decide +kernel
theorem dX0_number_82 : decode cX0_number 82 = .ok (.getfield 20, 3) := by decide +kernel
theorem dX0_number_85 : decode cX0_number 85 = .ok (.arraylength, 1) := by decide +kernel
theorem dX0_number_86 : decode cX0_number 86 = .ok (.if_icmp .ge 12, 3) := by decide +kernel
theorem dX0_number_89 : decode cX0_number 89 = .ok (.aload_n 0, 1) := by decide +kernel
theorem dX0_number_90 : decode cX0_number 90 = .ok (.getfield 20, 3) := by decide +kernel
theorem dX0_number_93 : decode cX0_number 93 = .ok (.iload_n 2, 1) := by decide +kernel
theorem dX0_number_94 : decode cX0_number 94 = .ok (.iaload, 1) := by decide +kernel
theorem dX0_number_95 : decode cX0_number 95 = .ok (.goto 5, 3) := by decide +kernel
theorem dX0_number_98 : decode cX0_number 98 = .ok (.bipush (-2), 2) := by decide +kernel
theorem dX0_number_100 : decode cX0_number 100 = .ok (.ireturn, 1) := by decide +kernel
set_option maxRecDepth 20000 in
theorem ggX0_tickOn_X0_moveOn : GoodIn wsX0_tickOn wsX0_moveOn := goodIn_r _ [6, 7, 8, 9, 10, 1, 11, 87, 88, 89, 90, 91, 92, 93, 94, 95, 96, 97, 98, 99, 100, 101, 102, 103] (by decide +kernel) (by decide +kernel)
set_option maxRecDepth 20000 in
theorem gX0_tickOn_X0_moveOn : GoodIn wsX0_tickOn (wsV RX0 113 RX0 yX0_moveOn wsX0_moveOn) := goodIn_app (goodIn_of _ (by decide +kernel)) ggX0_tickOn_X0_moveOn
set_option maxRecDepth 20000 in
theorem ggX0_tickOn_X0_seeBoxes : GoodIn wsX0_tickOn wsX0_seeBoxes := goodIn_r _ [15, 8, 9, 16, 10, 17, 18, 19, 5, 20, 21, 22, 1, 7, 23, 87, 88, 89, 90, 91, 92, 93, 94, 95, 96, 97, 98, 99, 100, 101, 102, 103] (by decide +kernel) (by decide +kernel)
set_option maxRecDepth 20000 in
theorem gX0_tickOn_X0_seeBoxes : GoodIn wsX0_tickOn (wsV RX0 116 RX0 yX0_seeBoxes wsX0_seeBoxes) := goodIn_app (goodIn_of _ (by decide +kernel)) ggX0_tickOn_X0_seeBoxes
set_option maxRecDepth 20000 in
theorem ggX0_tickOn_X0_countPlansDown : GoodIn wsX0_tickOn wsX0_countPlansDown := goodIn_r _ [27, 28, 29, 7, 87, 88, 89, 90, 91, 92, 93, 94, 95, 96] (by decide +kernel) (by decide +kernel)
set_option maxRecDepth 20000 in
theorem gX0_tickOn_X0_countPlansDown : GoodIn wsX0_tickOn (wsV RX0 119 RX0 yX0_countPlansDown wsX0_countPlansDown) := goodIn_app (goodIn_of _ (by decide +kernel)) ggX0_tickOn_X0_countPlansDown
set_option maxRecDepth 20000 in
theorem ggX0_tickOn_X0_takeReports : GoodIn wsX0_tickOn wsX0_takeReports := goodIn_r _ [33, 21, 22, 1, 23, 34, 35, 36, 5, 37, 28, 29, 7, 38, 39, 40, 41, 11, 87, 88, 89, 90, 91, 92, 93, 94, 95, 96] (by decide +kernel) (by decide +kernel)
set_option maxRecDepth 20000 in
theorem gX0_tickOn_X0_takeReports : GoodIn wsX0_tickOn (wsV RX0 122 RX0 yX0_takeReports wsX0_takeReports) := goodIn_app (goodIn_of _ (by decide +kernel)) ggX0_tickOn_X0_takeReports
set_option maxRecDepth 20000 in
theorem ggX0_tickOn_X0_doPlans : GoodIn wsX0_tickOn wsX0_doPlans := goodIn_r _ [45, 28, 29, 46, 47, 48, 5, 49, 1, 7, 8, 9, 50, 51, 52, 53, 54, 55, 56, 57, 58, 59, 60, 61, 62, 10, 63, 87, 88, 89, 90, 91, 92, 93, 94, 95, 96, 97, 98, 99, 100, 101, 102, 103] (by decide +kernel) (by decide +kernel)
set_option maxRecDepth 20000 in
theorem gX0_tickOn_X0_doPlans : GoodIn wsX0_tickOn (wsV RX0 125 RX0 yX0_doPlans wsX0_doPlans) := goodIn_app (goodIn_of _ (by decide +kernel)) ggX0_tickOn_X0_doPlans
set_option maxRecDepth 20000 in
theorem ggX0_tickOn_X0_feed : GoodIn wsX0_tickOn wsX0_feed := goodIn_r _ [67, 1, 7, 68, 69, 70, 71, 87, 88, 89, 90, 91, 92, 93, 94, 95, 96] (by decide +kernel) (by decide +kernel)
set_option maxRecDepth 20000 in
theorem gX0_tickOn_X0_feed : GoodIn wsX0_tickOn (wsV RX0 128 RX0 yX0_feed wsX0_feed) := goodIn_app (goodIn_of _ (by decide +kernel)) ggX0_tickOn_X0_feed
set_option maxRecDepth 20000 in
theorem ggX0_tickOn_X0_letBoxesLeave : GoodIn wsX0_tickOn wsX0_letBoxesLeave := goodIn_r _ [75, 8, 9, 1, 76, 77, 78, 53, 79, 55, 56, 80, 81, 82, 5, 83, 61, 63, 7, 84, 85, 70, 86, 62, 87, 88, 89, 90, 91, 92, 93, 94, 95, 96, 97, 98, 99, 100, 101, 102, 103] (by decide +kernel) (by decide +kernel)
set_option maxRecDepth 20000 in
theorem gX0_tickOn_X0_letBoxesLeave : GoodIn wsX0_tickOn (wsV RX0 131 RX0 yX0_letBoxesLeave wsX0_letBoxesLeave) := goodIn_app (goodIn_of _ (by decide +kernel)) ggX0_tickOn_X0_letBoxesLeave
theorem dX0_tickOn_0 : decode cX0_tickOn 0 = .ok (.iconst 0, 1) := by decide +kernel
theorem dX0_tickOn_1 : decode cX0_tickOn 1 = .ok (.istore_n 2, 1) := by decide +kernel
theorem dX0_tickOn_2 : decode cX0_tickOn 2 = .ok (.iload_n 2, 1) := by decide +kernel
theorem dX0_tickOn_3 : decode cX0_tickOn 3 = .ok (.iload_n 1, 1) := by decide +kernel
theorem dX0_tickOn_4 : decode cX0_tickOn 4 = .ok (.if_icmp .ge 47, 3) := by decide +kernel
theorem dX0_tickOn_7 : decode cX0_tickOn 7 = .ok (.aload_n 0, 1) := by decide +kernel
theorem dX0_tickOn_8 : decode cX0_tickOn 8 = .ok (.invokevirtual 113, 3) := by decide +kernel
theorem dX0_tickOn_11 : decode cX0_tickOn 11 = .ok (.aload_n 0, 1) := by decide +kernel
theorem dX0_tickOn_12 : decode cX0_tickOn 12 = .ok (.invokevirtual 116, 3) := by decide +kernel
theorem dX0_tickOn_15 : decode cX0_tickOn 15 = .ok (.aload_n 0, 1) := by decide +kernel
theorem dX0_tickOn_16 : decode cX0_tickOn 16 = .ok (.invokevirtual 119, 3) := by decide +kernel
theorem dX0_tickOn_19 : decode cX0_tickOn 19 = .ok (.aload_n 0, 1) := by decide +kernel
theorem dX0_tickOn_20 : decode cX0_tickOn 20 = .ok (.invokevirtual 122, 3) := by decide +kernel
theorem dX0_tickOn_23 : decode cX0_tickOn 23 = .ok (.aload_n 0, 1) := by decide +kernel
theorem dX0_tickOn_24 : decode cX0_tickOn 24 = .ok (.invokevirtual 125, 3) := by decide +kernel
theorem dX0_tickOn_27 : decode cX0_tickOn 27 = .ok (.aload_n 0, 1) := by decide +kernel
theorem dX0_tickOn_28 : decode cX0_tickOn 28 = .ok (.invokevirtual 128, 3) := by decide +kernel
theorem dX0_tickOn_31 : decode cX0_tickOn 31 = .ok (.aload_n 0, 1) := by decide +kernel
theorem dX0_tickOn_32 : decode cX0_tickOn 32 = .ok (.invokevirtual 131, 3) := by decide +kernel
theorem dX0_tickOn_35 : decode cX0_tickOn 35 = .ok (.aload_n 0, 1) := by decide +kernel
theorem dX0_tickOn_36 : decode cX0_tickOn 36 = .ok (.getfield 23, 3) := by decide +kernel
theorem dX0_tickOn_39 : decode cX0_tickOn 39 = .ok (.iconst 0, 1) := by decide +kernel
theorem dX0_tickOn_40 : decode cX0_tickOn 40 = .ok (.dup2, 1) := by decide +kernel
theorem dX0_tickOn_41 : decode cX0_tickOn 41 = .ok (.iaload, 1) := by decide +kernel
theorem dX0_tickOn_42 : decode cX0_tickOn 42 = .ok (.iconst 1, 1) := by decide +kernel
theorem dX0_tickOn_43 : decode cX0_tickOn 43 = .ok (.iadd, 1) := by decide +kernel
theorem dX0_tickOn_44 : decode cX0_tickOn 44 = .ok (.iastore, 1) := by decide +kernel
theorem dX0_tickOn_45 : decode cX0_tickOn 45 = .ok (.iinc 2 1, 3) := by decide +kernel
theorem dX0_tickOn_48 : decode cX0_tickOn 48 = .ok (.goto (-46), 3) := by decide +kernel
theorem dX0_tickOn_51 : decode cX0_tickOn 51 = .ok (.return_, 1) := by decide +kernel
theorem dX0_moveOn_0 : decode cX0_moveOn 0 = .ok (.aload_n 0, 1) := by decide +kernel
theorem dX0_moveOn_1 : decode cX0_moveOn 1 = .ok (.getfield 20, 3) := by decide +kernel
theorem dX0_moveOn_4 : decode cX0_moveOn 4 = .ok (.iconst 0, 1) := by decide +kernel
theorem dX0_moveOn_5 : decode cX0_moveOn 5 = .ok (.iaload, 1) := by decide +kernel
theorem dX0_moveOn_6 : decode cX0_moveOn 6 = .ok (.istore_n 1, 1) := by decide +kernel
theorem dX0_moveOn_7 : decode cX0_moveOn 7 = .ok (.iconst 0, 1) := by decide +kernel
theorem dX0_moveOn_8 : decode cX0_moveOn 8 = .ok (.istore_n 2, 1) := by decide +kernel
theorem dX0_moveOn_9 : decode cX0_moveOn 9 = .ok (.iload_n 2, 1) := by decide +kernel
theorem dX0_moveOn_10 : decode cX0_moveOn 10 = .ok (.aload_n 0, 1) := by decide +kernel
theorem dX0_moveOn_11 : decode cX0_moveOn 11 = .ok (.getfield 51, 3) := by decide +kernel
theorem dX0_moveOn_14 : decode cX0_moveOn 14 = .ok (.if_icmp .ge 24, 3) := by decide +kernel
theorem dX0_moveOn_17 : decode cX0_moveOn 17 = .ok (.aload_n 0, 1) := by decide +kernel
theorem dX0_moveOn_18 : decode cX0_moveOn 18 = .ok (.getfield 28, 3) := by decide +kernel
theorem dX0_moveOn_21 : decode cX0_moveOn 21 = .ok (.iload_n 2, 1) := by decide +kernel
theorem dX0_moveOn_22 : decode cX0_moveOn 22 = .ok (.aaload, 1) := by decide +kernel
theorem dX0_moveOn_23 : decode cX0_moveOn 23 = .ok (.dup, 1) := by decide +kernel
theorem dX0_moveOn_24 : decode cX0_moveOn 24 = .ok (.getfield 86, 3) := by decide +kernel
theorem dX0_moveOn_27 : decode cX0_moveOn 27 = .ok (.iload_n 1, 1) := by decide +kernel
theorem dX0_moveOn_28 : decode cX0_moveOn 28 = .ok (.iadd, 1) := by decide +kernel
theorem dX0_moveOn_29 : decode cX0_moveOn 29 = .ok (.putfield 86, 3) := by decide +kernel
theorem dX0_moveOn_32 : decode cX0_moveOn 32 = .ok (.iinc 2 1, 3) := by decide +kernel
theorem dX0_moveOn_35 : decode cX0_moveOn 35 = .ok (.goto (-26), 3) := by decide +kernel
theorem dX0_moveOn_38 : decode cX0_moveOn 38 = .ok (.aload_n 0, 1) := by decide +kernel
theorem dX0_moveOn_39 : decode cX0_moveOn 39 = .ok (.getfield 23, 3) := by decide +kernel
theorem dX0_moveOn_42 : decode cX0_moveOn 42 = .ok (.bipush 13, 2) := by decide +kernel
theorem dX0_moveOn_44 : decode cX0_moveOn 44 = .ok (.dup2, 1) := by decide +kernel
theorem dX0_moveOn_45 : decode cX0_moveOn 45 = .ok (.iaload, 1) := by decide +kernel
theorem dX0_moveOn_46 : decode cX0_moveOn 46 = .ok (.iload_n 1, 1) := by decide +kernel
theorem dX0_moveOn_47 : decode cX0_moveOn 47 = .ok (.iadd, 1) := by decide +kernel
theorem dX0_moveOn_48 : decode cX0_moveOn 48 = .ok (.iastore, 1) := by decide +kernel
theorem dX0_moveOn_49 : decode cX0_moveOn 49 = .ok (.aload_n 0, 1) := by decide +kernel
theorem dX0_moveOn_50 : decode cX0_moveOn 50 = .ok (.getfield 41, 3) := by decide +kernel
theorem dX0_moveOn_53 : decode cX0_moveOn 53 = .ok (.arraylength, 1) := by decide +kernel
theorem dX0_moveOn_54 : decode cX0_moveOn 54 = .ok (.iconst 1, 1) := by decide +kernel
theorem dX0_moveOn_55 : decode cX0_moveOn 55 = .ok (.isub, 1) := by decide +kernel
theorem dX0_moveOn_56 : decode cX0_moveOn 56 = .ok (.istore_n 2, 1) := by decide +kernel
theorem dX0_moveOn_57 : decode cX0_moveOn 57 = .ok (.iload_n 2, 1) := by decide +kernel
theorem dX0_moveOn_58 : decode cX0_moveOn 58 = .ok (.ifCond .le 23, 3) := by decide +kernel
theorem dX0_moveOn_61 : decode cX0_moveOn 61 = .ok (.aload_n 0, 1) := by decide +kernel
theorem dX0_moveOn_62 : decode cX0_moveOn 62 = .ok (.getfield 41, 3) := by decide +kernel
theorem dX0_moveOn_65 : decode cX0_moveOn 65 = .ok (.iload_n 2, 1) := by decide +kernel
theorem dX0_moveOn_66 : decode cX0_moveOn 66 = .ok (.aload_n 0, 1) := by decide +kernel
theorem dX0_moveOn_67 : decode cX0_moveOn 67 = .ok (.getfield 41, 3) := by decide +kernel
theorem dX0_moveOn_70 : decode cX0_moveOn 70 = .ok (.iload_n 2, 1) := by decide +kernel
theorem dX0_moveOn_71 : decode cX0_moveOn 71 = .ok (.iconst 1, 1) := by decide +kernel
theorem dX0_moveOn_72 : decode cX0_moveOn 72 = .ok (.isub, 1) := by decide +kernel
theorem dX0_moveOn_73 : decode cX0_moveOn 73 = .ok (.iaload, 1) := by decide +kernel
theorem dX0_moveOn_74 : decode cX0_moveOn 74 = .ok (.iastore, 1) := by decide +kernel
theorem dX0_moveOn_75 : decode cX0_moveOn 75 = .ok (.iinc 2 (-1), 3) := by decide +kernel
theorem dX0_moveOn_78 : decode cX0_moveOn 78 = .ok (.goto (-21), 3) := by decide +kernel
theorem dX0_moveOn_81 : decode cX0_moveOn 81 = .ok (.aload_n 0, 1) := by decide +kernel
theorem dX0_moveOn_82 : decode cX0_moveOn 82 = .ok (.getfield 41, 3) := by decide +kernel
theorem dX0_moveOn_85 : decode cX0_moveOn 85 = .ok (.iconst 0, 1) := by decide +kernel
theorem dX0_moveOn_86 : decode cX0_moveOn 86 = .ok (.iload_n 1, 1) := by decide +kernel
theorem dX0_moveOn_87 : decode cX0_moveOn 87 = .ok (.iastore, 1) := by decide +kernel
theorem dX0_moveOn_88 : decode cX0_moveOn 88 = .ok (.return_, 1) := by decide +kernel
set_option maxRecDepth 20000 in
theorem ggX0_seeBoxes_X0_addReport : GoodIn wsX0_seeBoxes wsX0_addReport := goodIn_r _ [9, 10, 11, 12, 13, 14, 15, 16, 17, 18, 19, 20, 21, 22, 23, 24] (by decide +kernel) (by decide +kernel)
set_option maxRecDepth 20000 in
theorem gX0_seeBoxes_X0_addReport : GoodIn wsX0_seeBoxes (wsV RX0 138 RX0 yX0_addReport wsX0_addReport) := goodIn_app (goodIn_of _ (by decide +kernel)) ggX0_seeBoxes_X0_addReport
theorem dX0_seeBoxes_0 : decode cX0_seeBoxes 0 = .ok (.iconst 0, 1) := by decide +kernel
theorem dX0_seeBoxes_1 : decode cX0_seeBoxes 1 = .ok (.istore_n 1, 1) := by decide +kernel
theorem dX0_seeBoxes_2 : decode cX0_seeBoxes 2 = .ok (.iload_n 1, 1) := by decide +kernel
theorem dX0_seeBoxes_3 : decode cX0_seeBoxes 3 = .ok (.aload_n 0, 1) := by decide +kernel
theorem dX0_seeBoxes_4 : decode cX0_seeBoxes 4 = .ok (.getfield 51, 3) := by decide +kernel
theorem dX0_seeBoxes_7 : decode cX0_seeBoxes 7 = .ok (.if_icmp .ge 48, 3) := by decide +kernel
theorem dX0_seeBoxes_10 : decode cX0_seeBoxes 10 = .ok (.aload_n 0, 1) := by decide +kernel
theorem dX0_seeBoxes_11 : decode cX0_seeBoxes 11 = .ok (.getfield 28, 3) := by decide +kernel
theorem dX0_seeBoxes_14 : decode cX0_seeBoxes 14 = .ok (.iload_n 1, 1) := by decide +kernel
theorem dX0_seeBoxes_15 : decode cX0_seeBoxes 15 = .ok (.aaload, 1) := by decide +kernel
theorem dX0_seeBoxes_16 : decode cX0_seeBoxes 16 = .ok (.astore_n 2, 1) := by decide +kernel
theorem dX0_seeBoxes_17 : decode cX0_seeBoxes 17 = .ok (.aload_n 2, 1) := by decide +kernel
theorem dX0_seeBoxes_18 : decode cX0_seeBoxes 18 = .ok (.getfield 134, 3) := by decide +kernel
theorem dX0_seeBoxes_21 : decode cX0_seeBoxes 21 = .ok (.ifCond .ne 28, 3) := by decide +kernel
theorem dX0_seeBoxes_24 : decode cX0_seeBoxes 24 = .ok (.aload_n 2, 1) := by decide +kernel
theorem dX0_seeBoxes_25 : decode cX0_seeBoxes 25 = .ok (.getfield 86, 3) := by decide +kernel
theorem dX0_seeBoxes_28 : decode cX0_seeBoxes 28 = .ok (.bipush 20, 2) := by decide +kernel
theorem dX0_seeBoxes_30 : decode cX0_seeBoxes 30 = .ok (.if_icmp .lt 19, 3) := by decide +kernel
theorem dX0_seeBoxes_33 : decode cX0_seeBoxes 33 = .ok (.aload_n 2, 1) := by decide +kernel
theorem dX0_seeBoxes_34 : decode cX0_seeBoxes 34 = .ok (.iconst 1, 1) := by decide +kernel
theorem dX0_seeBoxes_35 : decode cX0_seeBoxes 35 = .ok (.putfield 134, 3) := by decide +kernel
theorem dX0_seeBoxes_38 : decode cX0_seeBoxes 38 = .ok (.aload_n 0, 1) := by decide +kernel
theorem dX0_seeBoxes_39 : decode cX0_seeBoxes 39 = .ok (.aload_n 2, 1) := by decide +kernel
theorem dX0_seeBoxes_40 : decode cX0_seeBoxes 40 = .ok (.getfield 86, 3) := by decide +kernel
theorem dX0_seeBoxes_43 : decode cX0_seeBoxes 43 = .ok (.bipush 20, 2) := by decide +kernel
theorem dX0_seeBoxes_45 : decode cX0_seeBoxes 45 = .ok (.isub, 1) := by decide +kernel
theorem dX0_seeBoxes_46 : decode cX0_seeBoxes 46 = .ok (.invokevirtual 138, 3) := by decide +kernel
theorem dX0_seeBoxes_49 : decode cX0_seeBoxes 49 = .ok (.iinc 1 1, 3) := by decide +kernel
theorem dX0_seeBoxes_52 : decode cX0_seeBoxes 52 = .ok (.goto (-50), 3) := by decide +kernel
theorem dX0_seeBoxes_55 : decode cX0_seeBoxes 55 = .ok (.return_, 1) := by decide +kernel
theorem dX0_addReport_0 : decode cX0_addReport 0 = .ok (.aload_n 0, 1) := by decide +kernel
theorem dX0_addReport_1 : decode cX0_addReport 1 = .ok (.getfield 59, 3) := by decide +kernel
theorem dX0_addReport_4 : decode cX0_addReport 4 = .ok (.bipush 32, 2) := by decide +kernel
theorem dX0_addReport_6 : decode cX0_addReport 6 = .ok (.if_icmp .ge 45, 3) := by decide +kernel
theorem dX0_addReport_9 : decode cX0_addReport 9 = .ok (.aload_n 0, 1) := by decide +kernel
theorem dX0_addReport_10 : decode cX0_addReport 10 = .ok (.getfield 32, 3) := by decide +kernel
theorem dX0_addReport_13 : decode cX0_addReport 13 = .ok (.aload_n 0, 1) := by decide +kernel
theorem dX0_addReport_14 : decode cX0_addReport 14 = .ok (.getfield 59, 3) := by decide +kernel
theorem dX0_addReport_17 : decode cX0_addReport 17 = .ok (.aload_n 0, 1) := by decide +kernel
theorem dX0_addReport_18 : decode cX0_addReport 18 = .ok (.getfield 23, 3) := by decide +kernel
theorem dX0_addReport_21 : decode cX0_addReport 21 = .ok (.iconst 0, 1) := by decide +kernel
theorem dX0_addReport_22 : decode cX0_addReport 22 = .ok (.iaload, 1) := by decide +kernel
theorem dX0_addReport_23 : decode cX0_addReport 23 = .ok (.aload_n 0, 1) := by decide +kernel
theorem dX0_addReport_24 : decode cX0_addReport 24 = .ok (.getfield 20, 3) := by decide +kernel
theorem dX0_addReport_27 : decode cX0_addReport 27 = .ok (.iconst 1, 1) := by decide +kernel
theorem dX0_addReport_28 : decode cX0_addReport 28 = .ok (.iaload, 1) := by decide +kernel
theorem dX0_addReport_29 : decode cX0_addReport 29 = .ok (.iadd, 1) := by decide +kernel
theorem dX0_addReport_30 : decode cX0_addReport 30 = .ok (.iastore, 1) := by decide +kernel
theorem dX0_addReport_31 : decode cX0_addReport 31 = .ok (.aload_n 0, 1) := by decide +kernel
theorem dX0_addReport_32 : decode cX0_addReport 32 = .ok (.getfield 35, 3) := by decide +kernel
theorem dX0_addReport_35 : decode cX0_addReport 35 = .ok (.aload_n 0, 1) := by decide +kernel
theorem dX0_addReport_36 : decode cX0_addReport 36 = .ok (.getfield 59, 3) := by decide +kernel
theorem dX0_addReport_39 : decode cX0_addReport 39 = .ok (.iload_n 1, 1) := by decide +kernel
theorem dX0_addReport_40 : decode cX0_addReport 40 = .ok (.iastore, 1) := by decide +kernel
theorem dX0_addReport_41 : decode cX0_addReport 41 = .ok (.aload_n 0, 1) := by decide +kernel
theorem dX0_addReport_42 : decode cX0_addReport 42 = .ok (.dup, 1) := by decide +kernel
theorem dX0_addReport_43 : decode cX0_addReport 43 = .ok (.getfield 59, 3) := by decide +kernel
theorem dX0_addReport_46 : decode cX0_addReport 46 = .ok (.iconst 1, 1) := by decide +kernel
theorem dX0_addReport_47 : decode cX0_addReport 47 = .ok (.iadd, 1) := by decide +kernel
theorem dX0_addReport_48 : decode cX0_addReport 48 = .ok (.putfield 59, 3) := by decide +kernel
theorem dX0_addReport_51 : decode cX0_addReport 51 = .ok (.return_, 1) := by decide +kernel
theorem dX0_countPlansDown_0 : decode cX0_countPlansDown 0 = .ok (.iconst 0, 1) := by decide +kernel
theorem dX0_countPlansDown_1 : decode cX0_countPlansDown 1 = .ok (.istore_n 1, 1) := by decide +kernel
theorem dX0_countPlansDown_2 : decode cX0_countPlansDown 2 = .ok (.iload_n 1, 1) := by decide +kernel
theorem dX0_countPlansDown_3 : decode cX0_countPlansDown 3 = .ok (.aload_n 0, 1) := by decide +kernel
theorem dX0_countPlansDown_4 : decode cX0_countPlansDown 4 = .ok (.getfield 62, 3) := by decide +kernel
theorem dX0_countPlansDown_7 : decode cX0_countPlansDown 7 = .ok (.if_icmp .ge 24, 3) := by decide +kernel
theorem dX0_countPlansDown_10 : decode cX0_countPlansDown 10 = .ok (.aload_n 0, 1) := by decide +kernel
theorem dX0_countPlansDown_11 : decode cX0_countPlansDown 11 = .ok (.getfield 38, 3) := by decide +kernel
theorem dX0_countPlansDown_14 : decode cX0_countPlansDown 14 = .ok (.iload_n 1, 1) := by decide +kernel
theorem dX0_countPlansDown_15 : decode cX0_countPlansDown 15 = .ok (.dup2, 1) := by decide +kernel
theorem dX0_countPlansDown_16 : decode cX0_countPlansDown 16 = .ok (.iaload, 1) := by decide +kernel
theorem dX0_countPlansDown_17 : decode cX0_countPlansDown 17 = .ok (.aload_n 0, 1) := by decide +kernel
theorem dX0_countPlansDown_18 : decode cX0_countPlansDown 18 = .ok (.getfield 20, 3) := by decide +kernel
theorem dX0_countPlansDown_21 : decode cX0_countPlansDown 21 = .ok (.iconst 0, 1) := by decide +kernel
theorem dX0_countPlansDown_22 : decode cX0_countPlansDown 22 = .ok (.iaload, 1) := by decide +kernel
theorem dX0_countPlansDown_23 : decode cX0_countPlansDown 23 = .ok (.isub, 1) := by decide +kernel
theorem dX0_countPlansDown_24 : decode cX0_countPlansDown 24 = .ok (.iastore, 1) := by decide +kernel
theorem dX0_countPlansDown_25 : decode cX0_countPlansDown 25 = .ok (.iinc 1 1, 3) := by decide +kernel
theorem dX0_countPlansDown_28 : decode cX0_countPlansDown 28 = .ok (.goto (-26), 3) := by decide +kernel
theorem dX0_countPlansDown_31 : decode cX0_countPlansDown 31 = .ok (.return_, 1) := by decide +kernel
set_option maxRecDepth 20000 in
theorem ggX0_takeReports_X0_addPlan : GoodIn wsX0_takeReports wsX0_addPlan := goodIn_r _ [9, 10, 11, 12, 13, 14, 15, 8, 16, 17, 18, 19, 20, 21, 22, 23, 24, 25, 26, 27] (by decide +kernel) (by decide +kernel)
set_option maxRecDepth 20000 in
theorem gX0_takeReports_X0_addPlan : GoodIn wsX0_takeReports (wsV RX0 141 RX0 yX0_addPlan wsX0_addPlan) := goodIn_app (goodIn_of _ (by decide +kernel)) ggX0_takeReports_X0_addPlan
theorem dX0_takeReports_0 : decode cX0_takeReports 0 = .ok (.iconst 0, 1) := by decide +kernel
theorem dX0_takeReports_1 : decode cX0_takeReports 1 = .ok (.istore_n 1, 1) := by decide +kernel
theorem dX0_takeReports_2 : decode cX0_takeReports 2 = .ok (.iconst 0, 1) := by decide +kernel
theorem dX0_takeReports_3 : decode cX0_takeReports 3 = .ok (.istore_n 2, 1) := by decide +kernel
theorem dX0_takeReports_4 : decode cX0_takeReports 4 = .ok (.iload_n 2, 1) := by decide +kernel
theorem dX0_takeReports_5 : decode cX0_takeReports 5 = .ok (.aload_n 0, 1) := by decide +kernel
theorem dX0_takeReports_6 : decode cX0_takeReports 6 = .ok (.getfield 59, 3) := by decide +kernel
theorem dX0_takeReports_9 : decode cX0_takeReports 9 = .ok (.if_icmp .ge 64, 3) := by decide +kernel
theorem dX0_takeReports_12 : decode cX0_takeReports 12 = .ok (.aload_n 0, 1) := by decide +kernel
theorem dX0_takeReports_13 : decode cX0_takeReports 13 = .ok (.getfield 32, 3) := by decide +kernel
theorem dX0_takeReports_16 : decode cX0_takeReports 16 = .ok (.iload_n 2, 1) := by decide +kernel
theorem dX0_takeReports_17 : decode cX0_takeReports 17 = .ok (.iaload, 1) := by decide +kernel
theorem dX0_takeReports_18 : decode cX0_takeReports 18 = .ok (.aload_n 0, 1) := by decide +kernel
theorem dX0_takeReports_19 : decode cX0_takeReports 19 = .ok (.getfield 23, 3) := by decide +kernel
theorem dX0_takeReports_22 : decode cX0_takeReports 22 = .ok (.iconst 0, 1) := by decide +kernel
theorem dX0_takeReports_23 : decode cX0_takeReports 23 = .ok (.iaload, 1) := by decide +kernel
theorem dX0_takeReports_24 : decode cX0_takeReports 24 = .ok (.if_icmp .gt 16, 3) := by decide +kernel
theorem dX0_takeReports_27 : decode cX0_takeReports 27 = .ok (.aload_n 0, 1) := by decide +kernel
theorem dX0_takeReports_28 : decode cX0_takeReports 28 = .ok (.aload_n 0, 1) := by decide +kernel
theorem dX0_takeReports_29 : decode cX0_takeReports 29 = .ok (.getfield 35, 3) := by decide +kernel
theorem dX0_takeReports_32 : decode cX0_takeReports 32 = .ok (.iload_n 2, 1) := by decide +kernel
theorem dX0_takeReports_33 : decode cX0_takeReports 33 = .ok (.iaload, 1) := by decide +kernel
theorem dX0_takeReports_34 : decode cX0_takeReports 34 = .ok (.invokevirtual 141, 3) := by decide +kernel
theorem dX0_takeReports_37 : decode cX0_takeReports 37 = .ok (.goto 30, 3) := by decide +kernel
theorem dX0_takeReports_40 : decode cX0_takeReports 40 = .ok (.aload_n 0, 1) := by decide +kernel
theorem dX0_takeReports_41 : decode cX0_takeReports 41 = .ok (.getfield 32, 3) := by decide +kernel
theorem dX0_takeReports_44 : decode cX0_takeReports 44 = .ok (.iload_n 1, 1) := by decide +kernel
theorem dX0_takeReports_45 : decode cX0_takeReports 45 = .ok (.aload_n 0, 1) := by decide +kernel
theorem dX0_takeReports_46 : decode cX0_takeReports 46 = .ok (.getfield 32, 3) := by decide +kernel
theorem dX0_takeReports_49 : decode cX0_takeReports 49 = .ok (.iload_n 2, 1) := by decide +kernel
theorem dX0_takeReports_50 : decode cX0_takeReports 50 = .ok (.iaload, 1) := by decide +kernel
theorem dX0_takeReports_51 : decode cX0_takeReports 51 = .ok (.iastore, 1) := by decide +kernel
theorem dX0_takeReports_52 : decode cX0_takeReports 52 = .ok (.aload_n 0, 1) := by decide +kernel
theorem dX0_takeReports_53 : decode cX0_takeReports 53 = .ok (.getfield 35, 3) := by decide +kernel
theorem dX0_takeReports_56 : decode cX0_takeReports 56 = .ok (.iload_n 1, 1) := by decide +kernel
theorem dX0_takeReports_57 : decode cX0_takeReports 57 = .ok (.aload_n 0, 1) := by decide +kernel
theorem dX0_takeReports_58 : decode cX0_takeReports 58 = .ok (.getfield 35, 3) := by decide +kernel
theorem dX0_takeReports_61 : decode cX0_takeReports 61 = .ok (.iload_n 2, 1) := by decide +kernel
theorem dX0_takeReports_62 : decode cX0_takeReports 62 = .ok (.iaload, 1) := by decide +kernel
theorem dX0_takeReports_63 : decode cX0_takeReports 63 = .ok (.iastore, 1) := by decide +kernel
theorem dX0_takeReports_64 : decode cX0_takeReports 64 = .ok (.iinc 1 1, 3) := by decide +kernel
theorem dX0_takeReports_67 : decode cX0_takeReports 67 = .ok (.iinc 2 1, 3) := by decide +kernel
theorem dX0_takeReports_70 : decode cX0_takeReports 70 = .ok (.goto (-66), 3) := by decide +kernel
theorem dX0_takeReports_73 : decode cX0_takeReports 73 = .ok (.aload_n 0, 1) := by decide +kernel
theorem dX0_takeReports_74 : decode cX0_takeReports 74 = .ok (.iload_n 1, 1) := by decide +kernel
theorem dX0_takeReports_75 : decode cX0_takeReports 75 = .ok (.putfield 59, 3) := by decide +kernel
theorem dX0_takeReports_78 : decode cX0_takeReports 78 = .ok (.return_, 1) := by decide +kernel
set_option maxRecDepth 20000 in
theorem ggX0_addPlan_X0_guessedWay : GoodIn wsX0_addPlan wsX0_guessedWay := goodIn_r _ [8, 3, 9, 10, 11, 12, 13, 14, 15, 16, 17, 18, 19] (by decide +kernel) (by decide +kernel)
set_option maxRecDepth 20000 in
theorem gX0_addPlan_X0_guessedWay : GoodIn wsX0_addPlan (wsV RX0 144 RX0 yX0_guessedWay wsX0_guessedWay) := goodIn_app (goodIn_of _ (by decide +kernel)) ggX0_addPlan_X0_guessedWay
theorem dX0_addPlan_0 : decode cX0_addPlan 0 = .ok (.aload_n 0, 1) := by decide +kernel
theorem dX0_addPlan_1 : decode cX0_addPlan 1 = .ok (.getfield 62, 3) := by decide +kernel
theorem dX0_addPlan_4 : decode cX0_addPlan 4 = .ok (.bipush 32, 2) := by decide +kernel
theorem dX0_addPlan_6 : decode cX0_addPlan 6 = .ok (.if_icmp .ge 38, 3) := by decide +kernel
theorem dX0_addPlan_9 : decode cX0_addPlan 9 = .ok (.aload_n 0, 1) := by decide +kernel
theorem dX0_addPlan_10 : decode cX0_addPlan 10 = .ok (.getfield 38, 3) := by decide +kernel
theorem dX0_addPlan_13 : decode cX0_addPlan 13 = .ok (.aload_n 0, 1) := by decide +kernel
theorem dX0_addPlan_14 : decode cX0_addPlan 14 = .ok (.getfield 62, 3) := by decide +kernel
theorem dX0_addPlan_17 : decode cX0_addPlan 17 = .ok (.bipush 40, 2) := by decide +kernel
theorem dX0_addPlan_19 : decode cX0_addPlan 19 = .ok (.aload_n 0, 1) := by decide +kernel
theorem dX0_addPlan_20 : decode cX0_addPlan 20 = .ok (.getfield 20, 3) := by decide +kernel
theorem dX0_addPlan_23 : decode cX0_addPlan 23 = .ok (.iconst 3, 1) := by decide +kernel
theorem dX0_addPlan_24 : decode cX0_addPlan 24 = .ok (.iaload, 1) := by decide +kernel
theorem dX0_addPlan_25 : decode cX0_addPlan 25 = .ok (.iadd, 1) := by decide +kernel
theorem dX0_addPlan_26 : decode cX0_addPlan 26 = .ok (.iload_n 1, 1) := by decide +kernel
theorem dX0_addPlan_27 : decode cX0_addPlan 27 = .ok (.isub, 1) := by decide +kernel
theorem dX0_addPlan_28 : decode cX0_addPlan 28 = .ok (.aload_n 0, 1) := by decide +kernel
theorem dX0_addPlan_29 : decode cX0_addPlan 29 = .ok (.invokevirtual 144, 3) := by decide +kernel
theorem dX0_addPlan_32 : decode cX0_addPlan 32 = .ok (.isub, 1) := by decide +kernel
theorem dX0_addPlan_33 : decode cX0_addPlan 33 = .ok (.iastore, 1) := by decide +kernel
theorem dX0_addPlan_34 : decode cX0_addPlan 34 = .ok (.aload_n 0, 1) := by decide +kernel
theorem dX0_addPlan_35 : decode cX0_addPlan 35 = .ok (.dup, 1) := by decide +kernel
theorem dX0_addPlan_36 : decode cX0_addPlan 36 = .ok (.getfield 62, 3) := by decide +kernel
theorem dX0_addPlan_39 : decode cX0_addPlan 39 = .ok (.iconst 1, 1) := by decide +kernel
theorem dX0_addPlan_40 : decode cX0_addPlan 40 = .ok (.iadd, 1) := by decide +kernel
theorem dX0_addPlan_41 : decode cX0_addPlan 41 = .ok (.putfield 62, 3) := by decide +kernel
theorem dX0_addPlan_44 : decode cX0_addPlan 44 = .ok (.return_, 1) := by decide +kernel
theorem dX0_guessedWay_0 : decode cX0_guessedWay 0 = .ok (.iconst 0, 1) := by decide +kernel
theorem dX0_guessedWay_1 : decode cX0_guessedWay 1 = .ok (.istore_n 1, 1) := by decide +kernel
theorem dX0_guessedWay_2 : decode cX0_guessedWay 2 = .ok (.iconst 0, 1) := by decide +kernel
theorem dX0_guessedWay_3 : decode cX0_guessedWay 3 = .ok (.istore_n 2, 1) := by decide +kernel
theorem dX0_guessedWay_4 : decode cX0_guessedWay 4 = .ok (.iload_n 2, 1) := by decide +kernel
theorem dX0_guessedWay_5 : decode cX0_guessedWay 5 = .ok (.aload_n 0, 1) := by decide +kernel
theorem dX0_guessedWay_6 : decode cX0_guessedWay 6 = .ok (.getfield 20, 3) := by decide +kernel
theorem dX0_guessedWay_9 : decode cX0_guessedWay 9 = .ok (.iconst 2, 1) := by decide +kernel
theorem dX0_guessedWay_10 : decode cX0_guessedWay 10 = .ok (.iaload, 1) := by decide +kernel
theorem dX0_guessedWay_11 : decode cX0_guessedWay 11 = .ok (.if_icmp .ge 27, 3) := by decide +kernel
theorem dX0_guessedWay_14 : decode cX0_guessedWay 14 = .ok (.iload_n 2, 1) := by decide +kernel
theorem dX0_guessedWay_15 : decode cX0_guessedWay 15 = .ok (.aload_n 0, 1) := by decide +kernel
theorem dX0_guessedWay_16 : decode cX0_guessedWay 16 = .ok (.getfield 41, 3) := by decide +kernel
theorem dX0_guessedWay_19 : decode cX0_guessedWay 19 = .ok (.arraylength, 1) := by decide +kernel
theorem dX0_guessedWay_20 : decode cX0_guessedWay 20 = .ok (.if_icmp .ge 18, 3) := by decide +kernel
theorem dX0_guessedWay_23 : decode cX0_guessedWay 23 = .ok (.iload_n 1, 1) := by decide +kernel
theorem dX0_guessedWay_24 : decode cX0_guessedWay 24 = .ok (.aload_n 0, 1) := by decide +kernel
theorem dX0_guessedWay_25 : decode cX0_guessedWay 25 = .ok (.getfield 41, 3) := by decide +kernel
theorem dX0_guessedWay_28 : decode cX0_guessedWay 28 = .ok (.iload_n 2, 1) := by decide +kernel
theorem dX0_guessedWay_29 : decode cX0_guessedWay 29 = .ok (.iaload, 1) := by decide +kernel
theorem dX0_guessedWay_30 : decode cX0_guessedWay 30 = .ok (.iadd, 1) := by decide +kernel
theorem dX0_guessedWay_31 : decode cX0_guessedWay 31 = .ok (.istore_n 1, 1) := by decide +kernel
theorem dX0_guessedWay_32 : decode cX0_guessedWay 32 = .ok (.iinc 2 1, 3) := by decide +kernel
theorem dX0_guessedWay_35 : decode cX0_guessedWay 35 = .ok (.goto (-31), 3) := by decide +kernel
theorem dX0_guessedWay_38 : decode cX0_guessedWay 38 = .ok (.iload_n 1, 1) := by decide +kernel
theorem dX0_guessedWay_39 : decode cX0_guessedWay 39 = .ok (.ireturn, 1) := by decide +kernel
set_option maxRecDepth 20000 in
theorem ggX0_doPlans_X0_useLabel : GoodIn wsX0_doPlans wsX0_useLabel := goodIn_r _ [7, 8, 9, 10, 11, 12, 13, 14, 15, 16, 17, 18, 19, 20, 21, 6, 22, 23, 24, 25, 26, 27, 28, 29, 30, 31, 32, 33, 34, 35, 36, 37, 38, 39, 40, 41, 42, 43] (by decide +kernel) (by decide +kernel)
set_option maxRecDepth 20000 in
theorem gX0_doPlans_X0_useLabel : GoodIn wsX0_doPlans (wsV RX0 147 RX0 yX0_useLabel wsX0_useLabel) := goodIn_app (goodIn_of _ (by decide +kernel)) ggX0_doPlans_X0_useLabel
theorem dX0_doPlans_0 : decode cX0_doPlans 0 = .ok (.iconst 0, 1) := by decide +kernel
theorem dX0_doPlans_1 : decode cX0_doPlans 1 = .ok (.istore_n 1, 1) := by decide +kernel
theorem dX0_doPlans_2 : decode cX0_doPlans 2 = .ok (.iconst 0, 1) := by decide +kernel
theorem dX0_doPlans_3 : decode cX0_doPlans 3 = .ok (.istore_n 2, 1) := by decide +kernel
theorem dX0_doPlans_4 : decode cX0_doPlans 4 = .ok (.iload_n 2, 1) := by decide +kernel
theorem dX0_doPlans_5 : decode cX0_doPlans 5 = .ok (.aload_n 0, 1) := by decide +kernel
theorem dX0_doPlans_6 : decode cX0_doPlans 6 = .ok (.getfield 62, 3) := by decide +kernel
theorem dX0_doPlans_9 : decode cX0_doPlans 9 = .ok (.if_icmp .ge 40, 3) := by decide +kernel
theorem dX0_doPlans_12 : decode cX0_doPlans 12 = .ok (.aload_n 0, 1) := by decide +kernel
theorem dX0_doPlans_13 : decode cX0_doPlans 13 = .ok (.getfield 38, 3) := by decide +kernel
theorem dX0_doPlans_16 : decode cX0_doPlans 16 = .ok (.iload_n 2, 1) := by decide +kernel
theorem dX0_doPlans_17 : decode cX0_doPlans 17 = .ok (.iaload, 1) := by decide +kernel
theorem dX0_doPlans_18 : decode cX0_doPlans 18 = .ok (.ifCond .gt 10, 3) := by decide +kernel
theorem dX0_doPlans_21 : decode cX0_doPlans 21 = .ok (.aload_n 0, 1) := by decide +kernel
theorem dX0_doPlans_22 : decode cX0_doPlans 22 = .ok (.invokevirtual 147, 3) := by decide +kernel
theorem dX0_doPlans_25 : decode cX0_doPlans 25 = .ok (.goto 18, 3) := by decide +kernel
theorem dX0_doPlans_28 : decode cX0_doPlans 28 = .ok (.aload_n 0, 1) := by decide +kernel
theorem dX0_doPlans_29 : decode cX0_doPlans 29 = .ok (.getfield 38, 3) := by decide +kernel
theorem dX0_doPlans_32 : decode cX0_doPlans 32 = .ok (.iload_n 1, 1) := by decide +kernel
theorem dX0_doPlans_33 : decode cX0_doPlans 33 = .ok (.aload_n 0, 1) := by decide +kernel
theorem dX0_doPlans_34 : decode cX0_doPlans 34 = .ok (.getfield 38, 3) := by decide +kernel
theorem dX0_doPlans_37 : decode cX0_doPlans 37 = .ok (.iload_n 2, 1) := by decide +kernel
theorem dX0_doPlans_38 : decode cX0_doPlans 38 = .ok (.iaload, 1) := by decide +kernel
theorem dX0_doPlans_39 : decode cX0_doPlans 39 = .ok (.iastore, 1) := by decide +kernel
theorem dX0_doPlans_40 : decode cX0_doPlans 40 = .ok (.iinc 1 1, 3) := by decide +kernel
theorem dX0_doPlans_43 : decode cX0_doPlans 43 = .ok (.iinc 2 1, 3) := by decide +kernel
theorem dX0_doPlans_46 : decode cX0_doPlans 46 = .ok (.goto (-42), 3) := by decide +kernel
theorem dX0_doPlans_49 : decode cX0_doPlans 49 = .ok (.aload_n 0, 1) := by decide +kernel
theorem dX0_doPlans_50 : decode cX0_doPlans 50 = .ok (.iload_n 1, 1) := by decide +kernel
theorem dX0_doPlans_51 : decode cX0_doPlans 51 = .ok (.putfield 62, 3) := by decide +kernel
theorem dX0_doPlans_54 : decode cX0_doPlans 54 = .ok (.return_, 1) := by decide +kernel
set_option maxRecDepth 20000 in
theorem ggX0_useLabel_X1_liesUnder : GoodIn wsX0_useLabel wsX1_liesUnder := goodIn_r _ [9, 10, 11, 31, 32, 33, 34, 35, 36, 37] (by decide +kernel) (by decide +kernel)
set_option maxRecDepth 20000 in
theorem gX0_useLabel_X1_liesUnder : GoodIn wsX0_useLabel (wsV RX0 150 RX1 yX1_liesUnder wsX1_liesUnder) := goodIn_app (goodIn_of _ (by decide +kernel)) ggX0_useLabel_X1_liesUnder
set_option maxRecDepth 20000 in
theorem ggX0_useLabel_X0_markBox : GoodIn wsX0_useLabel wsX0_markBox := goodIn_r _ [16, 1, 17, 18, 19, 20, 21, 22, 23, 24, 25, 26, 27, 28, 29, 30, 31, 32, 33, 34, 35, 36, 37] (by decide +kernel) (by decide +kernel)
set_option maxRecDepth 20000 in
theorem gX0_useLabel_X0_markBox : GoodIn wsX0_useLabel (wsV RX0 153 RX0 yX0_markBox wsX0_markBox) := goodIn_app (goodIn_of _ (by decide +kernel)) ggX0_useLabel_X0_markBox
theorem dX0_useLabel_0 : decode cX0_useLabel 0 = .ok (.aload_n 0, 1) := by decide +kernel
theorem dX0_useLabel_1 : decode cX0_useLabel 1 = .ok (.getfield 23, 3) := by decide +kernel
theorem dX0_useLabel_4 : decode cX0_useLabel 4 = .ok (.bipush 10, 2) := by decide +kernel
theorem dX0_useLabel_6 : decode cX0_useLabel 6 = .ok (.iaload, 1) := by decide +kernel
theorem dX0_useLabel_7 : decode cX0_useLabel 7 = .ok (.aload_n 0, 1) := by decide +kernel
theorem dX0_useLabel_8 : decode cX0_useLabel 8 = .ok (.getfield 20, 3) := by decide +kernel
theorem dX0_useLabel_11 : decode cX0_useLabel 11 = .ok (.iconst 4, 1) := by decide +kernel
theorem dX0_useLabel_12 : decode cX0_useLabel 12 = .ok (.iaload, 1) := by decide +kernel
theorem dX0_useLabel_13 : decode cX0_useLabel 13 = .ok (.if_icmp .ge 15, 3) := by decide +kernel
theorem dX0_useLabel_16 : decode cX0_useLabel 16 = .ok (.aload_n 0, 1) := by decide +kernel
theorem dX0_useLabel_17 : decode cX0_useLabel 17 = .ok (.getfield 23, 3) := by decide +kernel
theorem dX0_useLabel_20 : decode cX0_useLabel 20 = .ok (.bipush 9, 2) := by decide +kernel
theorem dX0_useLabel_22 : decode cX0_useLabel 22 = .ok (.dup2, 1) := by decide +kernel
theorem dX0_useLabel_23 : decode cX0_useLabel 23 = .ok (.iaload, 1) := by decide +kernel
theorem dX0_useLabel_24 : decode cX0_useLabel 24 = .ok (.iconst 1, 1) := by decide +kernel
theorem dX0_useLabel_25 : decode cX0_useLabel 25 = .ok (.iadd, 1) := by decide +kernel
theorem dX0_useLabel_26 : decode cX0_useLabel 26 = .ok (.iastore, 1) := by decide +kernel
theorem dX0_useLabel_27 : decode cX0_useLabel 27 = .ok (.return_, 1) := by decide +kernel
theorem dX0_useLabel_28 : decode cX0_useLabel 28 = .ok (.aload_n 0, 1) := by decide +kernel
theorem dX0_useLabel_29 : decode cX0_useLabel 29 = .ok (.getfield 23, 3) := by decide +kernel
theorem dX0_useLabel_32 : decode cX0_useLabel 32 = .ok (.bipush 10, 2) := by decide +kernel
theorem dX0_useLabel_34 : decode cX0_useLabel 34 = .ok (.dup2, 1) := by decide +kernel
theorem dX0_useLabel_35 : decode cX0_useLabel 35 = .ok (.iaload, 1) := by decide +kernel
theorem dX0_useLabel_36 : decode cX0_useLabel 36 = .ok (.aload_n 0, 1) := by decide +kernel
theorem dX0_useLabel_37 : decode cX0_useLabel 37 = .ok (.getfield 20, 3) := by decide +kernel
theorem dX0_useLabel_40 : decode cX0_useLabel 40 = .ok (.iconst 4, 1) := by decide +kernel
theorem dX0_useLabel_41 : decode cX0_useLabel 41 = .ok (.iaload, 1) := by decide +kernel
theorem dX0_useLabel_42 : decode cX0_useLabel 42 = .ok (.isub, 1) := by decide +kernel
theorem dX0_useLabel_43 : decode cX0_useLabel 43 = .ok (.iastore, 1) := by decide +kernel
theorem dX0_useLabel_44 : decode cX0_useLabel 44 = .ok (.iconst 0, 1) := by decide +kernel
theorem dX0_useLabel_45 : decode cX0_useLabel 45 = .ok (.istore_n 1, 1) := by decide +kernel
theorem dX0_useLabel_46 : decode cX0_useLabel 46 = .ok (.iload_n 1, 1) := by decide +kernel
theorem dX0_useLabel_47 : decode cX0_useLabel 47 = .ok (.aload_n 0, 1) := by decide +kernel
theorem dX0_useLabel_48 : decode cX0_useLabel 48 = .ok (.getfield 51, 3) := by decide +kernel
theorem dX0_useLabel_51 : decode cX0_useLabel 51 = .ok (.if_icmp .ge 34, 3) := by decide +kernel
theorem dX0_useLabel_54 : decode cX0_useLabel 54 = .ok (.aload_n 0, 1) := by decide +kernel
theorem dX0_useLabel_55 : decode cX0_useLabel 55 = .ok (.getfield 28, 3) := by decide +kernel
theorem dX0_useLabel_58 : decode cX0_useLabel 58 = .ok (.iload_n 1, 1) := by decide +kernel
theorem dX0_useLabel_59 : decode cX0_useLabel 59 = .ok (.aaload, 1) := by decide +kernel
theorem dX0_useLabel_60 : decode cX0_useLabel 60 = .ok (.bipush 60, 2) := by decide +kernel
theorem dX0_useLabel_62 : decode cX0_useLabel 62 = .ok (.invokevirtual 150, 3) := by decide +kernel
theorem dX0_useLabel_65 : decode cX0_useLabel 65 = .ok (.ifCond .eq 14, 3) := by decide +kernel
theorem dX0_useLabel_68 : decode cX0_useLabel 68 = .ok (.aload_n 0, 1) := by decide +kernel
theorem dX0_useLabel_69 : decode cX0_useLabel 69 = .ok (.aload_n 0, 1) := by decide +kernel
theorem dX0_useLabel_70 : decode cX0_useLabel 70 = .ok (.getfield 28, 3) := by decide +kernel
theorem dX0_useLabel_73 : decode cX0_useLabel 73 = .ok (.iload_n 1, 1) := by decide +kernel
theorem dX0_useLabel_74 : decode cX0_useLabel 74 = .ok (.aaload, 1) := by decide +kernel
theorem dX0_useLabel_75 : decode cX0_useLabel 75 = .ok (.invokevirtual 153, 3) := by decide +kernel
theorem dX0_useLabel_78 : decode cX0_useLabel 78 = .ok (.return_, 1) := by decide +kernel
theorem dX0_useLabel_79 : decode cX0_useLabel 79 = .ok (.iinc 1 1, 3) := by decide +kernel
theorem dX0_useLabel_82 : decode cX0_useLabel 82 = .ok (.goto (-36), 3) := by decide +kernel
theorem dX0_useLabel_85 : decode cX0_useLabel 85 = .ok (.aload_n 0, 1) := by decide +kernel
theorem dX0_useLabel_86 : decode cX0_useLabel 86 = .ok (.getfield 23, 3) := by decide +kernel
theorem dX0_useLabel_89 : decode cX0_useLabel 89 = .ok (.bipush 7, 2) := by decide +kernel
theorem dX0_useLabel_91 : decode cX0_useLabel 91 = .ok (.dup2, 1) := by decide +kernel
theorem dX0_useLabel_92 : decode cX0_useLabel 92 = .ok (.iaload, 1) := by decide +kernel
theorem dX0_useLabel_93 : decode cX0_useLabel 93 = .ok (.iconst 1, 1) := by decide +kernel
theorem dX0_useLabel_94 : decode cX0_useLabel 94 = .ok (.iadd, 1) := by decide +kernel
theorem dX0_useLabel_95 : decode cX0_useLabel 95 = .ok (.iastore, 1) := by decide +kernel
theorem dX0_useLabel_96 : decode cX0_useLabel 96 = .ok (.return_, 1) := by decide +kernel
theorem dX0_markBox_0 : decode cX0_markBox 0 = .ok (.aload_n 0, 1) := by decide +kernel
theorem dX0_markBox_1 : decode cX0_markBox 1 = .ok (.getfield 23, 3) := by decide +kernel
theorem dX0_markBox_4 : decode cX0_markBox 4 = .ok (.bipush 6, 2) := by decide +kernel
theorem dX0_markBox_6 : decode cX0_markBox 6 = .ok (.dup2, 1) := by decide +kernel
theorem dX0_markBox_7 : decode cX0_markBox 7 = .ok (.iaload, 1) := by decide +kernel
theorem dX0_markBox_8 : decode cX0_markBox 8 = .ok (.iconst 1, 1) := by decide +kernel
theorem dX0_markBox_9 : decode cX0_markBox 9 = .ok (.iadd, 1) := by decide +kernel
theorem dX0_markBox_10 : decode cX0_markBox 10 = .ok (.iastore, 1) := by decide +kernel
theorem dX0_markBox_11 : decode cX0_markBox 11 = .ok (.aload_n 1, 1) := by decide +kernel
theorem dX0_markBox_12 : decode cX0_markBox 12 = .ok (.getfield 156, 3) := by decide +kernel
theorem dX0_markBox_15 : decode cX0_markBox 15 = .ok (.ifCond .eq 19, 3) := by decide +kernel
theorem dX0_markBox_18 : decode cX0_markBox 18 = .ok (.aload_n 1, 1) := by decide +kernel
theorem dX0_markBox_19 : decode cX0_markBox 19 = .ok (.iconst 1, 1) := by decide +kernel
theorem dX0_markBox_20 : decode cX0_markBox 20 = .ok (.putfield 159, 3) := by decide +kernel
theorem dX0_markBox_23 : decode cX0_markBox 23 = .ok (.aload_n 0, 1) := by decide +kernel
theorem dX0_markBox_24 : decode cX0_markBox 24 = .ok (.getfield 23, 3) := by decide +kernel
theorem dX0_markBox_27 : decode cX0_markBox 27 = .ok (.bipush 8, 2) := by decide +kernel
theorem dX0_markBox_29 : decode cX0_markBox 29 = .ok (.dup2, 1) := by decide +kernel
theorem dX0_markBox_30 : decode cX0_markBox 30 = .ok (.iaload, 1) := by decide +kernel
theorem dX0_markBox_31 : decode cX0_markBox 31 = .ok (.iconst 1, 1) := by decide +kernel
theorem dX0_markBox_32 : decode cX0_markBox 32 = .ok (.iadd, 1) := by decide +kernel
theorem dX0_markBox_33 : decode cX0_markBox 33 = .ok (.iastore, 1) := by decide +kernel
theorem dX0_markBox_34 : decode cX0_markBox 34 = .ok (.aload_n 1, 1) := by decide +kernel
theorem dX0_markBox_35 : decode cX0_markBox 35 = .ok (.iconst 1, 1) := by decide +kernel
theorem dX0_markBox_36 : decode cX0_markBox 36 = .ok (.putfield 156, 3) := by decide +kernel
theorem dX0_markBox_39 : decode cX0_markBox 39 = .ok (.aload_n 1, 1) := by decide +kernel
theorem dX0_markBox_40 : decode cX0_markBox 40 = .ok (.aload_n 1, 1) := by decide +kernel
theorem dX0_markBox_41 : decode cX0_markBox 41 = .ok (.getfield 86, 3) := by decide +kernel
theorem dX0_markBox_44 : decode cX0_markBox 44 = .ok (.bipush 60, 2) := by decide +kernel
theorem dX0_markBox_46 : decode cX0_markBox 46 = .ok (.isub, 1) := by decide +kernel
theorem dX0_markBox_47 : decode cX0_markBox 47 = .ok (.putfield 162, 3) := by decide +kernel
theorem dX0_markBox_50 : decode cX0_markBox 50 = .ok (.return_, 1) := by decide +kernel
theorem dX0_feed_0 : decode cX0_feed 0 = .ok (.aload_n 0, 1) := by decide +kernel
theorem dX0_feed_1 : decode cX0_feed 1 = .ok (.getfield 23, 3) := by decide +kernel
theorem dX0_feed_4 : decode cX0_feed 4 = .ok (.bipush 10, 2) := by decide +kernel
theorem dX0_feed_6 : decode cX0_feed 6 = .ok (.aload_n 0, 1) := by decide +kernel
theorem dX0_feed_7 : decode cX0_feed 7 = .ok (.getfield 23, 3) := by decide +kernel
theorem dX0_feed_10 : decode cX0_feed 10 = .ok (.bipush 10, 2) := by decide +kernel
theorem dX0_feed_12 : decode cX0_feed 12 = .ok (.iaload, 1) := by decide +kernel
theorem dX0_feed_13 : decode cX0_feed 13 = .ok (.aload_n 0, 1) := by decide +kernel
theorem dX0_feed_14 : decode cX0_feed 14 = .ok (.getfield 20, 3) := by decide +kernel
theorem dX0_feed_17 : decode cX0_feed 17 = .ok (.bipush 6, 2) := by decide +kernel
theorem dX0_feed_19 : decode cX0_feed 19 = .ok (.iaload, 1) := by decide +kernel
theorem dX0_feed_20 : decode cX0_feed 20 = .ok (.iadd, 1) := by decide +kernel
theorem dX0_feed_21 : decode cX0_feed 21 = .ok (.aload_n 0, 1) := by decide +kernel
theorem dX0_feed_22 : decode cX0_feed 22 = .ok (.getfield 20, 3) := by decide +kernel
theorem dX0_feed_25 : decode cX0_feed 25 = .ok (.iconst 5, 1) := by decide +kernel
theorem dX0_feed_26 : decode cX0_feed 26 = .ok (.iaload, 1) := by decide +kernel
theorem dX0_feed_27 : decode cX0_feed 27 = .ok (.invokestatic 165, 3) := by decide +kernel
theorem dX0_feed_30 : decode cX0_feed 30 = .ok (.iastore, 1) := by decide +kernel
theorem dX0_feed_31 : decode cX0_feed 31 = .ok (.return_, 1) := by decide +kernel
set_option maxRecDepth 20000 in
theorem ggX0_letBoxesLeave_X1_back : GoodIn wsX0_letBoxesLeave wsX1_back := goodIn_r _ [8, 9, 10, 34, 35, 36, 37, 38, 39, 40] (by decide +kernel) (by decide +kernel)
set_option maxRecDepth 20000 in
theorem gX0_letBoxesLeave_X1_back : GoodIn wsX0_letBoxesLeave (wsV RX0 75 RX1 yX1_back wsX1_back) := goodIn_app (goodIn_of _ (by decide +kernel)) ggX0_letBoxesLeave_X1_back
set_option maxRecDepth 20000 in
theorem ggX0_letBoxesLeave_X0_fate : GoodIn wsX0_letBoxesLeave wsX0_fate := goodIn_r _ [15, 16, 17, 18, 19, 20, 21, 22, 23, 34, 35, 36, 37, 38, 39, 40, 24, 25, 26, 27, 28, 29, 30, 31, 32, 33] (by decide +kernel) (by decide +kernel)
set_option maxRecDepth 20000 in
theorem gX0_letBoxesLeave_X0_fate : GoodIn wsX0_letBoxesLeave (wsV RX0 168 RX0 yX0_fate wsX0_fate) := goodIn_app (goodIn_of _ (by decide +kernel)) ggX0_letBoxesLeave_X0_fate
theorem dX0_letBoxesLeave_0 : decode cX0_letBoxesLeave 0 = .ok (.iconst 0, 1) := by decide +kernel
theorem dX0_letBoxesLeave_1 : decode cX0_letBoxesLeave 1 = .ok (.istore_n 1, 1) := by decide +kernel
theorem dX0_letBoxesLeave_2 : decode cX0_letBoxesLeave 2 = .ok (.iconst 0, 1) := by decide +kernel
theorem dX0_letBoxesLeave_3 : decode cX0_letBoxesLeave 3 = .ok (.istore_n 2, 1) := by decide +kernel
theorem dX0_letBoxesLeave_4 : decode cX0_letBoxesLeave 4 = .ok (.iload_n 2, 1) := by decide +kernel
theorem dX0_letBoxesLeave_5 : decode cX0_letBoxesLeave 5 = .ok (.aload_n 0, 1) := by decide +kernel
theorem dX0_letBoxesLeave_6 : decode cX0_letBoxesLeave 6 = .ok (.getfield 51, 3) := by decide +kernel
theorem dX0_letBoxesLeave_9 : decode cX0_letBoxesLeave 9 = .ok (.if_icmp .ge 64, 3) := by decide +kernel
theorem dX0_letBoxesLeave_12 : decode cX0_letBoxesLeave 12 = .ok (.aload_n 0, 1) := by decide +kernel
theorem dX0_letBoxesLeave_13 : decode cX0_letBoxesLeave 13 = .ok (.getfield 28, 3) := by decide +kernel
theorem dX0_letBoxesLeave_16 : decode cX0_letBoxesLeave 16 = .ok (.iload_n 2, 1) := by decide +kernel
theorem dX0_letBoxesLeave_17 : decode cX0_letBoxesLeave 17 = .ok (.aaload, 1) := by decide +kernel
theorem dX0_letBoxesLeave_18 : decode cX0_letBoxesLeave 18 = .ok (.astore_n 3, 1) := by decide +kernel
theorem dX0_letBoxesLeave_19 : decode cX0_letBoxesLeave 19 = .ok (.aload_n 3, 1) := by decide +kernel
theorem dX0_letBoxesLeave_20 : decode cX0_letBoxesLeave 20 = .ok (.invokevirtual 75, 3) := by decide +kernel
theorem dX0_letBoxesLeave_23 : decode cX0_letBoxesLeave 23 = .ok (.bipush 100, 2) := by decide +kernel
theorem dX0_letBoxesLeave_25 : decode cX0_letBoxesLeave 25 = .ok (.if_icmp .lt 20, 3) := by decide +kernel
theorem dX0_letBoxesLeave_28 : decode cX0_letBoxesLeave 28 = .ok (.aload_n 0, 1) := by decide +kernel
theorem dX0_letBoxesLeave_29 : decode cX0_letBoxesLeave 29 = .ok (.getfield 23, 3) := by decide +kernel
theorem dX0_letBoxesLeave_32 : decode cX0_letBoxesLeave 32 = .ok (.aload_n 0, 1) := by decide +kernel
theorem dX0_letBoxesLeave_33 : decode cX0_letBoxesLeave 33 = .ok (.aload_n 3, 1) := by decide +kernel
theorem dX0_letBoxesLeave_34 : decode cX0_letBoxesLeave 34 = .ok (.invokevirtual 168, 3) := by decide +kernel
theorem dX0_letBoxesLeave_37 : decode cX0_letBoxesLeave 37 = .ok (.dup2, 1) := by decide +kernel
theorem dX0_letBoxesLeave_38 : decode cX0_letBoxesLeave 38 = .ok (.iaload, 1) := by decide +kernel
theorem dX0_letBoxesLeave_39 : decode cX0_letBoxesLeave 39 = .ok (.iconst 1, 1) := by decide +kernel
theorem dX0_letBoxesLeave_40 : decode cX0_letBoxesLeave 40 = .ok (.iadd, 1) := by decide +kernel
theorem dX0_letBoxesLeave_41 : decode cX0_letBoxesLeave 41 = .ok (.iastore, 1) := by decide +kernel
theorem dX0_letBoxesLeave_42 : decode cX0_letBoxesLeave 42 = .ok (.goto 25, 3) := by decide +kernel
theorem dX0_letBoxesLeave_45 : decode cX0_letBoxesLeave 45 = .ok (.aload_n 0, 1) := by decide +kernel
theorem dX0_letBoxesLeave_46 : decode cX0_letBoxesLeave 46 = .ok (.getfield 28, 3) := by decide +kernel
theorem dX0_letBoxesLeave_49 : decode cX0_letBoxesLeave 49 = .ok (.iload_n 2, 1) := by decide +kernel
theorem dX0_letBoxesLeave_50 : decode cX0_letBoxesLeave 50 = .ok (.aload_n 0, 1) := by decide +kernel
theorem dX0_letBoxesLeave_51 : decode cX0_letBoxesLeave 51 = .ok (.getfield 28, 3) := by decide +kernel
theorem dX0_letBoxesLeave_54 : decode cX0_letBoxesLeave 54 = .ok (.iload_n 1, 1) := by decide +kernel
theorem dX0_letBoxesLeave_55 : decode cX0_letBoxesLeave 55 = .ok (.aaload, 1) := by decide +kernel
theorem dX0_letBoxesLeave_56 : decode cX0_letBoxesLeave 56 = .ok (.aastore, 1) := by decide +kernel
theorem dX0_letBoxesLeave_57 : decode cX0_letBoxesLeave 57 = .ok (.aload_n 0, 1) := by decide +kernel
theorem dX0_letBoxesLeave_58 : decode cX0_letBoxesLeave 58 = .ok (.getfield 28, 3) := by decide +kernel
theorem dX0_letBoxesLeave_61 : decode cX0_letBoxesLeave 61 = .ok (.iload_n 1, 1) := by decide +kernel
theorem dX0_letBoxesLeave_62 : decode cX0_letBoxesLeave 62 = .ok (.aload_n 3, 1) := by decide +kernel
theorem dX0_letBoxesLeave_63 : decode cX0_letBoxesLeave 63 = .ok (.aastore, 1) := by decide +kernel
theorem dX0_letBoxesLeave_64 : decode cX0_letBoxesLeave 64 = .ok (.iinc 1 1, 3) := by decide +kernel
theorem dX0_letBoxesLeave_67 : decode cX0_letBoxesLeave 67 = .ok (.iinc 2 1, 3) := by decide +kernel
theorem dX0_letBoxesLeave_70 : decode cX0_letBoxesLeave 70 = .ok (.goto (-66), 3) := by decide +kernel
theorem dX0_letBoxesLeave_73 : decode cX0_letBoxesLeave 73 = .ok (.aload_n 0, 1) := by decide +kernel
theorem dX0_letBoxesLeave_74 : decode cX0_letBoxesLeave 74 = .ok (.iload_n 1, 1) := by decide +kernel
theorem dX0_letBoxesLeave_75 : decode cX0_letBoxesLeave 75 = .ok (.putfield 51, 3) := by decide +kernel
theorem dX0_letBoxesLeave_78 : decode cX0_letBoxesLeave 78 = .ok (.return_, 1) := by decide +kernel
theorem dX0_fate_0 : decode cX0_fate 0 = .ok (.aload_n 1, 1) := by decide +kernel
theorem dX0_fate_1 : decode cX0_fate 1 = .ok (.getfield 156, 3) := by decide +kernel
theorem dX0_fate_4 : decode cX0_fate 4 = .ok (.ifCond .ne 5, 3) := by decide +kernel
theorem dX0_fate_7 : decode cX0_fate 7 = .ok (.iconst 5, 1) := by decide +kernel
theorem dX0_fate_8 : decode cX0_fate 8 = .ok (.ireturn, 1) := by decide +kernel
theorem dX0_fate_9 : decode cX0_fate 9 = .ok (.aload_n 1, 1) := by decide +kernel
theorem dX0_fate_10 : decode cX0_fate 10 = .ok (.getfield 162, 3) := by decide +kernel
theorem dX0_fate_13 : decode cX0_fate 13 = .ok (.aload_n 0, 1) := by decide +kernel
theorem dX0_fate_14 : decode cX0_fate 14 = .ok (.getfield 20, 3) := by decide +kernel
theorem dX0_fate_17 : decode cX0_fate 17 = .ok (.iconst 3, 1) := by decide +kernel
theorem dX0_fate_18 : decode cX0_fate 18 = .ok (.iaload, 1) := by decide +kernel
theorem dX0_fate_19 : decode cX0_fate 19 = .ok (.isub, 1) := by decide +kernel
theorem dX0_fate_20 : decode cX0_fate 20 = .ok (.invokestatic 172, 3) := by decide +kernel
theorem dX0_fate_23 : decode cX0_fate 23 = .ok (.aload_n 0, 1) := by decide +kernel
theorem dX0_fate_24 : decode cX0_fate 24 = .ok (.getfield 20, 3) := by decide +kernel
theorem dX0_fate_27 : decode cX0_fate 27 = .ok (.bipush 7, 2) := by decide +kernel
theorem dX0_fate_29 : decode cX0_fate 29 = .ok (.iaload, 1) := by decide +kernel
theorem dX0_fate_30 : decode cX0_fate 30 = .ok (.if_icmp .gt 7, 3) := by decide +kernel
theorem dX0_fate_33 : decode cX0_fate 33 = .ok (.iconst 1, 1) := by decide +kernel
theorem dX0_fate_34 : decode cX0_fate 34 = .ok (.goto 4, 3) := by decide +kernel
theorem dX0_fate_37 : decode cX0_fate 37 = .ok (.iconst 0, 1) := by decide +kernel
theorem dX0_fate_38 : decode cX0_fate 38 = .ok (.istore_n 2, 1) := by decide +kernel
theorem dX0_fate_39 : decode cX0_fate 39 = .ok (.iload_n 2, 1) := by decide +kernel
theorem dX0_fate_40 : decode cX0_fate 40 = .ok (.ifCond .eq 14, 3) := by decide +kernel
theorem dX0_fate_43 : decode cX0_fate 43 = .ok (.aload_n 1, 1) := by decide +kernel
theorem dX0_fate_44 : decode cX0_fate 44 = .ok (.getfield 159, 3) := by decide +kernel
theorem dX0_fate_47 : decode cX0_fate 47 = .ok (.ifCond .ne 7, 3) := by decide +kernel
theorem dX0_fate_50 : decode cX0_fate 50 = .ok (.iconst 3, 1) := by decide +kernel
theorem dX0_fate_51 : decode cX0_fate 51 = .ok (.goto 4, 3) := by decide +kernel
theorem dX0_fate_54 : decode cX0_fate 54 = .ok (.iconst 4, 1) := by decide +kernel
theorem dX0_fate_55 : decode cX0_fate 55 = .ok (.ireturn, 1) := by decide +kernel
theorem dX1_init_0 : decode cX1_init 0 = .ok (.aload_n 0, 1) := by decide +kernel
theorem dX1_init_1 : decode cX1_init 1 = .ok (.invokespecial 3, 3) := by decide +kernel
theorem dX1_init_4 : decode cX1_init 4 = .ok (.return_, 1) := by decide +kernel
theorem dX1_canHave_0 : decode cX1_canHave 0 = .ok (.iload_n 0, 1) := by decide +kernel
theorem dX1_canHave_1 : decode cX1_canHave 1 = .ok (.iconst 4, 1) := by decide +kernel
theorem dX1_canHave_2 : decode cX1_canHave 2 = .ok (.if_icmp .lt 13, 3) := by decide +kernel
theorem dX1_canHave_5 : decode cX1_canHave 5 = .ok (.iload_n 0, 1) := by decide +kernel
theorem dX1_canHave_6 : decode cX1_canHave 6 = .ok (.bipush 30, 2) := by decide +kernel
theorem dX1_canHave_8 : decode cX1_canHave 8 = .ok (.if_icmp .gt 7, 3) := by decide +kernel
theorem dX1_canHave_11 : decode cX1_canHave 11 = .ok (.iconst 1, 1) := by decide +kernel
theorem dX1_canHave_12 : decode cX1_canHave 12 = .ok (.goto 4, 3) := by decide +kernel
theorem dX1_canHave_15 : decode cX1_canHave 15 = .ok (.iconst 0, 1) := by decide +kernel
theorem dX1_canHave_16 : decode cX1_canHave 16 = .ok (.ireturn, 1) := by decide +kernel
theorem dX1_begin_0 : decode cX1_begin 0 = .ok (.aload_n 0, 1) := by decide +kernel
theorem dX1_begin_1 : decode cX1_begin 1 = .ok (.iconst 0, 1) := by decide +kernel
theorem dX1_begin_2 : decode cX1_begin 2 = .ok (.putfield 11, 3) := by decide +kernel
theorem dX1_begin_5 : decode cX1_begin 5 = .ok (.aload_n 0, 1) := by decide +kernel
theorem dX1_begin_6 : decode cX1_begin 6 = .ok (.iload_n 1, 1) := by decide +kernel
theorem dX1_begin_7 : decode cX1_begin 7 = .ok (.putfield 15, 3) := by decide +kernel
theorem dX1_begin_10 : decode cX1_begin 10 = .ok (.aload_n 0, 1) := by decide +kernel
theorem dX1_begin_11 : decode cX1_begin 11 = .ok (.iconst 0, 1) := by decide +kernel
theorem dX1_begin_12 : decode cX1_begin 12 = .ok (.putfield 18, 3) := by decide +kernel
theorem dX1_begin_15 : decode cX1_begin 15 = .ok (.aload_n 0, 1) := by decide +kernel
theorem dX1_begin_16 : decode cX1_begin 16 = .ok (.iconst 0, 1) := by decide +kernel
theorem dX1_begin_17 : decode cX1_begin 17 = .ok (.putfield 22, 3) := by decide +kernel
theorem dX1_begin_20 : decode cX1_begin 20 = .ok (.aload_n 0, 1) := by decide +kernel
theorem dX1_begin_21 : decode cX1_begin 21 = .ok (.iconst 0, 1) := by decide +kernel
theorem dX1_begin_22 : decode cX1_begin 22 = .ok (.putfield 25, 3) := by decide +kernel
theorem dX1_begin_25 : decode cX1_begin 25 = .ok (.aload_n 0, 1) := by decide +kernel
theorem dX1_begin_26 : decode cX1_begin 26 = .ok (.iconst 0, 1) := by decide +kernel
theorem dX1_begin_27 : decode cX1_begin 27 = .ok (.putfield 28, 3) := by decide +kernel
theorem dX1_begin_30 : decode cX1_begin 30 = .ok (.aload_n 0, 1) := by decide +kernel
theorem dX1_begin_31 : decode cX1_begin 31 = .ok (.iload_n 2, 1) := by decide +kernel
theorem dX1_begin_32 : decode cX1_begin 32 = .ok (.putfield 31, 3) := by decide +kernel
theorem dX1_begin_35 : decode cX1_begin 35 = .ok (.return_, 1) := by decide +kernel
theorem dX1_copyFrom_0 : decode cX1_copyFrom 0 = .ok (.aload_n 0, 1) := by decide +kernel
theorem dX1_copyFrom_1 : decode cX1_copyFrom 1 = .ok (.aload_n 1, 1) := by decide +kernel
theorem dX1_copyFrom_2 : decode cX1_copyFrom 2 = .ok (.getfield 11, 3) := by decide +kernel
theorem dX1_copyFrom_5 : decode cX1_copyFrom 5 = .ok (.putfield 11, 3) := by decide +kernel
theorem dX1_copyFrom_8 : decode cX1_copyFrom 8 = .ok (.aload_n 0, 1) := by decide +kernel
theorem dX1_copyFrom_9 : decode cX1_copyFrom 9 = .ok (.aload_n 1, 1) := by decide +kernel
theorem dX1_copyFrom_10 : decode cX1_copyFrom 10 = .ok (.getfield 15, 3) := by decide +kernel
theorem dX1_copyFrom_13 : decode cX1_copyFrom 13 = .ok (.putfield 15, 3) := by decide +kernel
theorem dX1_copyFrom_16 : decode cX1_copyFrom 16 = .ok (.aload_n 0, 1) := by decide +kernel
theorem dX1_copyFrom_17 : decode cX1_copyFrom 17 = .ok (.aload_n 1, 1) := by decide +kernel
theorem dX1_copyFrom_18 : decode cX1_copyFrom 18 = .ok (.getfield 18, 3) := by decide +kernel
theorem dX1_copyFrom_21 : decode cX1_copyFrom 21 = .ok (.putfield 18, 3) := by decide +kernel
theorem dX1_copyFrom_24 : decode cX1_copyFrom 24 = .ok (.aload_n 0, 1) := by decide +kernel
theorem dX1_copyFrom_25 : decode cX1_copyFrom 25 = .ok (.aload_n 1, 1) := by decide +kernel
theorem dX1_copyFrom_26 : decode cX1_copyFrom 26 = .ok (.getfield 22, 3) := by decide +kernel
theorem dX1_copyFrom_29 : decode cX1_copyFrom 29 = .ok (.putfield 22, 3) := by decide +kernel
theorem dX1_copyFrom_32 : decode cX1_copyFrom 32 = .ok (.aload_n 0, 1) := by decide +kernel
theorem dX1_copyFrom_33 : decode cX1_copyFrom 33 = .ok (.aload_n 1, 1) := by decide +kernel
theorem dX1_copyFrom_34 : decode cX1_copyFrom 34 = .ok (.getfield 25, 3) := by decide +kernel
theorem dX1_copyFrom_37 : decode cX1_copyFrom 37 = .ok (.putfield 25, 3) := by decide +kernel
theorem dX1_copyFrom_40 : decode cX1_copyFrom 40 = .ok (.aload_n 0, 1) := by decide +kernel
theorem dX1_copyFrom_41 : decode cX1_copyFrom 41 = .ok (.aload_n 1, 1) := by decide +kernel
theorem dX1_copyFrom_42 : decode cX1_copyFrom 42 = .ok (.getfield 28, 3) := by decide +kernel
theorem dX1_copyFrom_45 : decode cX1_copyFrom 45 = .ok (.putfield 28, 3) := by decide +kernel
theorem dX1_copyFrom_48 : decode cX1_copyFrom 48 = .ok (.aload_n 0, 1) := by decide +kernel
theorem dX1_copyFrom_49 : decode cX1_copyFrom 49 = .ok (.aload_n 1, 1) := by decide +kernel
theorem dX1_copyFrom_50 : decode cX1_copyFrom 50 = .ok (.getfield 31, 3) := by decide +kernel
theorem dX1_copyFrom_53 : decode cX1_copyFrom 53 = .ok (.putfield 31, 3) := by decide +kernel
theorem dX1_copyFrom_56 : decode cX1_copyFrom 56 = .ok (.return_, 1) := by decide +kernel
theorem dX1_back_0 : decode cX1_back 0 = .ok (.aload_n 0, 1) := by decide +kernel
theorem dX1_back_1 : decode cX1_back 1 = .ok (.getfield 11, 3) := by decide +kernel
theorem dX1_back_4 : decode cX1_back 4 = .ok (.aload_n 0, 1) := by decide +kernel
theorem dX1_back_5 : decode cX1_back 5 = .ok (.getfield 15, 3) := by decide +kernel
theorem dX1_back_8 : decode cX1_back 8 = .ok (.isub, 1) := by decide +kernel
theorem dX1_back_9 : decode cX1_back 9 = .ok (.ireturn, 1) := by decide +kernel
theorem dX1_liesUnder_0 : decode cX1_liesUnder 0 = .ok (.aload_n 0, 1) := by decide +kernel
theorem dX1_liesUnder_1 : decode cX1_liesUnder 1 = .ok (.getfield 11, 3) := by decide +kernel
theorem dX1_liesUnder_4 : decode cX1_liesUnder 4 = .ok (.iload_n 1, 1) := by decide +kernel
theorem dX1_liesUnder_5 : decode cX1_liesUnder 5 = .ok (.if_icmp .lt 20, 3) := by decide +kernel
theorem dX1_liesUnder_8 : decode cX1_liesUnder 8 = .ok (.aload_n 0, 1) := by decide +kernel
theorem dX1_liesUnder_9 : decode cX1_liesUnder 9 = .ok (.getfield 11, 3) := by decide +kernel
theorem dX1_liesUnder_12 : decode cX1_liesUnder 12 = .ok (.aload_n 0, 1) := by decide +kernel
theorem dX1_liesUnder_13 : decode cX1_liesUnder 13 = .ok (.getfield 15, 3) := by decide +kernel
theorem dX1_liesUnder_16 : decode cX1_liesUnder 16 = .ok (.isub, 1) := by decide +kernel
theorem dX1_liesUnder_17 : decode cX1_liesUnder 17 = .ok (.iload_n 1, 1) := by decide +kernel
theorem dX1_liesUnder_18 : decode cX1_liesUnder 18 = .ok (.if_icmp .ge 7, 3) := by decide +kernel
theorem dX1_liesUnder_21 : decode cX1_liesUnder 21 = .ok (.iconst 1, 1) := by decide +kernel
theorem dX1_liesUnder_22 : decode cX1_liesUnder 22 = .ok (.goto 4, 3) := by decide +kernel
theorem dX1_liesUnder_25 : decode cX1_liesUnder 25 = .ok (.iconst 0, 1) := by decide +kernel
theorem dX1_liesUnder_26 : decode cX1_liesUnder 26 = .ok (.ireturn, 1) := by decide +kernel
theorem dX1_tell_0 : decode cX1_tell 0 = .ok (.iload_n 1, 1) := by decide +kernel
theorem dX1_tell_1 : decode cX1_tell 1 = .ok (.tableswitch 105 0 5 #[39, 48, 53, 66, 87, 100], 39) := by decide +kernel
theorem dX1_tell_40 : decode cX1_tell 40 = .ok (.aload_n 0, 1) := by decide +kernel
theorem dX1_tell_41 : decode cX1_tell 41 = .ok (.getfield 11, 3) := by decide +kernel
theorem dX1_tell_44 : decode cX1_tell 44 = .ok (.sipush 1000, 3) := by decide +kernel
theorem dX1_tell_47 : decode cX1_tell 47 = .ok (.iadd, 1) := by decide +kernel
theorem dX1_tell_48 : decode cX1_tell 48 = .ok (.ireturn, 1) := by decide +kernel
theorem dX1_tell_49 : decode cX1_tell 49 = .ok (.aload_n 0, 1) := by decide +kernel
theorem dX1_tell_50 : decode cX1_tell 50 = .ok (.getfield 15, 3) := by decide +kernel
theorem dX1_tell_53 : decode cX1_tell 53 = .ok (.ireturn, 1) := by decide +kernel
theorem dX1_tell_54 : decode cX1_tell 54 = .ok (.aload_n 0, 1) := by decide +kernel
theorem dX1_tell_55 : decode cX1_tell 55 = .ok (.getfield 18, 3) := by decide +kernel
theorem dX1_tell_58 : decode cX1_tell 58 = .ok (.ifCond .eq 7, 3) := by decide +kernel
theorem dX1_tell_61 : decode cX1_tell 61 = .ok (.iconst 1, 1) := by decide +kernel
theorem dX1_tell_62 : decode cX1_tell 62 = .ok (.goto 4, 3) := by decide +kernel
theorem dX1_tell_65 : decode cX1_tell 65 = .ok (.iconst 0, 1) := by decide +kernel
theorem dX1_tell_66 : decode cX1_tell 66 = .ok (.ireturn, 1) := by decide +kernel
theorem dX1_tell_67 : decode cX1_tell 67 = .ok (.aload_n 0, 1) := by decide +kernel
theorem dX1_tell_68 : decode cX1_tell 68 = .ok (.getfield 22, 3) := by decide +kernel
theorem dX1_tell_71 : decode cX1_tell 71 = .ok (.ifCond .eq 14, 3) := by decide +kernel
theorem dX1_tell_74 : decode cX1_tell 74 = .ok (.aload_n 0, 1) := by decide +kernel
theorem dX1_tell_75 : decode cX1_tell 75 = .ok (.getfield 25, 3) := by decide +kernel
theorem dX1_tell_78 : decode cX1_tell 78 = .ok (.sipush 1000, 3) := by decide +kernel
theorem dX1_tell_81 : decode cX1_tell 81 = .ok (.iadd, 1) := by decide +kernel
theorem dX1_tell_82 : decode cX1_tell 82 = .ok (.goto 5, 3) := by decide +kernel
theorem dX1_tell_85 : decode cX1_tell 85 = .ok (.bipush (-6), 2) := by decide +kernel
theorem dX1_tell_87 : decode cX1_tell 87 = .ok (.ireturn, 1) := by decide +kernel
theorem dX1_tell_88 : decode cX1_tell 88 = .ok (.aload_n 0, 1) := by decide +kernel
theorem dX1_tell_89 : decode cX1_tell 89 = .ok (.getfield 28, 3) := by decide +kernel
theorem dX1_tell_92 : decode cX1_tell 92 = .ok (.ifCond .eq 7, 3) := by decide +kernel
theorem dX1_tell_95 : decode cX1_tell 95 = .ok (.iconst 1, 1) := by decide +kernel
theorem dX1_tell_96 : decode cX1_tell 96 = .ok (.goto 4, 3) := by decide +kernel
theorem dX1_tell_99 : decode cX1_tell 99 = .ok (.iconst 0, 1) := by decide +kernel
theorem dX1_tell_100 : decode cX1_tell 100 = .ok (.ireturn, 1) := by decide +kernel
theorem dX1_tell_101 : decode cX1_tell 101 = .ok (.aload_n 0, 1) := by decide +kernel
theorem dX1_tell_102 : decode cX1_tell 102 = .ok (.getfield 31, 3) := by decide +kernel
theorem dX1_tell_105 : decode cX1_tell 105 = .ok (.ireturn, 1) := by decide +kernel
theorem dX1_tell_106 : decode cX1_tell 106 = .ok (.bipush (-2), 2) := by decide +kernel
theorem dX1_tell_108 : decode cX1_tell 108 = .ok (.ireturn, 1) := by decide +kernel
set_option maxRecDepth 20000 in
theorem ggX2_init_X0_init : GoodIn wsX2_init wsX0_init := goodIn_r _ [10, 11, 2, 3, 12, 13, 14, 15, 16, 17, 18, 19, 20, 21, 22, 23, 24, 25, 26, 27, 28, 29, 30, 31, 32, 36, 37, 38, 39, 40, 41, 42, 43, 44, 45, 46, 47, 48, 49, 50, 51, 52] (by decide +kernel) (by decide +kernel)
set_option maxRecDepth 20000 in
theorem gX2_init_X0_init : GoodIn wsX2_init (wsX0_init) := ggX2_init_X0_init
theorem dX2_init_0 : decode cX2_init 0 = .ok (.aload_n 0, 1) := by decide +kernel
theorem dX2_init_1 : decode cX2_init 1 = .ok (.invokespecial 3, 3) := by decide +kernel
theorem dX2_init_4 : decode cX2_init 4 = .ok (.aload_n 0, 1) := by decide +kernel
theorem dX2_init_5 : decode cX2_init 5 = .ok (.bipush 7, 2) := by decide +kernel
theorem dX2_init_7 : decode cX2_init 7 = .ok (.anewarray 9, 3) := by decide +kernel
theorem dX2_init_10 : decode cX2_init 10 = .ok (.putfield 11, 3) := by decide +kernel
theorem dX2_init_13 : decode cX2_init 13 = .ok (.iconst 0, 1) := by decide +kernel
theorem dX2_init_14 : decode cX2_init 14 = .ok (.istore_n 1, 1) := by decide +kernel
theorem dX2_init_15 : decode cX2_init 15 = .ok (.iload_n 1, 1) := by decide +kernel
theorem dX2_init_16 : decode cX2_init 16 = .ok (.bipush 7, 2) := by decide +kernel
theorem dX2_init_18 : decode cX2_init 18 = .ok (.if_icmp .ge 22, 3) := by decide +kernel
theorem dX2_init_21 : decode cX2_init 21 = .ok (.aload_n 0, 1) := by decide +kernel
theorem dX2_init_22 : decode cX2_init 22 = .ok (.getfield 11, 3) := by decide +kernel
theorem dX2_init_25 : decode cX2_init 25 = .ok (.iload_n 1, 1) := by decide +kernel
theorem dX2_init_26 : decode cX2_init 26 = .ok (.new 9, 3) := by decide +kernel
theorem dX2_init_29 : decode cX2_init 29 = .ok (.dup, 1) := by decide +kernel
theorem dX2_init_30 : decode cX2_init 30 = .ok (.invokespecial 15, 3) := by decide +kernel
theorem dX2_init_33 : decode cX2_init 33 = .ok (.aastore, 1) := by decide +kernel
theorem dX2_init_34 : decode cX2_init 34 = .ok (.iinc 1 1, 3) := by decide +kernel
theorem dX2_init_37 : decode cX2_init 37 = .ok (.goto (-22), 3) := by decide +kernel
theorem dX2_init_40 : decode cX2_init 40 = .ok (.return_, 1) := by decide +kernel
set_option maxRecDepth 20000 in
theorem ggX2_stateAt_J9_floorMod_7cf53 : GoodIn wsX2_stateAt wsJ9_floorMod_7cf53 := goodIn_r _ [6] (by decide +kernel) (by decide +kernel)
set_option maxRecDepth 20000 in
theorem gX2_stateAt_J9_floorMod_7cf53 : GoodIn wsX2_stateAt (va_wsS RX2 20 yJ9_floorMod_7cf53 wsJ9_floorMod_7cf53) := goodIn_app (goodIn_of _ (by decide +kernel)) ggX2_stateAt_J9_floorMod_7cf53
theorem dX2_stateAt_0 : decode cX2_stateAt 0 = .ok (.aload_n 0, 1) := by decide +kernel
theorem dX2_stateAt_1 : decode cX2_stateAt 1 = .ok (.getfield 11, 3) := by decide +kernel
theorem dX2_stateAt_4 : decode cX2_stateAt 4 = .ok (.aload_n 0, 1) := by decide +kernel
theorem dX2_stateAt_5 : decode cX2_stateAt 5 = .ok (.getfield 16, 3) := by decide +kernel
theorem dX2_stateAt_8 : decode cX2_stateAt 8 = .ok (.iload_n 1, 1) := by decide +kernel
theorem dX2_stateAt_9 : decode cX2_stateAt 9 = .ok (.iadd, 1) := by decide +kernel
theorem dX2_stateAt_10 : decode cX2_stateAt 10 = .ok (.bipush 7, 2) := by decide +kernel
theorem dX2_stateAt_12 : decode cX2_stateAt 12 = .ok (.invokestatic 20, 3) := by decide +kernel
theorem dX2_stateAt_15 : decode cX2_stateAt 15 = .ok (.aaload, 1) := by decide +kernel
theorem dX2_stateAt_16 : decode cX2_stateAt 16 = .ok (.areturn, 1) := by decide +kernel
set_option maxRecDepth 20000 in
theorem ggX2_note_X2_stateAt : GoodIn wsX2_note wsX2_stateAt := goodIn_r _ [6, 7, 8, 9, 10, 11, 12, 44, 45, 46] (by decide +kernel) (by decide +kernel)
set_option maxRecDepth 20000 in
theorem gX2_note_X2_stateAt : GoodIn wsX2_note (wsV RX2 29 RX2 yX2_stateAt wsX2_stateAt) := goodIn_app (goodIn_of _ (by decide +kernel)) ggX2_note_X2_stateAt
set_option maxRecDepth 20000 in
theorem ggX2_note_X0_copyFrom : GoodIn wsX2_note wsX0_copyFrom := goodIn_r _ [17, 18, 19, 20, 21, 22, 23, 24, 25, 26, 27, 28, 29, 30, 31, 32, 33, 34, 35, 36, 37, 38, 39, 40, 41, 42, 43, 47, 48, 49, 50, 51, 52, 53, 54, 55, 56, 57, 58, 59, 60, 61, 62, 63] (by decide +kernel) (by decide +kernel)
set_option maxRecDepth 20000 in
theorem gX2_note_X0_copyFrom : GoodIn wsX2_note (wsV RX2 33 RX0 yX0_copyFrom wsX0_copyFrom) := goodIn_app (goodIn_of _ (by decide +kernel)) ggX2_note_X0_copyFrom
theorem dX2_note_0 : decode cX2_note 0 = .ok (.aload_n 0, 1) := by decide +kernel
theorem dX2_note_1 : decode cX2_note 1 = .ok (.aload_n 0, 1) := by decide +kernel
theorem dX2_note_2 : decode cX2_note 2 = .ok (.getfield 26, 3) := by decide +kernel
theorem dX2_note_5 : decode cX2_note 5 = .ok (.invokevirtual 29, 3) := by decide +kernel
theorem dX2_note_8 : decode cX2_note 8 = .ok (.aload_n 1, 1) := by decide +kernel
theorem dX2_note_9 : decode cX2_note 9 = .ok (.invokevirtual 33, 3) := by decide +kernel
theorem dX2_note_12 : decode cX2_note 12 = .ok (.return_, 1) := by decide +kernel
set_option maxRecDepth 20000 in
theorem ggX2_keepNoted_J9_floorMod_7cf53 : GoodIn wsX2_keepNoted wsJ9_floorMod_7cf53 := goodIn_r _ [6] (by decide +kernel) (by decide +kernel)
set_option maxRecDepth 20000 in
theorem gX2_keepNoted_J9_floorMod_7cf53 : GoodIn wsX2_keepNoted (va_wsS RX2 20 yJ9_floorMod_7cf53 wsJ9_floorMod_7cf53) := goodIn_app (goodIn_of _ (by decide +kernel)) ggX2_keepNoted_J9_floorMod_7cf53
theorem dX2_keepNoted_0 : decode cX2_keepNoted 0 = .ok (.aload_n 0, 1) := by decide +kernel
theorem dX2_keepNoted_1 : decode cX2_keepNoted 1 = .ok (.getfield 26, 3) := by decide +kernel
theorem dX2_keepNoted_4 : decode cX2_keepNoted 4 = .ok (.bipush 6, 2) := by decide +kernel
theorem dX2_keepNoted_6 : decode cX2_keepNoted 6 = .ok (.if_icmp .ge 16, 3) := by decide +kernel
theorem dX2_keepNoted_9 : decode cX2_keepNoted 9 = .ok (.aload_n 0, 1) := by decide +kernel
theorem dX2_keepNoted_10 : decode cX2_keepNoted 10 = .ok (.dup, 1) := by decide +kernel
theorem dX2_keepNoted_11 : decode cX2_keepNoted 11 = .ok (.getfield 26, 3) := by decide +kernel
theorem dX2_keepNoted_14 : decode cX2_keepNoted 14 = .ok (.iconst 1, 1) := by decide +kernel
theorem dX2_keepNoted_15 : decode cX2_keepNoted 15 = .ok (.iadd, 1) := by decide +kernel
theorem dX2_keepNoted_16 : decode cX2_keepNoted 16 = .ok (.putfield 26, 3) := by decide +kernel
theorem dX2_keepNoted_19 : decode cX2_keepNoted 19 = .ok (.goto 18, 3) := by decide +kernel
theorem dX2_keepNoted_22 : decode cX2_keepNoted 22 = .ok (.aload_n 0, 1) := by decide +kernel
theorem dX2_keepNoted_23 : decode cX2_keepNoted 23 = .ok (.aload_n 0, 1) := by decide +kernel
theorem dX2_keepNoted_24 : decode cX2_keepNoted 24 = .ok (.getfield 16, 3) := by decide +kernel
theorem dX2_keepNoted_27 : decode cX2_keepNoted 27 = .ok (.iconst 1, 1) := by decide +kernel
theorem dX2_keepNoted_28 : decode cX2_keepNoted 28 = .ok (.iadd, 1) := by decide +kernel
theorem dX2_keepNoted_29 : decode cX2_keepNoted 29 = .ok (.bipush 7, 2) := by decide +kernel
theorem dX2_keepNoted_31 : decode cX2_keepNoted 31 = .ok (.invokestatic 20, 3) := by decide +kernel
theorem dX2_keepNoted_34 : decode cX2_keepNoted 34 = .ok (.putfield 16, 3) := by decide +kernel
theorem dX2_keepNoted_37 : decode cX2_keepNoted 37 = .ok (.return_, 1) := by decide +kernel
set_option maxRecDepth 20000 in
theorem ggX2_takeBack_X2_stateAt : GoodIn wsX2_takeBack wsX2_stateAt := goodIn_r _ [6, 7, 8, 9, 10, 11, 12, 44, 45, 46] (by decide +kernel) (by decide +kernel)
set_option maxRecDepth 20000 in
theorem gX2_takeBack_X2_stateAt : GoodIn wsX2_takeBack (wsV RX2 29 RX2 yX2_stateAt wsX2_stateAt) := goodIn_app (goodIn_of _ (by decide +kernel)) ggX2_takeBack_X2_stateAt
set_option maxRecDepth 20000 in
theorem ggX2_takeBack_X0_copyFrom : GoodIn wsX2_takeBack wsX0_copyFrom := goodIn_r _ [17, 18, 19, 20, 21, 22, 23, 24, 25, 26, 27, 28, 29, 30, 31, 32, 33, 34, 35, 36, 37, 38, 39, 40, 41, 42, 43, 47, 48, 49, 50, 51, 52, 53, 54, 55, 56, 57, 58, 59, 60, 61, 62, 63] (by decide +kernel) (by decide +kernel)
set_option maxRecDepth 20000 in
theorem gX2_takeBack_X0_copyFrom : GoodIn wsX2_takeBack (wsV RX2 33 RX0 yX0_copyFrom wsX0_copyFrom) := goodIn_app (goodIn_of _ (by decide +kernel)) ggX2_takeBack_X0_copyFrom
theorem dX2_takeBack_0 : decode cX2_takeBack 0 = .ok (.aload_n 0, 1) := by decide +kernel
theorem dX2_takeBack_1 : decode cX2_takeBack 1 = .ok (.getfield 26, 3) := by decide +kernel
theorem dX2_takeBack_4 : decode cX2_takeBack 4 = .ok (.ifCond .le 25, 3) := by decide +kernel
theorem dX2_takeBack_7 : decode cX2_takeBack 7 = .ok (.aload_n 0, 1) := by decide +kernel
theorem dX2_takeBack_8 : decode cX2_takeBack 8 = .ok (.dup, 1) := by decide +kernel
theorem dX2_takeBack_9 : decode cX2_takeBack 9 = .ok (.getfield 26, 3) := by decide +kernel
theorem dX2_takeBack_12 : decode cX2_takeBack 12 = .ok (.iconst 1, 1) := by decide +kernel
theorem dX2_takeBack_13 : decode cX2_takeBack 13 = .ok (.isub, 1) := by decide +kernel
theorem dX2_takeBack_14 : decode cX2_takeBack 14 = .ok (.putfield 26, 3) := by decide +kernel
theorem dX2_takeBack_17 : decode cX2_takeBack 17 = .ok (.aload_n 1, 1) := by decide +kernel
theorem dX2_takeBack_18 : decode cX2_takeBack 18 = .ok (.aload_n 0, 1) := by decide +kernel
theorem dX2_takeBack_19 : decode cX2_takeBack 19 = .ok (.aload_n 0, 1) := by decide +kernel
theorem dX2_takeBack_20 : decode cX2_takeBack 20 = .ok (.getfield 26, 3) := by decide +kernel
theorem dX2_takeBack_23 : decode cX2_takeBack 23 = .ok (.invokevirtual 29, 3) := by decide +kernel
theorem dX2_takeBack_26 : decode cX2_takeBack 26 = .ok (.invokevirtual 33, 3) := by decide +kernel
theorem dX2_takeBack_29 : decode cX2_takeBack 29 = .ok (.return_, 1) := by decide +kernel
theorem dX3_init_0 : decode cX3_init 0 = .ok (.aload_n 0, 1) := by decide +kernel
theorem dX3_init_1 : decode cX3_init 1 = .ok (.invokespecial 3, 3) := by decide +kernel
theorem dX3_init_4 : decode cX3_init 4 = .ok (.aload_n 0, 1) := by decide +kernel
theorem dX3_init_5 : decode cX3_init 5 = .ok (.bipush 60, 2) := by decide +kernel
theorem dX3_init_7 : decode cX3_init 7 = .ok (.newarray .char, 2) := by decide +kernel
theorem dX3_init_9 : decode cX3_init 9 = .ok (.putfield 11, 3) := by decide +kernel
theorem dX3_init_12 : decode cX3_init 12 = .ok (.return_, 1) := by decide +kernel
theorem dJ9_floorDiv_7cf53_0 : decode cJ9_floorDiv_7cf53 0 = .ok (.iload_n 0, 1) := by decide +kernel
theorem dJ9_floorDiv_7cf53_1 : decode cJ9_floorDiv_7cf53 1 = .ok (.iload_n 1, 1) := by decide +kernel
theorem dJ9_floorDiv_7cf53_2 : decode cJ9_floorDiv_7cf53 2 = .ok (.idiv, 1) := by decide +kernel
theorem dJ9_floorDiv_7cf53_3 : decode cJ9_floorDiv_7cf53 3 = .ok (.istore_n 2, 1) := by decide +kernel
theorem dJ9_floorDiv_7cf53_4 : decode cJ9_floorDiv_7cf53 4 = .ok (.iload_n 0, 1) := by decide +kernel
theorem dJ9_floorDiv_7cf53_5 : decode cJ9_floorDiv_7cf53 5 = .ok (.iload_n 1, 1) := by decide +kernel
theorem dJ9_floorDiv_7cf53_6 : decode cJ9_floorDiv_7cf53 6 = .ok (.ixor, 1) := by decide +kernel
theorem dJ9_floorDiv_7cf53_7 : decode cJ9_floorDiv_7cf53 7 = .ok (.ifCond .ge 14, 3) := by decide +kernel
theorem dJ9_floorDiv_7cf53_10 : decode cJ9_floorDiv_7cf53 10 = .ok (.iload_n 2, 1) := by decide +kernel
theorem dJ9_floorDiv_7cf53_11 : decode cJ9_floorDiv_7cf53 11 = .ok (.iload_n 1, 1) := by decide +kernel
theorem dJ9_floorDiv_7cf53_12 : decode cJ9_floorDiv_7cf53 12 = .ok (.imul, 1) := by decide +kernel
theorem dJ9_floorDiv_7cf53_13 : decode cJ9_floorDiv_7cf53 13 = .ok (.iload_n 0, 1) := by decide +kernel
theorem dJ9_floorDiv_7cf53_14 : decode cJ9_floorDiv_7cf53 14 = .ok (.if_icmp .eq 7, 3) := by decide +kernel
theorem dJ9_floorDiv_7cf53_17 : decode cJ9_floorDiv_7cf53 17 = .ok (.iload_n 2, 1) := by decide +kernel
theorem dJ9_floorDiv_7cf53_18 : decode cJ9_floorDiv_7cf53 18 = .ok (.iconst 1, 1) := by decide +kernel
theorem dJ9_floorDiv_7cf53_19 : decode cJ9_floorDiv_7cf53 19 = .ok (.isub, 1) := by decide +kernel
theorem dJ9_floorDiv_7cf53_20 : decode cJ9_floorDiv_7cf53 20 = .ok (.ireturn, 1) := by decide +kernel
theorem dJ9_floorDiv_7cf53_21 : decode cJ9_floorDiv_7cf53 21 = .ok (.iload_n 2, 1) := by decide +kernel
theorem dJ9_floorDiv_7cf53_22 : decode cJ9_floorDiv_7cf53 22 = .ok (.ireturn, 1) := by decide +kernel
theorem dJ9_floorMod_7cf53_0 : decode cJ9_floorMod_7cf53 0 = .ok (.iload_n 0, 1) := by decide +kernel
theorem dJ9_floorMod_7cf53_1 : decode cJ9_floorMod_7cf53 1 = .ok (.iload_n 1, 1) := by decide +kernel
theorem dJ9_floorMod_7cf53_2 : decode cJ9_floorMod_7cf53 2 = .ok (.irem, 1) := by decide +kernel
theorem dJ9_floorMod_7cf53_3 : decode cJ9_floorMod_7cf53 3 = .ok (.istore_n 2, 1) := by decide +kernel
theorem dJ9_floorMod_7cf53_4 : decode cJ9_floorMod_7cf53 4 = .ok (.iload_n 0, 1) := by decide +kernel
theorem dJ9_floorMod_7cf53_5 : decode cJ9_floorMod_7cf53 5 = .ok (.iload_n 1, 1) := by decide +kernel
theorem dJ9_floorMod_7cf53_6 : decode cJ9_floorMod_7cf53 6 = .ok (.ixor, 1) := by decide +kernel
theorem dJ9_floorMod_7cf53_7 : decode cJ9_floorMod_7cf53 7 = .ok (.ifCond .ge 11, 3) := by decide +kernel
theorem dJ9_floorMod_7cf53_10 : decode cJ9_floorMod_7cf53 10 = .ok (.iload_n 2, 1) := by decide +kernel
theorem dJ9_floorMod_7cf53_11 : decode cJ9_floorMod_7cf53 11 = .ok (.ifCond .eq 7, 3) := by decide +kernel
theorem dJ9_floorMod_7cf53_14 : decode cJ9_floorMod_7cf53 14 = .ok (.iload_n 2, 1) := by decide +kernel
theorem dJ9_floorMod_7cf53_15 : decode cJ9_floorMod_7cf53 15 = .ok (.iload_n 1, 1) := by decide +kernel
theorem dJ9_floorMod_7cf53_16 : decode cJ9_floorMod_7cf53 16 = .ok (.iadd, 1) := by decide +kernel
theorem dJ9_floorMod_7cf53_17 : decode cJ9_floorMod_7cf53 17 = .ok (.ireturn, 1) := by decide +kernel
theorem dJ9_floorMod_7cf53_18 : decode cJ9_floorMod_7cf53 18 = .ok (.iload_n 2, 1) := by decide +kernel
theorem dJ9_floorMod_7cf53_19 : decode cJ9_floorMod_7cf53 19 = .ok (.ireturn, 1) := by decide +kernel
theorem dJ9_abs_0f7a4_0 : decode cJ9_abs_0f7a4 0 = .ok (.iload_n 0, 1) := by decide +kernel
theorem dJ9_abs_0f7a4_1 : decode cJ9_abs_0f7a4 1 = .ok (.ifCond .ge 8, 3) := by decide +kernel
theorem dJ9_abs_0f7a4_4 : decode cJ9_abs_0f7a4 4 = .ok (.iload_n 0, 1) := by decide +kernel
theorem dJ9_abs_0f7a4_5 : decode cJ9_abs_0f7a4 5 = .ok (.ineg, 1) := by decide +kernel
theorem dJ9_abs_0f7a4_6 : decode cJ9_abs_0f7a4 6 = .ok (.goto 4, 3) := by decide +kernel
theorem dJ9_abs_0f7a4_9 : decode cJ9_abs_0f7a4 9 = .ok (.iload_n 0, 1) := by decide +kernel
theorem dJ9_abs_0f7a4_10 : decode cJ9_abs_0f7a4 10 = .ok (.ireturn, 1) := by decide +kernel
theorem dJ9_min_7cf53_0 : decode cJ9_min_7cf53 0 = .ok (.iload_n 0, 1) := by decide +kernel
theorem dJ9_min_7cf53_1 : decode cJ9_min_7cf53 1 = .ok (.iload_n 1, 1) := by decide +kernel
theorem dJ9_min_7cf53_2 : decode cJ9_min_7cf53 2 = .ok (.if_icmp .gt 7, 3) := by decide +kernel
theorem dJ9_min_7cf53_5 : decode cJ9_min_7cf53 5 = .ok (.iload_n 0, 1) := by decide +kernel
theorem dJ9_min_7cf53_6 : decode cJ9_min_7cf53 6 = .ok (.goto 4, 3) := by decide +kernel
theorem dJ9_min_7cf53_9 : decode cJ9_min_7cf53 9 = .ok (.iload_n 1, 1) := by decide +kernel
theorem dJ9_min_7cf53_10 : decode cJ9_min_7cf53 10 = .ok (.ireturn, 1) := by decide +kernel
